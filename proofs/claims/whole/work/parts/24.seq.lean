set_option maxHeartbeats 4000000 in
set_option maxRecDepth 100000 in
theorem c_Seq_has (l : Launch) (dC : Nat → ClassId) (dI : Nat → Nat → Nat) (kB kI : ClassId) (s0 : Nat) (s1 : Nat) (s2 : Nat) (s3 : Nat) (st : Nat → Int32) (li : Nat → Int32) (of : Nat → Int32) (pt : Nat) (nu : Nat) (ma : Nat) (x : Int32) (xi : Int) (hnu : nu ≤ 140000) (hpt : 1 ≤ pt) (hpt2 : pt ≤ 65536) (xh : x.toInt = xi) : zMi l yX6_has wsX6_has ({ frames := 0, cells := 0, slots := 0, locals := 0 }) (dC, dI) kB kI [.ref s0, .int x] [(s0, .inr (6, [.ref s1, .ref s2, .ref s3, .int (nI pt), .int (nI nu), .int (nI ma)])), (s1, .inl (kI, 140001, .inl st)), (s2, .inl (kI, 140000, .inl li)), (s3, .inl (kI, 140000, .inl of))] 0 0 (fun (r : Int32) => fun _ : Unit => (r = 1 ∧ 0 ≤ xi ∧ xi < nu) ∨ (r = 0 ∧ (xi < 0 ∨ (nu : Int) ≤ xi))) (fun _ : Unit => [(s0, .inr (6, [.ref s1, .ref s2, .ref s3, .int (nI pt), .int (nI nu), .int (nI ma)])), (s1, .inl (kI, 140001, .inl st)), (s2, .inl (kI, 140000, .inl li)), (s3, .inl (kI, 140000, .inl of))]) := by
  intro sz
  refine Met.ofW (cc := cX6_has) (maxL := 2) (ret := (some .boolean)) (by decide) rfl ?_
  intro p e s m args below meth c s₁ B hml hv
  obtain ⟨rfl, hsz, hP, hK, hD0⟩ := hv
  have hx := B.exec
  have hb := B.bytes
  have hr := B.returns
  have hts := atoms_spec (ws := wsX6_has) B.pre
  have hown : s.vm.findClass RX6 = some m.cls := findClass_of_methodNamed B.named
  have hlocks := B.notSynchronized
  subst hsz
  have hD := hD0.self (sz := s.heap.size)
  generalize hAe : va_A [(s0, .inr (6, [.ref s1, .ref s2, .ref s3, .int (nI pt), .int (nI nu), .int (nI ma)])), (s1, .inl (kI, 140001, .inl st)), (s2, .inl (kI, 140000, .inl li)), (s3, .inl (kI, 140000, .inl of))] s.heap.size = A at hD ⊢
  have hA : ∀ q : Nat, s.heap.size ≤ q → A q := fun q h => by rw [← hAe]; exact Or.inr h
  have hS : va_S A s.heap s.heap [] := va_S.rf
  have hP : va_P (dC, dI) vwCl [(s0, .inr (6, [.ref s1, .ref s2, .ref s3, .int (nI pt), .int (nI nu), .int (nI ma)])), (s1, .inl (kI, 140001, .inl st)), (s2, .inl (kI, 140000, .inl li)), (s3, .inl (kI, 140000, .inl of))] s.heap := hP
  have hl := lv_entry ([.ref s0, .int x]) (n := 2) (Nat.le_of_ble_eq_true rfl)
  rw [lg_entry_eq]
  generalize (lg_sl ([.ref s0, .int x]) ++ List.replicate (2 - (lg_sl ([.ref s0, .int x])).length) Slot.unset).toArray = ls at hl ⊢
  have hl : lv_has ls 2 [(0, .ref s0), (1, .int x)] := hl
  refine zG (fun GG hG1 hG2 => ?_)
  refine lv_iload_n hx hb dX6_has_0 rfl (lv_at hl 1 rfl) ?_
  refine zb_if_lt (tgt := 22) (a := xi) hx hb dX6_has_1 (by decide) xh (fun c1 => ?_) (fun c1 => ?_)
  · refine lv_iconst (v := 0) hx hb dX6_has_22 (by decide) ?_
    have hP9 := hP.sub (ws' := [(s0, .inr (6, [.ref s1, .ref s2, .ref s3, .int (nI pt), .int (nI nu), .int (nI ma)])), (s1, .inl (kI, 140001, .inl st)), (s2, .inl (kI, 140000, .inl li)), (s3, .inl (kI, 140000, .inl of))]) [0, 1, 2, 3] rfl
    have hD9 := hD.sub (ws' := [(s0, .inr (6, [.ref s1, .ref s2, .ref s3, .int (nI pt), .int (nI nu), .int (nI ma)])), (s1, .inl (kI, 140001, .inl st)), (s2, .inl (kI, 140000, .inl li)), (s3, .inl (kI, 140000, .inl of))]) [0, 1, 2, 3] (by decide) rfl
    exact W.zret (v := 0) hx hb hr (by decide) (fun t9 ht9 hW9 => ⟨⟨0, (), rfl, (by right; exact ⟨rfl, by omega⟩), by rw [ht9]; exact hP9, va_K.moved hW9.alike hK, hD9⟩, hS.F ht9⟩) hS.2.2 dX6_has_23
  · refine lv_iload_n hx hb dX6_has_4 rfl (lv_at hl 1 rfl) ?_
    refine lv_aload_n hx hb dX6_has_5 rfl (lv_at hl 0 rfl) ?_
    refine va_get (D := (dC, dI)) (ci := 6) (v := .int (nI nu)) (C := RX6) (T := TX6) (N := 6) hx hb hts (by decide +kernel) hown hK hP 0 rfl rfl 4 (by decide) (hts (.fieldLink RX6 27 "SequenceFrames$Sequences" "number" "I") (by decide +kernel)) (fun _ h9 => h9) rfl dX6_has_6 ?_
    refine zb_icmp_ge (tgt := 22) (a := xi) (b := ((nu : Nat) : Int)) hx hb dX6_has_9 (by decide) xh (nI_toInt (by omega)) (fun c9 => ?_) (fun c9 => ?_)
    · refine lv_iconst (v := 0) hx hb dX6_has_22 (by decide) ?_
      have hP9 := hP.sub (ws' := [(s0, .inr (6, [.ref s1, .ref s2, .ref s3, .int (nI pt), .int (nI nu), .int (nI ma)])), (s1, .inl (kI, 140001, .inl st)), (s2, .inl (kI, 140000, .inl li)), (s3, .inl (kI, 140000, .inl of))]) [0, 1, 2, 3] rfl
      have hD9 := hD.sub (ws' := [(s0, .inr (6, [.ref s1, .ref s2, .ref s3, .int (nI pt), .int (nI nu), .int (nI ma)])), (s1, .inl (kI, 140001, .inl st)), (s2, .inl (kI, 140000, .inl li)), (s3, .inl (kI, 140000, .inl of))]) [0, 1, 2, 3] (by decide) rfl
      exact W.zret (v := 0) hx hb hr (by decide) (fun t9 ht9 hW9 => ⟨⟨0, (), rfl, (by right; exact ⟨rfl, by omega⟩), by rw [ht9]; exact hP9, va_K.moved hW9.alike hK, hD9⟩, hS.F ht9⟩) hS.2.2 dX6_has_23
    · refine lv_iload_n hx hb dX6_has_12 rfl (lv_at hl 1 rfl) ?_
      refine lv_ldc (v := 140000) hx hb hown (hts (.constant RX6 16 140000) (by decide +kernel)) dX6_has_13 ?_
      refine zb_icmp_ge (tgt := 22) (a := xi) (b := 140000) hx hb dX6_has_15 (by decide) xh (by decide) (fun c15 => ?_) (fun c15 => ?_)
      · omega
      · refine lv_iconst (v := 1) hx hb dX6_has_18 (by decide) ?_
        refine lv_goto (tgt := 23) hx hb dX6_has_19 (by decide) ?_
        have hP9 := hP.sub (ws' := [(s0, .inr (6, [.ref s1, .ref s2, .ref s3, .int (nI pt), .int (nI nu), .int (nI ma)])), (s1, .inl (kI, 140001, .inl st)), (s2, .inl (kI, 140000, .inl li)), (s3, .inl (kI, 140000, .inl of))]) [0, 1, 2, 3] rfl
        have hD9 := hD.sub (ws' := [(s0, .inr (6, [.ref s1, .ref s2, .ref s3, .int (nI pt), .int (nI nu), .int (nI ma)])), (s1, .inl (kI, 140001, .inl st)), (s2, .inl (kI, 140000, .inl li)), (s3, .inl (kI, 140000, .inl of))]) [0, 1, 2, 3] (by decide) rfl
        exact W.zret (v := 1) hx hb hr (by decide) (fun t9 ht9 hW9 => ⟨⟨1, (), rfl, (by left; exact ⟨rfl, by omega, by omega⟩), by rw [ht9]; exact hP9, va_K.moved hW9.alike hK, hD9⟩, hS.F ht9⟩) hS.2.2 dX6_has_23

set_option maxHeartbeats 4000000 in
set_option maxRecDepth 100000 in
theorem c_Seq_startOf (l : Launch) (dC : Nat → ClassId) (dI : Nat → Nat → Nat) (kB kI : ClassId) (s0 : Nat) (s1 : Nat) (s2 : Nat) (s3 : Nat) (st : Nat → Int32) (li : Nat → Int32) (of : Nat → Int32) (pt : Nat) (nu : Nat) (ma : Nat) (x : Int32) (xi : Int) (hnu : nu ≤ 140000) (hpt : 1 ≤ pt) (hpt2 : pt ≤ 65536) (xh : x.toInt = xi) : zMi l yX6_startOf wsX6_startOf ({ frames := 1, cells := 0, slots := 0, locals := 21 }) (dC, dI) kB kI [.ref s0, .int x] [(s0, .inr (6, [.ref s1, .ref s2, .ref s3, .int (nI pt), .int (nI nu), .int (nI ma)])), (s1, .inl (kI, 140001, .inl st)), (s2, .inl (kI, 140000, .inl li)), (s3, .inl (kI, 140000, .inl of))] 0 0 (fun (r : Int32) => fun _ : Unit => (∃ j : Nat, xi = j ∧ j < nu ∧ r = st j) ∨ ((xi < 0 ∨ (nu : Int) ≤ xi) ∧ r = -1)) (fun _ : Unit => [(s0, .inr (6, [.ref s1, .ref s2, .ref s3, .int (nI pt), .int (nI nu), .int (nI ma)])), (s1, .inl (kI, 140001, .inl st)), (s2, .inl (kI, 140000, .inl li)), (s3, .inl (kI, 140000, .inl of))]) := by
  intro sz
  refine Met.ofW (cc := cX6_startOf) (maxL := 2) (ret := (some .int)) (by decide) rfl ?_
  intro p e s m args below meth c s₁ B hml hv
  obtain ⟨rfl, hsz, hP, hK, hD0⟩ := hv
  have hx := B.exec
  have hb := B.bytes
  have hr := B.returns
  have hts := atoms_spec (ws := wsX6_startOf) B.pre
  have hown : s.vm.findClass RX6 = some m.cls := findClass_of_methodNamed B.named
  have hlocks := B.notSynchronized
  subst hsz
  have hD := hD0.self (sz := s.heap.size)
  generalize hAe : va_A [(s0, .inr (6, [.ref s1, .ref s2, .ref s3, .int (nI pt), .int (nI nu), .int (nI ma)])), (s1, .inl (kI, 140001, .inl st)), (s2, .inl (kI, 140000, .inl li)), (s3, .inl (kI, 140000, .inl of))] s.heap.size = A at hD ⊢
  have hA : ∀ q : Nat, s.heap.size ≤ q → A q := fun q h => by rw [← hAe]; exact Or.inr h
  have hS : va_S A s.heap s.heap [] := va_S.rf
  have hP : va_P (dC, dI) vwCl [(s0, .inr (6, [.ref s1, .ref s2, .ref s3, .int (nI pt), .int (nI nu), .int (nI ma)])), (s1, .inl (kI, 140001, .inl st)), (s2, .inl (kI, 140000, .inl li)), (s3, .inl (kI, 140000, .inl of))] s.heap := hP
  have hl := lv_entry ([.ref s0, .int x]) (n := 2) (Nat.le_of_ble_eq_true rfl)
  rw [lg_entry_eq]
  generalize (lg_sl ([.ref s0, .int x]) ++ List.replicate (2 - (lg_sl ([.ref s0, .int x])).length) Slot.unset).toArray = ls at hl ⊢
  have hl : lv_has ls 2 [(0, .ref s0), (1, .int x)] := hl
  refine zG (fun GG hG1 hG2 => ?_)
  refine lv_aload_n hx hb dX6_startOf_0 rfl (lv_at hl 0 rfl) ?_
  refine lv_iload_n hx hb dX6_startOf_1 rfl (lv_at hl 1 rfl) ?_
  refine z_calli (wr := []) (va_runV (As := [.int x]) (rest := []) ⟨hx, hb, hml, hown, hts⟩ (c_Seq_has l dC dI kB kI s0 s1 s2 s3 st li of pt nu ma x xi (by omega) (by omega) (by omega) xh s.heap.size) (cwV 1 hts gX6_startOf_X6_has rfl rfl rfl (by decide +kernel) ⟨Nat.le_of_ble_eq_true rfl, Nat.le_of_ble_eq_true rfl⟩) (z_preV hK (hP.sub [0, 1, 2, 3] rfl) (hD.sub [0, 1, 2, 3] (by decide) rfl) (va_recv hK hP (ci := 6) (q0 := 0) rfl rfl)) rfl rfl hl.1 rfl (lv_room (Nat.le_of_ble_eq_true rfl)) dX6_startOf_2 ⟨Nat.le_of_ble_eq_true rfl, Nat.le_of_ble_eq_true rfl⟩) hK hP hD hS hA [0, 1, 2, 3] [] rfl rfl (by decide) (by decide) (fun r1 uq2 H locs hw hP hD hS => ?_)
  replace hw : (r1 = 1 ∧ 0 ≤ xi ∧ xi < nu) ∨ (r1 = 0 ∧ (xi < 0 ∨ (nu : Int) ≤ xi)) := hw
  have hP : va_P (dC, dI) vwCl [(s0, .inr (6, [.ref s1, .ref s2, .ref s3, .int (nI pt), .int (nI nu), .int (nI ma)])), (s1, .inl (kI, 140001, .inl st)), (s2, .inl (kI, 140000, .inl li)), (s3, .inl (kI, 140000, .inl of))] H := hP
  have hD : va_D A [(s0, .inr (6, [.ref s1, .ref s2, .ref s3, .int (nI pt), .int (nI nu), .int (nI ma)])), (s1, .inl (kI, 140001, .inl st)), (s2, .inl (kI, 140000, .inl li)), (s3, .inl (kI, 140000, .inl of))] := hD
  rcases hw with ⟨r1e, hw⟩ | ⟨r1e, hw⟩ <;> subst r1e
  · obtain ⟨j, jb, xe⟩ := z_nat (x := x) (by omega)
    subst xe
    rw [nI_toInt jb] at xh
    subst xh
    refine lv_if_eq (tgt := 17) hx hb dX6_startOf_5 (by decide) (fun c => absurd c (by decide)) (fun _ => ?_)
    refine lv_aload_n hx hb dX6_startOf_8 rfl (lv_at hl 0 rfl) ?_
    refine va_get (D := (dC, dI)) (ci := 6) (v := .ref s1) (C := RX6) (T := TX6) (N := 6) hx hb hts (by decide +kernel) hown hK hP 0 rfl rfl 0 (by decide) (hts (.fieldLink RX6 10 "SequenceFrames$Sequences" "starts" "[I") (by decide +kernel)) (fun _ h9 => h9) rfl dX6_startOf_9 ?_
    refine lv_iload_n hx hb dX6_startOf_12 rfl (lv_at hl 1 rfl) ?_
    refine va_iald hx hb hK hP 1 1 rfl rfl (zin rfl (by omega) (by omega)) dX6_startOf_13 ?_
    refine lv_is (y := (st j)) (zld st rfl (by omega)) ?_
    refine lv_goto (tgt := 18) hx hb dX6_startOf_14 (by decide) ?_
    have hP9 := hP.sub (ws' := [(s0, .inr (6, [.ref s1, .ref s2, .ref s3, .int (nI pt), .int (nI nu), .int (nI ma)])), (s1, .inl (kI, 140001, .inl st)), (s2, .inl (kI, 140000, .inl li)), (s3, .inl (kI, 140000, .inl of))]) [0, 1, 2, 3] rfl
    have hD9 := hD.sub (ws' := [(s0, .inr (6, [.ref s1, .ref s2, .ref s3, .int (nI pt), .int (nI nu), .int (nI ma)])), (s1, .inl (kI, 140001, .inl st)), (s2, .inl (kI, 140000, .inl li)), (s3, .inl (kI, 140000, .inl of))]) [0, 1, 2, 3] (by decide) rfl
    exact W.iret (v := (st j)) hx hb hr (fun t9 ht9 hW9 => ⟨⟨(st j), (), rfl, (by left; exact ⟨j, rfl, by omega, rfl⟩), by rw [ht9]; exact hP9, va_K.moved hW9.alike hK, hD9⟩, hS.F ht9⟩) hS.2.2 dX6_startOf_18
  · refine lv_if_eq (tgt := 17) hx hb dX6_startOf_5 (by decide) (fun _ => ?_) (fun c => absurd c (by decide))
    refine lv_iconst (v := (-1)) hx hb dX6_startOf_17 (by decide) ?_
    have hP9 := hP.sub (ws' := [(s0, .inr (6, [.ref s1, .ref s2, .ref s3, .int (nI pt), .int (nI nu), .int (nI ma)])), (s1, .inl (kI, 140001, .inl st)), (s2, .inl (kI, 140000, .inl li)), (s3, .inl (kI, 140000, .inl of))]) [0, 1, 2, 3] rfl
    have hD9 := hD.sub (ws' := [(s0, .inr (6, [.ref s1, .ref s2, .ref s3, .int (nI pt), .int (nI nu), .int (nI ma)])), (s1, .inl (kI, 140001, .inl st)), (s2, .inl (kI, 140000, .inl li)), (s3, .inl (kI, 140000, .inl of))]) [0, 1, 2, 3] (by decide) rfl
    exact W.iret (v := (-1)) hx hb hr (fun t9 ht9 hW9 => ⟨⟨(-1), (), rfl, (by right; exact ⟨hw, rfl⟩), by rw [ht9]; exact hP9, va_K.moved hW9.alike hK, hD9⟩, hS.F ht9⟩) hS.2.2 dX6_startOf_18

set_option maxHeartbeats 4000000 in
set_option maxRecDepth 100000 in
theorem c_Seq_literalsOf (l : Launch) (dC : Nat → ClassId) (dI : Nat → Nat → Nat) (kB kI : ClassId) (s0 : Nat) (s1 : Nat) (s2 : Nat) (s3 : Nat) (st : Nat → Int32) (li : Nat → Int32) (of : Nat → Int32) (pt : Nat) (nu : Nat) (ma : Nat) (x : Int32) (xi : Int) (hnu : nu ≤ 140000) (hpt : 1 ≤ pt) (hpt2 : pt ≤ 65536) (xh : x.toInt = xi) : zMi l yX6_literalsOf wsX6_literalsOf ({ frames := 1, cells := 0, slots := 0, locals := 21 }) (dC, dI) kB kI [.ref s0, .int x] [(s0, .inr (6, [.ref s1, .ref s2, .ref s3, .int (nI pt), .int (nI nu), .int (nI ma)])), (s1, .inl (kI, 140001, .inl st)), (s2, .inl (kI, 140000, .inl li)), (s3, .inl (kI, 140000, .inl of))] 0 0 (fun (r : Int32) => fun _ : Unit => (∃ j : Nat, xi = j ∧ j < nu ∧ r = li j) ∨ ((xi < 0 ∨ (nu : Int) ≤ xi) ∧ r = -1)) (fun _ : Unit => [(s0, .inr (6, [.ref s1, .ref s2, .ref s3, .int (nI pt), .int (nI nu), .int (nI ma)])), (s1, .inl (kI, 140001, .inl st)), (s2, .inl (kI, 140000, .inl li)), (s3, .inl (kI, 140000, .inl of))]) := by
  intro sz
  refine Met.ofW (cc := cX6_literalsOf) (maxL := 2) (ret := (some .int)) (by decide) rfl ?_
  intro p e s m args below meth c s₁ B hml hv
  obtain ⟨rfl, hsz, hP, hK, hD0⟩ := hv
  have hx := B.exec
  have hb := B.bytes
  have hr := B.returns
  have hts := atoms_spec (ws := wsX6_literalsOf) B.pre
  have hown : s.vm.findClass RX6 = some m.cls := findClass_of_methodNamed B.named
  have hlocks := B.notSynchronized
  subst hsz
  have hD := hD0.self (sz := s.heap.size)
  generalize hAe : va_A [(s0, .inr (6, [.ref s1, .ref s2, .ref s3, .int (nI pt), .int (nI nu), .int (nI ma)])), (s1, .inl (kI, 140001, .inl st)), (s2, .inl (kI, 140000, .inl li)), (s3, .inl (kI, 140000, .inl of))] s.heap.size = A at hD ⊢
  have hA : ∀ q : Nat, s.heap.size ≤ q → A q := fun q h => by rw [← hAe]; exact Or.inr h
  have hS : va_S A s.heap s.heap [] := va_S.rf
  have hP : va_P (dC, dI) vwCl [(s0, .inr (6, [.ref s1, .ref s2, .ref s3, .int (nI pt), .int (nI nu), .int (nI ma)])), (s1, .inl (kI, 140001, .inl st)), (s2, .inl (kI, 140000, .inl li)), (s3, .inl (kI, 140000, .inl of))] s.heap := hP
  have hl := lv_entry ([.ref s0, .int x]) (n := 2) (Nat.le_of_ble_eq_true rfl)
  rw [lg_entry_eq]
  generalize (lg_sl ([.ref s0, .int x]) ++ List.replicate (2 - (lg_sl ([.ref s0, .int x])).length) Slot.unset).toArray = ls at hl ⊢
  have hl : lv_has ls 2 [(0, .ref s0), (1, .int x)] := hl
  refine zG (fun GG hG1 hG2 => ?_)
  refine lv_aload_n hx hb dX6_literalsOf_0 rfl (lv_at hl 0 rfl) ?_
  refine lv_iload_n hx hb dX6_literalsOf_1 rfl (lv_at hl 1 rfl) ?_
  refine z_calli (wr := []) (va_runV (As := [.int x]) (rest := []) ⟨hx, hb, hml, hown, hts⟩ (c_Seq_has l dC dI kB kI s0 s1 s2 s3 st li of pt nu ma x xi (by omega) (by omega) (by omega) xh s.heap.size) (cwV 1 hts gX6_literalsOf_X6_has rfl rfl rfl (by decide +kernel) ⟨Nat.le_of_ble_eq_true rfl, Nat.le_of_ble_eq_true rfl⟩) (z_preV hK (hP.sub [0, 1, 2, 3] rfl) (hD.sub [0, 1, 2, 3] (by decide) rfl) (va_recv hK hP (ci := 6) (q0 := 0) rfl rfl)) rfl rfl hl.1 rfl (lv_room (Nat.le_of_ble_eq_true rfl)) dX6_literalsOf_2 ⟨Nat.le_of_ble_eq_true rfl, Nat.le_of_ble_eq_true rfl⟩) hK hP hD hS hA [0, 1, 2, 3] [] rfl rfl (by decide) (by decide) (fun r1 uq2 H locs hw hP hD hS => ?_)
  replace hw : (r1 = 1 ∧ 0 ≤ xi ∧ xi < nu) ∨ (r1 = 0 ∧ (xi < 0 ∨ (nu : Int) ≤ xi)) := hw
  have hP : va_P (dC, dI) vwCl [(s0, .inr (6, [.ref s1, .ref s2, .ref s3, .int (nI pt), .int (nI nu), .int (nI ma)])), (s1, .inl (kI, 140001, .inl st)), (s2, .inl (kI, 140000, .inl li)), (s3, .inl (kI, 140000, .inl of))] H := hP
  have hD : va_D A [(s0, .inr (6, [.ref s1, .ref s2, .ref s3, .int (nI pt), .int (nI nu), .int (nI ma)])), (s1, .inl (kI, 140001, .inl st)), (s2, .inl (kI, 140000, .inl li)), (s3, .inl (kI, 140000, .inl of))] := hD
  rcases hw with ⟨r1e, hw⟩ | ⟨r1e, hw⟩ <;> subst r1e
  · obtain ⟨j, jb, xe⟩ := z_nat (x := x) (by omega)
    subst xe
    rw [nI_toInt jb] at xh
    subst xh
    refine lv_if_eq (tgt := 17) hx hb dX6_literalsOf_5 (by decide) (fun c => absurd c (by decide)) (fun _ => ?_)
    refine lv_aload_n hx hb dX6_literalsOf_8 rfl (lv_at hl 0 rfl) ?_
    refine va_get (D := (dC, dI)) (ci := 6) (v := .ref s2) (C := RX6) (T := TX6) (N := 6) hx hb hts (by decide +kernel) hown hK hP 0 rfl rfl 1 (by decide) (hts (.fieldLink RX6 17 "SequenceFrames$Sequences" "literals" "[I") (by decide +kernel)) (fun _ h9 => h9) rfl dX6_literalsOf_9 ?_
    refine lv_iload_n hx hb dX6_literalsOf_12 rfl (lv_at hl 1 rfl) ?_
    refine va_iald hx hb hK hP 2 1 rfl rfl (zin rfl (by omega) (by omega)) dX6_literalsOf_13 ?_
    refine lv_is (y := (li j)) (zld li rfl (by omega)) ?_
    refine lv_goto (tgt := 18) hx hb dX6_literalsOf_14 (by decide) ?_
    have hP9 := hP.sub (ws' := [(s0, .inr (6, [.ref s1, .ref s2, .ref s3, .int (nI pt), .int (nI nu), .int (nI ma)])), (s1, .inl (kI, 140001, .inl st)), (s2, .inl (kI, 140000, .inl li)), (s3, .inl (kI, 140000, .inl of))]) [0, 1, 2, 3] rfl
    have hD9 := hD.sub (ws' := [(s0, .inr (6, [.ref s1, .ref s2, .ref s3, .int (nI pt), .int (nI nu), .int (nI ma)])), (s1, .inl (kI, 140001, .inl st)), (s2, .inl (kI, 140000, .inl li)), (s3, .inl (kI, 140000, .inl of))]) [0, 1, 2, 3] (by decide) rfl
    exact W.iret (v := (li j)) hx hb hr (fun t9 ht9 hW9 => ⟨⟨(li j), (), rfl, (by left; exact ⟨j, rfl, by omega, rfl⟩), by rw [ht9]; exact hP9, va_K.moved hW9.alike hK, hD9⟩, hS.F ht9⟩) hS.2.2 dX6_literalsOf_18
  · refine lv_if_eq (tgt := 17) hx hb dX6_literalsOf_5 (by decide) (fun _ => ?_) (fun c => absurd c (by decide))
    refine lv_iconst (v := (-1)) hx hb dX6_literalsOf_17 (by decide) ?_
    have hP9 := hP.sub (ws' := [(s0, .inr (6, [.ref s1, .ref s2, .ref s3, .int (nI pt), .int (nI nu), .int (nI ma)])), (s1, .inl (kI, 140001, .inl st)), (s2, .inl (kI, 140000, .inl li)), (s3, .inl (kI, 140000, .inl of))]) [0, 1, 2, 3] rfl
    have hD9 := hD.sub (ws' := [(s0, .inr (6, [.ref s1, .ref s2, .ref s3, .int (nI pt), .int (nI nu), .int (nI ma)])), (s1, .inl (kI, 140001, .inl st)), (s2, .inl (kI, 140000, .inl li)), (s3, .inl (kI, 140000, .inl of))]) [0, 1, 2, 3] (by decide) rfl
    exact W.iret (v := (-1)) hx hb hr (fun t9 ht9 hW9 => ⟨⟨(-1), (), rfl, (by right; exact ⟨hw, rfl⟩), by rw [ht9]; exact hP9, va_K.moved hW9.alike hK, hD9⟩, hS.F ht9⟩) hS.2.2 dX6_literalsOf_18

set_option maxHeartbeats 4000000 in
set_option maxRecDepth 100000 in
theorem c_Seq_offsetOf (l : Launch) (dC : Nat → ClassId) (dI : Nat → Nat → Nat) (kB kI : ClassId) (s0 : Nat) (s1 : Nat) (s2 : Nat) (s3 : Nat) (st : Nat → Int32) (li : Nat → Int32) (of : Nat → Int32) (pt : Nat) (nu : Nat) (ma : Nat) (x : Int32) (xi : Int) (hnu : nu ≤ 140000) (hpt : 1 ≤ pt) (hpt2 : pt ≤ 65536) (xh : x.toInt = xi) : zMi l yX6_offsetOf wsX6_offsetOf ({ frames := 1, cells := 0, slots := 0, locals := 21 }) (dC, dI) kB kI [.ref s0, .int x] [(s0, .inr (6, [.ref s1, .ref s2, .ref s3, .int (nI pt), .int (nI nu), .int (nI ma)])), (s1, .inl (kI, 140001, .inl st)), (s2, .inl (kI, 140000, .inl li)), (s3, .inl (kI, 140000, .inl of))] 0 0 (fun (r : Int32) => fun _ : Unit => (∃ j : Nat, xi = j ∧ j < nu ∧ r = of j) ∨ ((xi < 0 ∨ (nu : Int) ≤ xi) ∧ r = -1)) (fun _ : Unit => [(s0, .inr (6, [.ref s1, .ref s2, .ref s3, .int (nI pt), .int (nI nu), .int (nI ma)])), (s1, .inl (kI, 140001, .inl st)), (s2, .inl (kI, 140000, .inl li)), (s3, .inl (kI, 140000, .inl of))]) := by
  intro sz
  refine Met.ofW (cc := cX6_offsetOf) (maxL := 2) (ret := (some .int)) (by decide) rfl ?_
  intro p e s m args below meth c s₁ B hml hv
  obtain ⟨rfl, hsz, hP, hK, hD0⟩ := hv
  have hx := B.exec
  have hb := B.bytes
  have hr := B.returns
  have hts := atoms_spec (ws := wsX6_offsetOf) B.pre
  have hown : s.vm.findClass RX6 = some m.cls := findClass_of_methodNamed B.named
  have hlocks := B.notSynchronized
  subst hsz
  have hD := hD0.self (sz := s.heap.size)
  generalize hAe : va_A [(s0, .inr (6, [.ref s1, .ref s2, .ref s3, .int (nI pt), .int (nI nu), .int (nI ma)])), (s1, .inl (kI, 140001, .inl st)), (s2, .inl (kI, 140000, .inl li)), (s3, .inl (kI, 140000, .inl of))] s.heap.size = A at hD ⊢
  have hA : ∀ q : Nat, s.heap.size ≤ q → A q := fun q h => by rw [← hAe]; exact Or.inr h
  have hS : va_S A s.heap s.heap [] := va_S.rf
  have hP : va_P (dC, dI) vwCl [(s0, .inr (6, [.ref s1, .ref s2, .ref s3, .int (nI pt), .int (nI nu), .int (nI ma)])), (s1, .inl (kI, 140001, .inl st)), (s2, .inl (kI, 140000, .inl li)), (s3, .inl (kI, 140000, .inl of))] s.heap := hP
  have hl := lv_entry ([.ref s0, .int x]) (n := 2) (Nat.le_of_ble_eq_true rfl)
  rw [lg_entry_eq]
  generalize (lg_sl ([.ref s0, .int x]) ++ List.replicate (2 - (lg_sl ([.ref s0, .int x])).length) Slot.unset).toArray = ls at hl ⊢
  have hl : lv_has ls 2 [(0, .ref s0), (1, .int x)] := hl
  refine zG (fun GG hG1 hG2 => ?_)
  refine lv_aload_n hx hb dX6_offsetOf_0 rfl (lv_at hl 0 rfl) ?_
  refine lv_iload_n hx hb dX6_offsetOf_1 rfl (lv_at hl 1 rfl) ?_
  refine z_calli (wr := []) (va_runV (As := [.int x]) (rest := []) ⟨hx, hb, hml, hown, hts⟩ (c_Seq_has l dC dI kB kI s0 s1 s2 s3 st li of pt nu ma x xi (by omega) (by omega) (by omega) xh s.heap.size) (cwV 1 hts gX6_offsetOf_X6_has rfl rfl rfl (by decide +kernel) ⟨Nat.le_of_ble_eq_true rfl, Nat.le_of_ble_eq_true rfl⟩) (z_preV hK (hP.sub [0, 1, 2, 3] rfl) (hD.sub [0, 1, 2, 3] (by decide) rfl) (va_recv hK hP (ci := 6) (q0 := 0) rfl rfl)) rfl rfl hl.1 rfl (lv_room (Nat.le_of_ble_eq_true rfl)) dX6_offsetOf_2 ⟨Nat.le_of_ble_eq_true rfl, Nat.le_of_ble_eq_true rfl⟩) hK hP hD hS hA [0, 1, 2, 3] [] rfl rfl (by decide) (by decide) (fun r1 uq2 H locs hw hP hD hS => ?_)
  replace hw : (r1 = 1 ∧ 0 ≤ xi ∧ xi < nu) ∨ (r1 = 0 ∧ (xi < 0 ∨ (nu : Int) ≤ xi)) := hw
  have hP : va_P (dC, dI) vwCl [(s0, .inr (6, [.ref s1, .ref s2, .ref s3, .int (nI pt), .int (nI nu), .int (nI ma)])), (s1, .inl (kI, 140001, .inl st)), (s2, .inl (kI, 140000, .inl li)), (s3, .inl (kI, 140000, .inl of))] H := hP
  have hD : va_D A [(s0, .inr (6, [.ref s1, .ref s2, .ref s3, .int (nI pt), .int (nI nu), .int (nI ma)])), (s1, .inl (kI, 140001, .inl st)), (s2, .inl (kI, 140000, .inl li)), (s3, .inl (kI, 140000, .inl of))] := hD
  rcases hw with ⟨r1e, hw⟩ | ⟨r1e, hw⟩ <;> subst r1e
  · obtain ⟨j, jb, xe⟩ := z_nat (x := x) (by omega)
    subst xe
    rw [nI_toInt jb] at xh
    subst xh
    refine lv_if_eq (tgt := 17) hx hb dX6_offsetOf_5 (by decide) (fun c => absurd c (by decide)) (fun _ => ?_)
    refine lv_aload_n hx hb dX6_offsetOf_8 rfl (lv_at hl 0 rfl) ?_
    refine va_get (D := (dC, dI)) (ci := 6) (v := .ref s3) (C := RX6) (T := TX6) (N := 6) hx hb hts (by decide +kernel) hown hK hP 0 rfl rfl 2 (by decide) (hts (.fieldLink RX6 20 "SequenceFrames$Sequences" "offsets" "[I") (by decide +kernel)) (fun _ h9 => h9) rfl dX6_offsetOf_9 ?_
    refine lv_iload_n hx hb dX6_offsetOf_12 rfl (lv_at hl 1 rfl) ?_
    refine va_iald hx hb hK hP 3 1 rfl rfl (zin rfl (by omega) (by omega)) dX6_offsetOf_13 ?_
    refine lv_is (y := (of j)) (zld of rfl (by omega)) ?_
    refine lv_goto (tgt := 18) hx hb dX6_offsetOf_14 (by decide) ?_
    have hP9 := hP.sub (ws' := [(s0, .inr (6, [.ref s1, .ref s2, .ref s3, .int (nI pt), .int (nI nu), .int (nI ma)])), (s1, .inl (kI, 140001, .inl st)), (s2, .inl (kI, 140000, .inl li)), (s3, .inl (kI, 140000, .inl of))]) [0, 1, 2, 3] rfl
    have hD9 := hD.sub (ws' := [(s0, .inr (6, [.ref s1, .ref s2, .ref s3, .int (nI pt), .int (nI nu), .int (nI ma)])), (s1, .inl (kI, 140001, .inl st)), (s2, .inl (kI, 140000, .inl li)), (s3, .inl (kI, 140000, .inl of))]) [0, 1, 2, 3] (by decide) rfl
    exact W.iret (v := (of j)) hx hb hr (fun t9 ht9 hW9 => ⟨⟨(of j), (), rfl, (by left; exact ⟨j, rfl, by omega, rfl⟩), by rw [ht9]; exact hP9, va_K.moved hW9.alike hK, hD9⟩, hS.F ht9⟩) hS.2.2 dX6_offsetOf_18
  · refine lv_if_eq (tgt := 17) hx hb dX6_offsetOf_5 (by decide) (fun _ => ?_) (fun c => absurd c (by decide))
    refine lv_iconst (v := (-1)) hx hb dX6_offsetOf_17 (by decide) ?_
    have hP9 := hP.sub (ws' := [(s0, .inr (6, [.ref s1, .ref s2, .ref s3, .int (nI pt), .int (nI nu), .int (nI ma)])), (s1, .inl (kI, 140001, .inl st)), (s2, .inl (kI, 140000, .inl li)), (s3, .inl (kI, 140000, .inl of))]) [0, 1, 2, 3] rfl
    have hD9 := hD.sub (ws' := [(s0, .inr (6, [.ref s1, .ref s2, .ref s3, .int (nI pt), .int (nI nu), .int (nI ma)])), (s1, .inl (kI, 140001, .inl st)), (s2, .inl (kI, 140000, .inl li)), (s3, .inl (kI, 140000, .inl of))]) [0, 1, 2, 3] (by decide) rfl
    exact W.iret (v := (-1)) hx hb hr (fun t9 ht9 hW9 => ⟨⟨(-1), (), rfl, (by right; exact ⟨hw, rfl⟩), by rw [ht9]; exact hP9, va_K.moved hW9.alike hK, hD9⟩, hS.F ht9⟩) hS.2.2 dX6_offsetOf_18

set_option maxHeartbeats 4000000 in
set_option maxRecDepth 100000 in
theorem c_Seq_matchOf (l : Launch) (dC : Nat → ClassId) (dI : Nat → Nat → Nat) (kB kI : ClassId) (s0 : Nat) (s1 : Nat) (s2 : Nat) (s3 : Nat) (st : Nat → Int32) (li : Nat → Int32) (of : Nat → Int32) (pt : Nat) (nu : Nat) (ma : Nat) (x : Int32) (xi : Int) (hnu : nu ≤ 140000) (hpt : 1 ≤ pt) (hpt2 : pt ≤ 65536) (xh : x.toInt = xi) : zMi l yX6_matchOf wsX6_matchOf ({ frames := 1, cells := 0, slots := 0, locals := 21 }) (dC, dI) kB kI [.ref s0, .int x] [(s0, .inr (6, [.ref s1, .ref s2, .ref s3, .int (nI pt), .int (nI nu), .int (nI ma)])), (s1, .inl (kI, 140001, .inl st)), (s2, .inl (kI, 140000, .inl li)), (s3, .inl (kI, 140000, .inl of))] 0 0 (fun (r : Int32) => fun _ : Unit => (∃ j : Nat, xi = j ∧ j < nu ∧ r = (st (j + 1) - st j) - li j) ∨ ((xi < 0 ∨ (nu : Int) ≤ xi) ∧ r = -1)) (fun _ : Unit => [(s0, .inr (6, [.ref s1, .ref s2, .ref s3, .int (nI pt), .int (nI nu), .int (nI ma)])), (s1, .inl (kI, 140001, .inl st)), (s2, .inl (kI, 140000, .inl li)), (s3, .inl (kI, 140000, .inl of))]) := by
  intro sz
  refine Met.ofW (cc := cX6_matchOf) (maxL := 2) (ret := (some .int)) (by decide) rfl ?_
  intro p e s m args below meth c s₁ B hml hv
  obtain ⟨rfl, hsz, hP, hK, hD0⟩ := hv
  have hx := B.exec
  have hb := B.bytes
  have hr := B.returns
  have hts := atoms_spec (ws := wsX6_matchOf) B.pre
  have hown : s.vm.findClass RX6 = some m.cls := findClass_of_methodNamed B.named
  have hlocks := B.notSynchronized
  subst hsz
  have hD := hD0.self (sz := s.heap.size)
  generalize hAe : va_A [(s0, .inr (6, [.ref s1, .ref s2, .ref s3, .int (nI pt), .int (nI nu), .int (nI ma)])), (s1, .inl (kI, 140001, .inl st)), (s2, .inl (kI, 140000, .inl li)), (s3, .inl (kI, 140000, .inl of))] s.heap.size = A at hD ⊢
  have hA : ∀ q : Nat, s.heap.size ≤ q → A q := fun q h => by rw [← hAe]; exact Or.inr h
  have hS : va_S A s.heap s.heap [] := va_S.rf
  have hP : va_P (dC, dI) vwCl [(s0, .inr (6, [.ref s1, .ref s2, .ref s3, .int (nI pt), .int (nI nu), .int (nI ma)])), (s1, .inl (kI, 140001, .inl st)), (s2, .inl (kI, 140000, .inl li)), (s3, .inl (kI, 140000, .inl of))] s.heap := hP
  have hl := lv_entry ([.ref s0, .int x]) (n := 2) (Nat.le_of_ble_eq_true rfl)
  rw [lg_entry_eq]
  generalize (lg_sl ([.ref s0, .int x]) ++ List.replicate (2 - (lg_sl ([.ref s0, .int x])).length) Slot.unset).toArray = ls at hl ⊢
  have hl : lv_has ls 2 [(0, .ref s0), (1, .int x)] := hl
  refine zG (fun GG hG1 hG2 => ?_)
  refine lv_aload_n hx hb dX6_matchOf_0 rfl (lv_at hl 0 rfl) ?_
  refine lv_iload_n hx hb dX6_matchOf_1 rfl (lv_at hl 1 rfl) ?_
  refine z_calli (wr := []) (va_runV (As := [.int x]) (rest := []) ⟨hx, hb, hml, hown, hts⟩ (c_Seq_has l dC dI kB kI s0 s1 s2 s3 st li of pt nu ma x xi (by omega) (by omega) (by omega) xh s.heap.size) (cwV 1 hts gX6_matchOf_X6_has rfl rfl rfl (by decide +kernel) ⟨Nat.le_of_ble_eq_true rfl, Nat.le_of_ble_eq_true rfl⟩) (z_preV hK (hP.sub [0, 1, 2, 3] rfl) (hD.sub [0, 1, 2, 3] (by decide) rfl) (va_recv hK hP (ci := 6) (q0 := 0) rfl rfl)) rfl rfl hl.1 rfl (lv_room (Nat.le_of_ble_eq_true rfl)) dX6_matchOf_2 ⟨Nat.le_of_ble_eq_true rfl, Nat.le_of_ble_eq_true rfl⟩) hK hP hD hS hA [0, 1, 2, 3] [] rfl rfl (by decide) (by decide) (fun r1 uq2 H locs hw hP hD hS => ?_)
  replace hw : (r1 = 1 ∧ 0 ≤ xi ∧ xi < nu) ∨ (r1 = 0 ∧ (xi < 0 ∨ (nu : Int) ≤ xi)) := hw
  have hP : va_P (dC, dI) vwCl [(s0, .inr (6, [.ref s1, .ref s2, .ref s3, .int (nI pt), .int (nI nu), .int (nI ma)])), (s1, .inl (kI, 140001, .inl st)), (s2, .inl (kI, 140000, .inl li)), (s3, .inl (kI, 140000, .inl of))] H := hP
  have hD : va_D A [(s0, .inr (6, [.ref s1, .ref s2, .ref s3, .int (nI pt), .int (nI nu), .int (nI ma)])), (s1, .inl (kI, 140001, .inl st)), (s2, .inl (kI, 140000, .inl li)), (s3, .inl (kI, 140000, .inl of))] := hD
  rcases hw with ⟨r1e, hw⟩ | ⟨r1e, hw⟩ <;> subst r1e
  · obtain ⟨j, jb, xe⟩ := z_nat (x := x) (by omega)
    subst xe
    rw [nI_toInt jb] at xh
    subst xh
    refine lv_if_eq (tgt := 33) hx hb dX6_matchOf_5 (by decide) (fun c => absurd c (by decide)) (fun _ => ?_)
    refine lv_aload_n hx hb dX6_matchOf_8 rfl (lv_at hl 0 rfl) ?_
    refine va_get (D := (dC, dI)) (ci := 6) (v := .ref s1) (C := RX6) (T := TX6) (N := 6) hx hb hts (by decide +kernel) hown hK hP 0 rfl rfl 0 (by decide) (hts (.fieldLink RX6 10 "SequenceFrames$Sequences" "starts" "[I") (by decide +kernel)) (fun _ h9 => h9) rfl dX6_matchOf_9 ?_
    refine lv_iload_n hx hb dX6_matchOf_12 rfl (lv_at hl 1 rfl) ?_
    refine lv_iconst (v := 1) hx hb dX6_matchOf_13 (by decide) ?_
    refine lv_iadd hx hb dX6_matchOf_14 ?_
    refine lv_is (y := (nI (j + 1))) ((zn_add rfl (show (1 : Int32) = nI 1 from rfl))) ?_
    refine va_iald hx hb hK hP 1 1 rfl rfl (zin rfl (by omega) (by omega)) dX6_matchOf_15 ?_
    refine lv_is (y := (st (j + 1))) (zld st rfl (by omega)) ?_
    refine lv_aload_n hx hb dX6_matchOf_16 rfl (lv_at hl 0 rfl) ?_
    refine va_get (D := (dC, dI)) (ci := 6) (v := .ref s1) (C := RX6) (T := TX6) (N := 6) hx hb hts (by decide +kernel) hown hK hP 0 rfl rfl 0 (by decide) (hts (.fieldLink RX6 10 "SequenceFrames$Sequences" "starts" "[I") (by decide +kernel)) (fun _ h9 => h9) rfl dX6_matchOf_17 ?_
    refine lv_iload_n hx hb dX6_matchOf_20 rfl (lv_at hl 1 rfl) ?_
    refine va_iald hx hb hK hP 1 1 rfl rfl (zin rfl (by omega) (by omega)) dX6_matchOf_21 ?_
    refine lv_is (y := (st j)) (zld st rfl (by omega)) ?_
    refine lv_isub hx hb dX6_matchOf_22 ?_
    refine lv_aload_n hx hb dX6_matchOf_23 rfl (lv_at hl 0 rfl) ?_
    refine va_get (D := (dC, dI)) (ci := 6) (v := .ref s2) (C := RX6) (T := TX6) (N := 6) hx hb hts (by decide +kernel) hown hK hP 0 rfl rfl 1 (by decide) (hts (.fieldLink RX6 17 "SequenceFrames$Sequences" "literals" "[I") (by decide +kernel)) (fun _ h9 => h9) rfl dX6_matchOf_24 ?_
    refine lv_iload_n hx hb dX6_matchOf_27 rfl (lv_at hl 1 rfl) ?_
    refine va_iald hx hb hK hP 2 1 rfl rfl (zin rfl (by omega) (by omega)) dX6_matchOf_28 ?_
    refine lv_is (y := (li j)) (zld li rfl (by omega)) ?_
    refine lv_isub hx hb dX6_matchOf_29 ?_
    refine lv_goto (tgt := 34) hx hb dX6_matchOf_30 (by decide) ?_
    have hP9 := hP.sub (ws' := [(s0, .inr (6, [.ref s1, .ref s2, .ref s3, .int (nI pt), .int (nI nu), .int (nI ma)])), (s1, .inl (kI, 140001, .inl st)), (s2, .inl (kI, 140000, .inl li)), (s3, .inl (kI, 140000, .inl of))]) [0, 1, 2, 3] rfl
    have hD9 := hD.sub (ws' := [(s0, .inr (6, [.ref s1, .ref s2, .ref s3, .int (nI pt), .int (nI nu), .int (nI ma)])), (s1, .inl (kI, 140001, .inl st)), (s2, .inl (kI, 140000, .inl li)), (s3, .inl (kI, 140000, .inl of))]) [0, 1, 2, 3] (by decide) rfl
    exact W.iret (v := (((st (j + 1)) - (st j)) - (li j))) hx hb hr (fun t9 ht9 hW9 => ⟨⟨(((st (j + 1)) - (st j)) - (li j)), (), rfl, (by left; exact ⟨j, rfl, by omega, rfl⟩), by rw [ht9]; exact hP9, va_K.moved hW9.alike hK, hD9⟩, hS.F ht9⟩) hS.2.2 dX6_matchOf_34
  · refine lv_if_eq (tgt := 33) hx hb dX6_matchOf_5 (by decide) (fun _ => ?_) (fun c => absurd c (by decide))
    refine lv_iconst (v := (-1)) hx hb dX6_matchOf_33 (by decide) ?_
    have hP9 := hP.sub (ws' := [(s0, .inr (6, [.ref s1, .ref s2, .ref s3, .int (nI pt), .int (nI nu), .int (nI ma)])), (s1, .inl (kI, 140001, .inl st)), (s2, .inl (kI, 140000, .inl li)), (s3, .inl (kI, 140000, .inl of))]) [0, 1, 2, 3] rfl
    have hD9 := hD.sub (ws' := [(s0, .inr (6, [.ref s1, .ref s2, .ref s3, .int (nI pt), .int (nI nu), .int (nI ma)])), (s1, .inl (kI, 140001, .inl st)), (s2, .inl (kI, 140000, .inl li)), (s3, .inl (kI, 140000, .inl of))]) [0, 1, 2, 3] (by decide) rfl
    exact W.iret (v := (-1)) hx hb hr (fun t9 ht9 hW9 => ⟨⟨(-1), (), rfl, (by right; exact ⟨hw, rfl⟩), by rw [ht9]; exact hP9, va_K.moved hW9.alike hK, hD9⟩, hS.F ht9⟩) hS.2.2 dX6_matchOf_34

set_option maxHeartbeats 4000000 in
set_option maxRecDepth 100000 in
theorem c_Seq_blockOf (l : Launch) (dC : Nat → ClassId) (dI : Nat → Nat → Nat) (kB kI : ClassId) (s0 : Nat) (s1 : Nat) (s2 : Nat) (s3 : Nat) (st : Nat → Int32) (li : Nat → Int32) (of : Nat → Int32) (pt : Nat) (nu : Nat) (ma : Nat) (sn : Nat → Nat) (x : Int32) (xi : Int) (hnu : nu ≤ 140000) (hpt : 1 ≤ pt) (hpt2 : pt ≤ 65536) (hs : ∀ j, j < nu → st j = nI (sn j) ∧ sn j ≤ 140000) (xh : x.toInt = xi) : zMi l yX6_blockOf wsX6_blockOf ({ frames := 1, cells := 0, slots := 0, locals := 21 }) (dC, dI) kB kI [.ref s0, .int x] [(s0, .inr (6, [.ref s1, .ref s2, .ref s3, .int (nI pt), .int (nI nu), .int (nI ma)])), (s1, .inl (kI, 140001, .inl st)), (s2, .inl (kI, 140000, .inl li)), (s3, .inl (kI, 140000, .inl of))] 0 0 (fun (r : Int32) => fun _ : Unit => (∃ j : Nat, xi = j ∧ j < nu ∧ r = nI (sn j / pt)) ∨ ((xi < 0 ∨ (nu : Int) ≤ xi) ∧ r = -1)) (fun _ : Unit => [(s0, .inr (6, [.ref s1, .ref s2, .ref s3, .int (nI pt), .int (nI nu), .int (nI ma)])), (s1, .inl (kI, 140001, .inl st)), (s2, .inl (kI, 140000, .inl li)), (s3, .inl (kI, 140000, .inl of))]) := by
  intro sz
  refine Met.ofW (cc := cX6_blockOf) (maxL := 2) (ret := (some .int)) (by decide) rfl ?_
  intro p e s m args below meth c s₁ B hml hv
  obtain ⟨rfl, hsz, hP, hK, hD0⟩ := hv
  have hx := B.exec
  have hb := B.bytes
  have hr := B.returns
  have hts := atoms_spec (ws := wsX6_blockOf) B.pre
  have hown : s.vm.findClass RX6 = some m.cls := findClass_of_methodNamed B.named
  have hlocks := B.notSynchronized
  subst hsz
  have hD := hD0.self (sz := s.heap.size)
  generalize hAe : va_A [(s0, .inr (6, [.ref s1, .ref s2, .ref s3, .int (nI pt), .int (nI nu), .int (nI ma)])), (s1, .inl (kI, 140001, .inl st)), (s2, .inl (kI, 140000, .inl li)), (s3, .inl (kI, 140000, .inl of))] s.heap.size = A at hD ⊢
  have hA : ∀ q : Nat, s.heap.size ≤ q → A q := fun q h => by rw [← hAe]; exact Or.inr h
  have hS : va_S A s.heap s.heap [] := va_S.rf
  have hP : va_P (dC, dI) vwCl [(s0, .inr (6, [.ref s1, .ref s2, .ref s3, .int (nI pt), .int (nI nu), .int (nI ma)])), (s1, .inl (kI, 140001, .inl st)), (s2, .inl (kI, 140000, .inl li)), (s3, .inl (kI, 140000, .inl of))] s.heap := hP
  have hl := lv_entry ([.ref s0, .int x]) (n := 2) (Nat.le_of_ble_eq_true rfl)
  rw [lg_entry_eq]
  generalize (lg_sl ([.ref s0, .int x]) ++ List.replicate (2 - (lg_sl ([.ref s0, .int x])).length) Slot.unset).toArray = ls at hl ⊢
  have hl : lv_has ls 2 [(0, .ref s0), (1, .int x)] := hl
  refine zG (fun GG hG1 hG2 => ?_)
  refine lv_aload_n hx hb dX6_blockOf_0 rfl (lv_at hl 0 rfl) ?_
  refine lv_iload_n hx hb dX6_blockOf_1 rfl (lv_at hl 1 rfl) ?_
  refine z_calli (wr := []) (va_runV (As := [.int x]) (rest := []) ⟨hx, hb, hml, hown, hts⟩ (c_Seq_has l dC dI kB kI s0 s1 s2 s3 st li of pt nu ma x xi (by omega) (by omega) (by omega) xh s.heap.size) (cwV 1 hts gX6_blockOf_X6_has rfl rfl rfl (by decide +kernel) ⟨Nat.le_of_ble_eq_true rfl, Nat.le_of_ble_eq_true rfl⟩) (z_preV hK (hP.sub [0, 1, 2, 3] rfl) (hD.sub [0, 1, 2, 3] (by decide) rfl) (va_recv hK hP (ci := 6) (q0 := 0) rfl rfl)) rfl rfl hl.1 rfl (lv_room (Nat.le_of_ble_eq_true rfl)) dX6_blockOf_2 ⟨Nat.le_of_ble_eq_true rfl, Nat.le_of_ble_eq_true rfl⟩) hK hP hD hS hA [0, 1, 2, 3] [] rfl rfl (by decide) (by decide) (fun r1 uq2 H locs hw hP hD hS => ?_)
  replace hw : (r1 = 1 ∧ 0 ≤ xi ∧ xi < nu) ∨ (r1 = 0 ∧ (xi < 0 ∨ (nu : Int) ≤ xi)) := hw
  have hP : va_P (dC, dI) vwCl [(s0, .inr (6, [.ref s1, .ref s2, .ref s3, .int (nI pt), .int (nI nu), .int (nI ma)])), (s1, .inl (kI, 140001, .inl st)), (s2, .inl (kI, 140000, .inl li)), (s3, .inl (kI, 140000, .inl of))] H := hP
  have hD : va_D A [(s0, .inr (6, [.ref s1, .ref s2, .ref s3, .int (nI pt), .int (nI nu), .int (nI ma)])), (s1, .inl (kI, 140001, .inl st)), (s2, .inl (kI, 140000, .inl li)), (s3, .inl (kI, 140000, .inl of))] := hD
  rcases hw with ⟨r1e, hw⟩ | ⟨r1e, hw⟩ <;> subst r1e
  · obtain ⟨j, jb, xe⟩ := z_nat (x := x) (by omega)
    subst xe
    rw [nI_toInt jb] at xh
    subst xh
    refine lv_if_eq (tgt := 29) hx hb dX6_blockOf_5 (by decide) (fun c => absurd c (by decide)) (fun _ => ?_)
    refine lv_aload_n hx hb dX6_blockOf_8 rfl (lv_at hl 0 rfl) ?_
    refine va_get (D := (dC, dI)) (ci := 6) (v := .int (nI pt)) (C := RX6) (T := TX6) (N := 6) hx hb hts (by decide +kernel) hown hK hP 0 rfl rfl 3 (by decide) (hts (.fieldLink RX6 23 "SequenceFrames$Sequences" "part" "I") (by decide +kernel)) (fun _ h9 => h9) rfl dX6_blockOf_9 ?_
    refine zb_if_le (tgt := 29) (a := ((pt : Nat) : Int)) hx hb dX6_blockOf_12 (by decide) (nI_toInt (by omega)) (fun c12 => ?_) (fun c12 => ?_)
    · omega
    · refine lv_aload_n hx hb dX6_blockOf_15 rfl (lv_at hl 0 rfl) ?_
      refine va_get (D := (dC, dI)) (ci := 6) (v := .ref s1) (C := RX6) (T := TX6) (N := 6) hx hb hts (by decide +kernel) hown hK hP 0 rfl rfl 0 (by decide) (hts (.fieldLink RX6 10 "SequenceFrames$Sequences" "starts" "[I") (by decide +kernel)) (fun _ h9 => h9) rfl dX6_blockOf_16 ?_
      refine lv_iload_n hx hb dX6_blockOf_19 rfl (lv_at hl 1 rfl) ?_
      refine va_iald hx hb hK hP 1 1 rfl rfl (zin rfl (by omega) (by omega)) dX6_blockOf_20 ?_
      refine lv_is (y := (st j)) (zld st rfl (by omega)) ?_
      have hsj := hs j (by omega)
      refine lv_is (y := (nI (sn j))) (hsj.1) ?_
      refine lv_aload_n hx hb dX6_blockOf_21 rfl (lv_at hl 0 rfl) ?_
      refine va_get (D := (dC, dI)) (ci := 6) (v := .int (nI pt)) (C := RX6) (T := TX6) (N := 6) hx hb hts (by decide +kernel) hown hK hP 0 rfl rfl 3 (by decide) (hts (.fieldLink RX6 23 "SequenceFrames$Sequences" "part" "I") (by decide +kernel)) (fun _ h9 => h9) rfl dX6_blockOf_22 ?_
      refine lv_idiv hx hb dX6_blockOf_25 (nI_ne0 (by omega) (by omega)) ?_
      refine lv_is (y := (nI ((sn j) / pt))) (zn_div rfl rfl (by omega) (by omega) (by omega)) ?_
      refine lv_goto (tgt := 30) hx hb dX6_blockOf_26 (by decide) ?_
      have hP9 := hP.sub (ws' := [(s0, .inr (6, [.ref s1, .ref s2, .ref s3, .int (nI pt), .int (nI nu), .int (nI ma)])), (s1, .inl (kI, 140001, .inl st)), (s2, .inl (kI, 140000, .inl li)), (s3, .inl (kI, 140000, .inl of))]) [0, 1, 2, 3] rfl
      have hD9 := hD.sub (ws' := [(s0, .inr (6, [.ref s1, .ref s2, .ref s3, .int (nI pt), .int (nI nu), .int (nI ma)])), (s1, .inl (kI, 140001, .inl st)), (s2, .inl (kI, 140000, .inl li)), (s3, .inl (kI, 140000, .inl of))]) [0, 1, 2, 3] (by decide) rfl
      exact W.iret (v := (nI ((sn j) / pt))) hx hb hr (fun t9 ht9 hW9 => ⟨⟨(nI ((sn j) / pt)), (), rfl, (by left; exact ⟨j, rfl, by omega, rfl⟩), by rw [ht9]; exact hP9, va_K.moved hW9.alike hK, hD9⟩, hS.F ht9⟩) hS.2.2 dX6_blockOf_30
  · refine lv_if_eq (tgt := 29) hx hb dX6_blockOf_5 (by decide) (fun _ => ?_) (fun c => absurd c (by decide))
    refine lv_iconst (v := (-1)) hx hb dX6_blockOf_29 (by decide) ?_
    have hP9 := hP.sub (ws' := [(s0, .inr (6, [.ref s1, .ref s2, .ref s3, .int (nI pt), .int (nI nu), .int (nI ma)])), (s1, .inl (kI, 140001, .inl st)), (s2, .inl (kI, 140000, .inl li)), (s3, .inl (kI, 140000, .inl of))]) [0, 1, 2, 3] rfl
    have hD9 := hD.sub (ws' := [(s0, .inr (6, [.ref s1, .ref s2, .ref s3, .int (nI pt), .int (nI nu), .int (nI ma)])), (s1, .inl (kI, 140001, .inl st)), (s2, .inl (kI, 140000, .inl li)), (s3, .inl (kI, 140000, .inl of))]) [0, 1, 2, 3] (by decide) rfl
    exact W.iret (v := (-1)) hx hb hr (fun t9 ht9 hW9 => ⟨⟨(-1), (), rfl, (by right; exact ⟨hw, rfl⟩), by rw [ht9]; exact hP9, va_K.moved hW9.alike hK, hD9⟩, hS.F ht9⟩) hS.2.2 dX6_blockOf_30

set_option maxHeartbeats 4000000 in
set_option maxRecDepth 100000 in
theorem c_Seq_tell (l : Launch) (dC : Nat → ClassId) (dI : Nat → Nat → Nat) (kB kI : ClassId) (s0 : Nat) (s1 : Nat) (s2 : Nat) (s3 : Nat) (st : Nat → Int32) (li : Nat → Int32) (of : Nat → Int32) (pt : Nat) (nu : Nat) (ma : Nat) (sn : Nat → Nat) (x : Int32) (xi : Int) (y : Int32) (yi : Int) (hnu : nu ≤ 140000) (hpt : 1 ≤ pt) (hpt2 : pt ≤ 65536) (hs : ∀ j, j < nu → st j = nI (sn j) ∧ sn j ≤ 140000) (xh : x.toInt = xi) (yh : y.toInt = yi) : zMi l yX6_tell wsX6_tell ({ frames := 2, cells := 0, slots := 0, locals := 42 }) (dC, dI) kB kI [.ref s0, .int x, .int y] [(s0, .inr (6, [.ref s1, .ref s2, .ref s3, .int (nI pt), .int (nI nu), .int (nI ma)])), (s1, .inl (kI, 140001, .inl st)), (s2, .inl (kI, 140000, .inl li)), (s3, .inl (kI, 140000, .inl of))] 0 0 (fun (r : Int32) => fun _ : Unit => (∃ j : Nat, xi = j ∧ j < nu ∧ ((yi = 0 ∧ r = nI (sn j / pt)) ∨ (yi = 1 ∧ r = st j) ∨ (yi = 2 ∧ r = li j) ∨ (yi = 3 ∧ r = of j) ∨ (yi = 4 ∧ r = (st (j + 1) - st j) - li j) ∨ ((yi < 0 ∨ 4 < yi) ∧ r = -1))) ∨ ((xi < 0 ∨ (nu : Int) ≤ xi) ∧ r = -1)) (fun _ : Unit => [(s0, .inr (6, [.ref s1, .ref s2, .ref s3, .int (nI pt), .int (nI nu), .int (nI ma)])), (s1, .inl (kI, 140001, .inl st)), (s2, .inl (kI, 140000, .inl li)), (s3, .inl (kI, 140000, .inl of))]) := by
  intro sz
  refine Met.ofW (cc := cX6_tell) (maxL := 3) (ret := (some .int)) (by decide) rfl ?_
  intro p e s m args below meth c s₁ B hml hv
  obtain ⟨rfl, hsz, hP, hK, hD0⟩ := hv
  have hx := B.exec
  have hb := B.bytes
  have hr := B.returns
  have hts := atoms_spec (ws := wsX6_tell) B.pre
  have hown : s.vm.findClass RX6 = some m.cls := findClass_of_methodNamed B.named
  have hlocks := B.notSynchronized
  subst hsz
  have hD := hD0.self (sz := s.heap.size)
  generalize hAe : va_A [(s0, .inr (6, [.ref s1, .ref s2, .ref s3, .int (nI pt), .int (nI nu), .int (nI ma)])), (s1, .inl (kI, 140001, .inl st)), (s2, .inl (kI, 140000, .inl li)), (s3, .inl (kI, 140000, .inl of))] s.heap.size = A at hD ⊢
  have hA : ∀ q : Nat, s.heap.size ≤ q → A q := fun q h => by rw [← hAe]; exact Or.inr h
  have hS : va_S A s.heap s.heap [] := va_S.rf
  have hP : va_P (dC, dI) vwCl [(s0, .inr (6, [.ref s1, .ref s2, .ref s3, .int (nI pt), .int (nI nu), .int (nI ma)])), (s1, .inl (kI, 140001, .inl st)), (s2, .inl (kI, 140000, .inl li)), (s3, .inl (kI, 140000, .inl of))] s.heap := hP
  have hl := lv_entry ([.ref s0, .int x, .int y]) (n := 3) (Nat.le_of_ble_eq_true rfl)
  rw [lg_entry_eq]
  generalize (lg_sl ([.ref s0, .int x, .int y]) ++ List.replicate (3 - (lg_sl ([.ref s0, .int x, .int y])).length) Slot.unset).toArray = ls at hl ⊢
  have hl : lv_has ls 3 [(0, .ref s0), (1, .int x), (2, .int y)] := hl
  refine zG (fun GG hG1 hG2 => ?_)
  refine lv_iload_n hx hb dX6_tell_0 rfl (lv_at hl 2 rfl) ?_
  rcases (show yi = 0 ∨ yi = 1 ∨ yi = 2 ∨ yi = 3 ∨ yi = 4 ∨ (yi < 0 ∨ 4 < yi) by omega) with ek | ek | ek | ek | ek | ek
  · refine z_swIn (off := 35) (tgt := 36) hx hb 0 dX6_tell_1 ((yh).trans ek) (by decide) (by decide) (by decide) (by decide) ?_
    refine lv_aload_n hx hb dX6_tell_36 rfl (lv_at hl 0 rfl) ?_
    refine lv_iload_n hx hb dX6_tell_37 rfl (lv_at hl 1 rfl) ?_
    refine z_calli (wr := []) (va_runV (As := [.int x]) (rest := []) ⟨hx, hb, hml, hown, hts⟩ (c_Seq_blockOf l dC dI kB kI s0 s1 s2 s3 st li of pt nu ma sn x xi (by omega) (by omega) (by omega) hs xh s.heap.size) (cwV 1 hts gX6_tell_X6_blockOf rfl rfl rfl (by decide +kernel) ⟨Nat.le_of_ble_eq_true rfl, Nat.le_of_ble_eq_true rfl⟩) (z_preV hK (hP.sub [0, 1, 2, 3] rfl) (hD.sub [0, 1, 2, 3] (by decide) rfl) (va_recv hK hP (ci := 6) (q0 := 0) rfl rfl)) rfl rfl hl.1 rfl (lv_room (Nat.le_of_ble_eq_true rfl)) dX6_tell_38 ⟨Nat.le_of_ble_eq_true rfl, Nat.le_of_ble_eq_true rfl⟩) hK hP hD hS hA [0, 1, 2, 3] [] rfl rfl (by decide) (by decide) (fun r1 uq2 H locs hw hP hD hS => ?_)
    replace hw : (∃ j : Nat, xi = j ∧ j < nu ∧ r1 = nI (sn j / pt)) ∨ ((xi < 0 ∨ (nu : Int) ≤ xi) ∧ r1 = -1) := hw
    have hP : va_P (dC, dI) vwCl [(s0, .inr (6, [.ref s1, .ref s2, .ref s3, .int (nI pt), .int (nI nu), .int (nI ma)])), (s1, .inl (kI, 140001, .inl st)), (s2, .inl (kI, 140000, .inl li)), (s3, .inl (kI, 140000, .inl of))] H := hP
    have hD : va_D A [(s0, .inr (6, [.ref s1, .ref s2, .ref s3, .int (nI pt), .int (nI nu), .int (nI ma)])), (s1, .inl (kI, 140001, .inl st)), (s2, .inl (kI, 140000, .inl li)), (s3, .inl (kI, 140000, .inl of))] := hD
    have hP9 := hP.sub (ws' := [(s0, .inr (6, [.ref s1, .ref s2, .ref s3, .int (nI pt), .int (nI nu), .int (nI ma)])), (s1, .inl (kI, 140001, .inl st)), (s2, .inl (kI, 140000, .inl li)), (s3, .inl (kI, 140000, .inl of))]) [0, 1, 2, 3] rfl
    have hD9 := hD.sub (ws' := [(s0, .inr (6, [.ref s1, .ref s2, .ref s3, .int (nI pt), .int (nI nu), .int (nI ma)])), (s1, .inl (kI, 140001, .inl st)), (s2, .inl (kI, 140000, .inl li)), (s3, .inl (kI, 140000, .inl of))]) [0, 1, 2, 3] (by decide) rfl
    exact W.iret (v := r1) hx hb hr (fun t9 ht9 hW9 => ⟨⟨r1, (), rfl, (hw.elim (fun ⟨j, ej, hj, er⟩ => Or.inl ⟨j, ej, hj, Or.inl ⟨ek, er⟩⟩) Or.inr), by rw [ht9]; exact hP9, va_K.moved hW9.alike hK, hD9⟩, hS.F ht9⟩) hS.2.2 dX6_tell_41
  · refine z_swIn (off := 41) (tgt := 42) hx hb 1 dX6_tell_1 ((yh).trans ek) (by decide) (by decide) (by decide) (by decide) ?_
    refine lv_aload_n hx hb dX6_tell_42 rfl (lv_at hl 0 rfl) ?_
    refine lv_iload_n hx hb dX6_tell_43 rfl (lv_at hl 1 rfl) ?_
    refine z_calli (wr := []) (va_runV (As := [.int x]) (rest := []) ⟨hx, hb, hml, hown, hts⟩ (c_Seq_startOf l dC dI kB kI s0 s1 s2 s3 st li of pt nu ma x xi (by omega) (by omega) (by omega) xh s.heap.size) (cwV 1 hts gX6_tell_X6_startOf rfl rfl rfl (by decide +kernel) ⟨Nat.le_of_ble_eq_true rfl, Nat.le_of_ble_eq_true rfl⟩) (z_preV hK (hP.sub [0, 1, 2, 3] rfl) (hD.sub [0, 1, 2, 3] (by decide) rfl) (va_recv hK hP (ci := 6) (q0 := 0) rfl rfl)) rfl rfl hl.1 rfl (lv_room (Nat.le_of_ble_eq_true rfl)) dX6_tell_44 ⟨Nat.le_of_ble_eq_true rfl, Nat.le_of_ble_eq_true rfl⟩) hK hP hD hS hA [0, 1, 2, 3] [] rfl rfl (by decide) (by decide) (fun r3 uq4 H locs hw hP hD hS => ?_)
    replace hw : (∃ j : Nat, xi = j ∧ j < nu ∧ r3 = st j) ∨ ((xi < 0 ∨ (nu : Int) ≤ xi) ∧ r3 = -1) := hw
    have hP : va_P (dC, dI) vwCl [(s0, .inr (6, [.ref s1, .ref s2, .ref s3, .int (nI pt), .int (nI nu), .int (nI ma)])), (s1, .inl (kI, 140001, .inl st)), (s2, .inl (kI, 140000, .inl li)), (s3, .inl (kI, 140000, .inl of))] H := hP
    have hD : va_D A [(s0, .inr (6, [.ref s1, .ref s2, .ref s3, .int (nI pt), .int (nI nu), .int (nI ma)])), (s1, .inl (kI, 140001, .inl st)), (s2, .inl (kI, 140000, .inl li)), (s3, .inl (kI, 140000, .inl of))] := hD
    have hP9 := hP.sub (ws' := [(s0, .inr (6, [.ref s1, .ref s2, .ref s3, .int (nI pt), .int (nI nu), .int (nI ma)])), (s1, .inl (kI, 140001, .inl st)), (s2, .inl (kI, 140000, .inl li)), (s3, .inl (kI, 140000, .inl of))]) [0, 1, 2, 3] rfl
    have hD9 := hD.sub (ws' := [(s0, .inr (6, [.ref s1, .ref s2, .ref s3, .int (nI pt), .int (nI nu), .int (nI ma)])), (s1, .inl (kI, 140001, .inl st)), (s2, .inl (kI, 140000, .inl li)), (s3, .inl (kI, 140000, .inl of))]) [0, 1, 2, 3] (by decide) rfl
    exact W.iret (v := r3) hx hb hr (fun t9 ht9 hW9 => ⟨⟨r3, (), rfl, (hw.elim (fun ⟨j, ej, hj, er⟩ => Or.inl ⟨j, ej, hj, Or.inr (Or.inl ⟨ek, er⟩)⟩) Or.inr), by rw [ht9]; exact hP9, va_K.moved hW9.alike hK, hD9⟩, hS.F ht9⟩) hS.2.2 dX6_tell_47
  · refine z_swIn (off := 47) (tgt := 48) hx hb 2 dX6_tell_1 ((yh).trans ek) (by decide) (by decide) (by decide) (by decide) ?_
    refine lv_aload_n hx hb dX6_tell_48 rfl (lv_at hl 0 rfl) ?_
    refine lv_iload_n hx hb dX6_tell_49 rfl (lv_at hl 1 rfl) ?_
    refine z_calli (wr := []) (va_runV (As := [.int x]) (rest := []) ⟨hx, hb, hml, hown, hts⟩ (c_Seq_literalsOf l dC dI kB kI s0 s1 s2 s3 st li of pt nu ma x xi (by omega) (by omega) (by omega) xh s.heap.size) (cwV 1 hts gX6_tell_X6_literalsOf rfl rfl rfl (by decide +kernel) ⟨Nat.le_of_ble_eq_true rfl, Nat.le_of_ble_eq_true rfl⟩) (z_preV hK (hP.sub [0, 1, 2, 3] rfl) (hD.sub [0, 1, 2, 3] (by decide) rfl) (va_recv hK hP (ci := 6) (q0 := 0) rfl rfl)) rfl rfl hl.1 rfl (lv_room (Nat.le_of_ble_eq_true rfl)) dX6_tell_50 ⟨Nat.le_of_ble_eq_true rfl, Nat.le_of_ble_eq_true rfl⟩) hK hP hD hS hA [0, 1, 2, 3] [] rfl rfl (by decide) (by decide) (fun r5 uq6 H locs hw hP hD hS => ?_)
    replace hw : (∃ j : Nat, xi = j ∧ j < nu ∧ r5 = li j) ∨ ((xi < 0 ∨ (nu : Int) ≤ xi) ∧ r5 = -1) := hw
    have hP : va_P (dC, dI) vwCl [(s0, .inr (6, [.ref s1, .ref s2, .ref s3, .int (nI pt), .int (nI nu), .int (nI ma)])), (s1, .inl (kI, 140001, .inl st)), (s2, .inl (kI, 140000, .inl li)), (s3, .inl (kI, 140000, .inl of))] H := hP
    have hD : va_D A [(s0, .inr (6, [.ref s1, .ref s2, .ref s3, .int (nI pt), .int (nI nu), .int (nI ma)])), (s1, .inl (kI, 140001, .inl st)), (s2, .inl (kI, 140000, .inl li)), (s3, .inl (kI, 140000, .inl of))] := hD
    have hP9 := hP.sub (ws' := [(s0, .inr (6, [.ref s1, .ref s2, .ref s3, .int (nI pt), .int (nI nu), .int (nI ma)])), (s1, .inl (kI, 140001, .inl st)), (s2, .inl (kI, 140000, .inl li)), (s3, .inl (kI, 140000, .inl of))]) [0, 1, 2, 3] rfl
    have hD9 := hD.sub (ws' := [(s0, .inr (6, [.ref s1, .ref s2, .ref s3, .int (nI pt), .int (nI nu), .int (nI ma)])), (s1, .inl (kI, 140001, .inl st)), (s2, .inl (kI, 140000, .inl li)), (s3, .inl (kI, 140000, .inl of))]) [0, 1, 2, 3] (by decide) rfl
    exact W.iret (v := r5) hx hb hr (fun t9 ht9 hW9 => ⟨⟨r5, (), rfl, (hw.elim (fun ⟨j, ej, hj, er⟩ => Or.inl ⟨j, ej, hj, Or.inr (Or.inr (Or.inl ⟨ek, er⟩))⟩) Or.inr), by rw [ht9]; exact hP9, va_K.moved hW9.alike hK, hD9⟩, hS.F ht9⟩) hS.2.2 dX6_tell_53
  · refine z_swIn (off := 53) (tgt := 54) hx hb 3 dX6_tell_1 ((yh).trans ek) (by decide) (by decide) (by decide) (by decide) ?_
    refine lv_aload_n hx hb dX6_tell_54 rfl (lv_at hl 0 rfl) ?_
    refine lv_iload_n hx hb dX6_tell_55 rfl (lv_at hl 1 rfl) ?_
    refine z_calli (wr := []) (va_runV (As := [.int x]) (rest := []) ⟨hx, hb, hml, hown, hts⟩ (c_Seq_offsetOf l dC dI kB kI s0 s1 s2 s3 st li of pt nu ma x xi (by omega) (by omega) (by omega) xh s.heap.size) (cwV 1 hts gX6_tell_X6_offsetOf rfl rfl rfl (by decide +kernel) ⟨Nat.le_of_ble_eq_true rfl, Nat.le_of_ble_eq_true rfl⟩) (z_preV hK (hP.sub [0, 1, 2, 3] rfl) (hD.sub [0, 1, 2, 3] (by decide) rfl) (va_recv hK hP (ci := 6) (q0 := 0) rfl rfl)) rfl rfl hl.1 rfl (lv_room (Nat.le_of_ble_eq_true rfl)) dX6_tell_56 ⟨Nat.le_of_ble_eq_true rfl, Nat.le_of_ble_eq_true rfl⟩) hK hP hD hS hA [0, 1, 2, 3] [] rfl rfl (by decide) (by decide) (fun r7 uq8 H locs hw hP hD hS => ?_)
    replace hw : (∃ j : Nat, xi = j ∧ j < nu ∧ r7 = of j) ∨ ((xi < 0 ∨ (nu : Int) ≤ xi) ∧ r7 = -1) := hw
    have hP : va_P (dC, dI) vwCl [(s0, .inr (6, [.ref s1, .ref s2, .ref s3, .int (nI pt), .int (nI nu), .int (nI ma)])), (s1, .inl (kI, 140001, .inl st)), (s2, .inl (kI, 140000, .inl li)), (s3, .inl (kI, 140000, .inl of))] H := hP
    have hD : va_D A [(s0, .inr (6, [.ref s1, .ref s2, .ref s3, .int (nI pt), .int (nI nu), .int (nI ma)])), (s1, .inl (kI, 140001, .inl st)), (s2, .inl (kI, 140000, .inl li)), (s3, .inl (kI, 140000, .inl of))] := hD
    have hP9 := hP.sub (ws' := [(s0, .inr (6, [.ref s1, .ref s2, .ref s3, .int (nI pt), .int (nI nu), .int (nI ma)])), (s1, .inl (kI, 140001, .inl st)), (s2, .inl (kI, 140000, .inl li)), (s3, .inl (kI, 140000, .inl of))]) [0, 1, 2, 3] rfl
    have hD9 := hD.sub (ws' := [(s0, .inr (6, [.ref s1, .ref s2, .ref s3, .int (nI pt), .int (nI nu), .int (nI ma)])), (s1, .inl (kI, 140001, .inl st)), (s2, .inl (kI, 140000, .inl li)), (s3, .inl (kI, 140000, .inl of))]) [0, 1, 2, 3] (by decide) rfl
    exact W.iret (v := r7) hx hb hr (fun t9 ht9 hW9 => ⟨⟨r7, (), rfl, (hw.elim (fun ⟨j, ej, hj, er⟩ => Or.inl ⟨j, ej, hj, Or.inr (Or.inr (Or.inr (Or.inl ⟨ek, er⟩)))⟩) Or.inr), by rw [ht9]; exact hP9, va_K.moved hW9.alike hK, hD9⟩, hS.F ht9⟩) hS.2.2 dX6_tell_59
  · refine z_swIn (off := 59) (tgt := 60) hx hb 4 dX6_tell_1 ((yh).trans ek) (by decide) (by decide) (by decide) (by decide) ?_
    refine lv_aload_n hx hb dX6_tell_60 rfl (lv_at hl 0 rfl) ?_
    refine lv_iload_n hx hb dX6_tell_61 rfl (lv_at hl 1 rfl) ?_
    refine z_calli (wr := []) (va_runV (As := [.int x]) (rest := []) ⟨hx, hb, hml, hown, hts⟩ (c_Seq_matchOf l dC dI kB kI s0 s1 s2 s3 st li of pt nu ma x xi (by omega) (by omega) (by omega) xh s.heap.size) (cwV 1 hts gX6_tell_X6_matchOf rfl rfl rfl (by decide +kernel) ⟨Nat.le_of_ble_eq_true rfl, Nat.le_of_ble_eq_true rfl⟩) (z_preV hK (hP.sub [0, 1, 2, 3] rfl) (hD.sub [0, 1, 2, 3] (by decide) rfl) (va_recv hK hP (ci := 6) (q0 := 0) rfl rfl)) rfl rfl hl.1 rfl (lv_room (Nat.le_of_ble_eq_true rfl)) dX6_tell_62 ⟨Nat.le_of_ble_eq_true rfl, Nat.le_of_ble_eq_true rfl⟩) hK hP hD hS hA [0, 1, 2, 3] [] rfl rfl (by decide) (by decide) (fun r9 uq10 H locs hw hP hD hS => ?_)
    replace hw : (∃ j : Nat, xi = j ∧ j < nu ∧ r9 = (st (j + 1) - st j) - li j) ∨ ((xi < 0 ∨ (nu : Int) ≤ xi) ∧ r9 = -1) := hw
    have hP : va_P (dC, dI) vwCl [(s0, .inr (6, [.ref s1, .ref s2, .ref s3, .int (nI pt), .int (nI nu), .int (nI ma)])), (s1, .inl (kI, 140001, .inl st)), (s2, .inl (kI, 140000, .inl li)), (s3, .inl (kI, 140000, .inl of))] H := hP
    have hD : va_D A [(s0, .inr (6, [.ref s1, .ref s2, .ref s3, .int (nI pt), .int (nI nu), .int (nI ma)])), (s1, .inl (kI, 140001, .inl st)), (s2, .inl (kI, 140000, .inl li)), (s3, .inl (kI, 140000, .inl of))] := hD
    have hP9 := hP.sub (ws' := [(s0, .inr (6, [.ref s1, .ref s2, .ref s3, .int (nI pt), .int (nI nu), .int (nI ma)])), (s1, .inl (kI, 140001, .inl st)), (s2, .inl (kI, 140000, .inl li)), (s3, .inl (kI, 140000, .inl of))]) [0, 1, 2, 3] rfl
    have hD9 := hD.sub (ws' := [(s0, .inr (6, [.ref s1, .ref s2, .ref s3, .int (nI pt), .int (nI nu), .int (nI ma)])), (s1, .inl (kI, 140001, .inl st)), (s2, .inl (kI, 140000, .inl li)), (s3, .inl (kI, 140000, .inl of))]) [0, 1, 2, 3] (by decide) rfl
    exact W.iret (v := r9) hx hb hr (fun t9 ht9 hW9 => ⟨⟨r9, (), rfl, (hw.elim (fun ⟨j, ej, hj, er⟩ => Or.inl ⟨j, ej, hj, Or.inr (Or.inr (Or.inr (Or.inr (Or.inl ⟨ek, er⟩))))⟩) Or.inr), by rw [ht9]; exact hP9, va_K.moved hW9.alike hK, hD9⟩, hS.F ht9⟩) hS.2.2 dX6_tell_65
  · refine lv_tableOut (tgt := 66) hx hb dX6_tell_1 (by have hz := yh; omega) (by decide) ?_
    refine lv_iconst (v := (-1)) hx hb dX6_tell_66 (by decide) ?_
    have hP9 := hP.sub (ws' := [(s0, .inr (6, [.ref s1, .ref s2, .ref s3, .int (nI pt), .int (nI nu), .int (nI ma)])), (s1, .inl (kI, 140001, .inl st)), (s2, .inl (kI, 140000, .inl li)), (s3, .inl (kI, 140000, .inl of))]) [0, 1, 2, 3] rfl
    have hD9 := hD.sub (ws' := [(s0, .inr (6, [.ref s1, .ref s2, .ref s3, .int (nI pt), .int (nI nu), .int (nI ma)])), (s1, .inl (kI, 140001, .inl st)), (s2, .inl (kI, 140000, .inl li)), (s3, .inl (kI, 140000, .inl of))]) [0, 1, 2, 3] (by decide) rfl
    exact W.iret (v := (-1)) hx hb hr (fun t9 ht9 hW9 => ⟨⟨(-1), (), rfl, (by rcases (show (xi < 0 ∨ (nu : Int) ≤ xi) ∨ (0 ≤ xi ∧ xi < nu) by omega) with h | h <;> first | exact Or.inr ⟨h, rfl⟩ | exact Or.inl ⟨xi.toNat, by omega, by omega, Or.inr (Or.inr (Or.inr (Or.inr (Or.inr ⟨ek, rfl⟩))))⟩), by rw [ht9]; exact hP9, va_K.moved hW9.alike hK, hD9⟩, hS.F ht9⟩) hS.2.2 dX6_tell_67

set_option maxHeartbeats 4000000 in
set_option maxRecDepth 100000 in
theorem c_Seq_clear (l : Launch) (dC : Nat → ClassId) (dI : Nat → Nat → Nat) (kB kI : ClassId) (s0 : Nat) (s1 : Nat) (s2 : Nat) (s3 : Nat) (st : Nat → Int32) (li : Nat → Int32) (of : Nat → Int32) (pt : Nat) (nu : Nat) (ma : Nat) (p2 : Nat) (hp2 : p2 ≤ 65536) : zMv l yX6_clear wsX6_clear ({ frames := 0, cells := 0, slots := 0, locals := 0 }) (dC, dI) kB kI [.ref s0, .int (nI p2)] [(s0, .inr (6, [.ref s1, .ref s2, .ref s3, .int (nI pt), .int (nI nu), .int (nI ma)])), (s1, .inl (kI, 140001, .inl st)), (s2, .inl (kI, 140000, .inl li)), (s3, .inl (kI, 140000, .inl of))] 0 0 (fun _ : Unit => True) (fun _ : Unit => [(s0, .inr (6, [.ref s1, .ref s2, .ref s3, .int (nI p2), .int (nI 0), .int (nI 0)])), (s1, .inl (kI, 140001, .inl (upd st 0 0))), (s2, .inl (kI, 140000, .inl li)), (s3, .inl (kI, 140000, .inl of))]) := by
  intro sz
  refine Met.ofW (cc := cX6_clear) (maxL := 2) (ret := none) (by decide) rfl ?_
  intro p e s m args below meth c s₁ B hml hv
  obtain ⟨rfl, hsz, hP, hK, hD0⟩ := hv
  have hx := B.exec
  have hb := B.bytes
  have hr := B.returns
  have hts := atoms_spec (ws := wsX6_clear) B.pre
  have hown : s.vm.findClass RX6 = some m.cls := findClass_of_methodNamed B.named
  have hlocks := B.notSynchronized
  subst hsz
  have hD := hD0.self (sz := s.heap.size)
  generalize hAe : va_A [(s0, .inr (6, [.ref s1, .ref s2, .ref s3, .int (nI pt), .int (nI nu), .int (nI ma)])), (s1, .inl (kI, 140001, .inl st)), (s2, .inl (kI, 140000, .inl li)), (s3, .inl (kI, 140000, .inl of))] s.heap.size = A at hD ⊢
  have hA : ∀ q : Nat, s.heap.size ≤ q → A q := fun q h => by rw [← hAe]; exact Or.inr h
  have hS : va_S A s.heap s.heap [] := va_S.rf
  have hP : va_P (dC, dI) vwCl [(s0, .inr (6, [.ref s1, .ref s2, .ref s3, .int (nI pt), .int (nI nu), .int (nI ma)])), (s1, .inl (kI, 140001, .inl st)), (s2, .inl (kI, 140000, .inl li)), (s3, .inl (kI, 140000, .inl of))] s.heap := hP
  have hl := lv_entry ([.ref s0, .int (nI p2)]) (n := 2) (Nat.le_of_ble_eq_true rfl)
  rw [lg_entry_eq]
  generalize (lg_sl ([.ref s0, .int (nI p2)]) ++ List.replicate (2 - (lg_sl ([.ref s0, .int (nI p2)])).length) Slot.unset).toArray = ls at hl ⊢
  have hl : lv_has ls 2 [(0, .ref s0), (1, .int (nI p2))] := hl
  refine zG (fun GG hG1 hG2 => ?_)
  refine lv_aload_n hx hb dX6_clear_0 rfl (lv_at hl 0 rfl) ?_
  refine lv_iload_n hx hb dX6_clear_1 rfl (lv_at hl 1 rfl) ?_
  refine va_put (D := (dC, dI)) (ci := 6) (v := .int (nI p2)) (ty := .int) (C := RX6) (T := TX6) (N := 6) hx hb hts (by decide +kernel) tyX6 tyX6_ok nmX6 hown hK hP hD hS 0 rfl rfl 3 (by decide) (hts (.fieldLink RX6 23 "SequenceFrames$Sequences" "part" "I") (by decide +kernel)) (fun _ h9 => h9) rfl (by decide +kernel) rfl rfl (Nat.le_of_ble_eq_true rfl) dX6_clear_2 (fun H locs hP hD hS => ?_)
  have hP : va_P (dC, dI) vwCl [(s0, .inr (6, [.ref s1, .ref s2, .ref s3, .int (nI p2), .int (nI nu), .int (nI ma)])), (s1, .inl (kI, 140001, .inl st)), (s2, .inl (kI, 140000, .inl li)), (s3, .inl (kI, 140000, .inl of))] H := hP
  have hD : va_D A [(s0, .inr (6, [.ref s1, .ref s2, .ref s3, .int (nI p2), .int (nI nu), .int (nI ma)])), (s1, .inl (kI, 140001, .inl st)), (s2, .inl (kI, 140000, .inl li)), (s3, .inl (kI, 140000, .inl of))] := hD
  refine lv_aload_n hx hb dX6_clear_5 rfl (lv_at hl 0 rfl) ?_
  refine lv_iconst (v := 0) hx hb dX6_clear_6 (by decide) ?_
  refine va_put (D := (dC, dI)) (ci := 6) (v := .int 0) (ty := .int) (C := RX6) (T := TX6) (N := 6) hx hb hts (by decide +kernel) tyX6 tyX6_ok nmX6 hown hK hP hD hS 0 rfl rfl 4 (by decide) (hts (.fieldLink RX6 27 "SequenceFrames$Sequences" "number" "I") (by decide +kernel)) (fun _ h9 => h9) rfl (by decide +kernel) rfl rfl (Nat.le_of_ble_eq_true rfl) dX6_clear_7 (fun H locs hP hD hS => ?_)
  have hP : va_P (dC, dI) vwCl [(s0, .inr (6, [.ref s1, .ref s2, .ref s3, .int (nI p2), .int 0, .int (nI ma)])), (s1, .inl (kI, 140001, .inl st)), (s2, .inl (kI, 140000, .inl li)), (s3, .inl (kI, 140000, .inl of))] H := hP
  have hD : va_D A [(s0, .inr (6, [.ref s1, .ref s2, .ref s3, .int (nI p2), .int 0, .int (nI ma)])), (s1, .inl (kI, 140001, .inl st)), (s2, .inl (kI, 140000, .inl li)), (s3, .inl (kI, 140000, .inl of))] := hD
  refine lv_aload_n hx hb dX6_clear_10 rfl (lv_at hl 0 rfl) ?_
  refine lv_iconst (v := 0) hx hb dX6_clear_11 (by decide) ?_
  refine va_put (D := (dC, dI)) (ci := 6) (v := .int 0) (ty := .int) (C := RX6) (T := TX6) (N := 6) hx hb hts (by decide +kernel) tyX6 tyX6_ok nmX6 hown hK hP hD hS 0 rfl rfl 5 (by decide) (hts (.fieldLink RX6 30 "SequenceFrames$Sequences" "matched" "I") (by decide +kernel)) (fun _ h9 => h9) rfl (by decide +kernel) rfl rfl (Nat.le_of_ble_eq_true rfl) dX6_clear_12 (fun H locs hP hD hS => ?_)
  have hP : va_P (dC, dI) vwCl [(s0, .inr (6, [.ref s1, .ref s2, .ref s3, .int (nI p2), .int 0, .int 0])), (s1, .inl (kI, 140001, .inl st)), (s2, .inl (kI, 140000, .inl li)), (s3, .inl (kI, 140000, .inl of))] H := hP
  have hD : va_D A [(s0, .inr (6, [.ref s1, .ref s2, .ref s3, .int (nI p2), .int 0, .int 0])), (s1, .inl (kI, 140001, .inl st)), (s2, .inl (kI, 140000, .inl li)), (s3, .inl (kI, 140000, .inl of))] := hD
  refine lv_aload_n hx hb dX6_clear_15 rfl (lv_at hl 0 rfl) ?_
  refine va_get (D := (dC, dI)) (ci := 6) (v := .ref s1) (C := RX6) (T := TX6) (N := 6) hx hb hts (by decide +kernel) hown hK hP 0 rfl rfl 0 (by decide) (hts (.fieldLink RX6 10 "SequenceFrames$Sequences" "starts" "[I") (by decide +kernel)) (fun _ h9 => h9) rfl dX6_clear_16 ?_
  refine lv_iconst (v := 0) hx hb dX6_clear_19 (by decide) ?_
  refine lv_iconst (v := 0) hx hb dX6_clear_20 (by decide) ?_
  refine va_iast hx hb hK hP hD hS 1 1 rfl rfl (zin (show (0 : Int32) = nI 0 from rfl) (by omega) (by omega)) dX6_clear_21 (fun H locs hP hD hS => ?_)
  have ez := zst st 0 (i := 0) (j := 0) (show (0 : Int32) = nI 0 from rfl) (by omega)
  have hP : va_P (dC, dI) vwCl [(s0, .inr (6, [.ref s1, .ref s2, .ref s3, .int (nI p2), .int 0, .int 0])), (s1, .inl (kI, 140001, .inl (upd st 0 0))), (s2, .inl (kI, 140000, .inl li)), (s3, .inl (kI, 140000, .inl of))] H := by rw [← ez]; exact hP
  have hD : va_D A [(s0, .inr (6, [.ref s1, .ref s2, .ref s3, .int (nI p2), .int 0, .int 0])), (s1, .inl (kI, 140001, .inl (upd st 0 0))), (s2, .inl (kI, 140000, .inl li)), (s3, .inl (kI, 140000, .inl of))] := by rw [← ez]; exact hD
  have hP9 := hP.sub (ws' := [(s0, .inr (6, [.ref s1, .ref s2, .ref s3, .int (nI p2), .int (nI 0), .int (nI 0)])), (s1, .inl (kI, 140001, .inl (upd st 0 0))), (s2, .inl (kI, 140000, .inl li)), (s3, .inl (kI, 140000, .inl of))]) [0, 1, 2, 3] rfl
  have hD9 := hD.sub (ws' := [(s0, .inr (6, [.ref s1, .ref s2, .ref s3, .int (nI p2), .int (nI 0), .int (nI 0)])), (s1, .inl (kI, 140001, .inl (upd st 0 0))), (s2, .inl (kI, 140000, .inl li)), (s3, .inl (kI, 140000, .inl of))]) [0, 1, 2, 3] (by decide) rfl
  exact W.vret hx hb hr (fun t9 ht9 hW9 => ⟨⟨(), rfl, trivial, by rw [ht9]; exact hP9, va_K.moved hW9.alike hK, hD9⟩, hS.F ht9⟩) hS.2.2 dX6_clear_22

set_option maxHeartbeats 4000000 in
set_option maxRecDepth 100000 in
theorem c_Seq_add (l : Launch) (dC : Nat → ClassId) (dI : Nat → Nat → Nat) (kB kI : ClassId) (s0 : Nat) (s1 : Nat) (s2 : Nat) (s3 : Nat) (st : Nat → Int32) (li : Nat → Int32) (of : Nat → Int32) (pt : Nat) (nu : Nat) (ma : Nat) (x : Int32) (y : Int32) (k : Nat) (hnu : nu < 140000) (hma : ma + k ≤ 140000) : zMv l yX6_add wsX6_add ({ frames := 0, cells := 0, slots := 0, locals := 0 }) (dC, dI) kB kI [.ref s0, .int x, .int y, .int (nI k)] [(s0, .inr (6, [.ref s1, .ref s2, .ref s3, .int (nI pt), .int (nI nu), .int (nI ma)])), (s1, .inl (kI, 140001, .inl st)), (s2, .inl (kI, 140000, .inl li)), (s3, .inl (kI, 140000, .inl of))] 0 0 (fun _ : Unit => True) (fun _ : Unit => [(s0, .inr (6, [.ref s1, .ref s2, .ref s3, .int (nI pt), .int (nI (nu + 1)), .int (nI (ma + k))])), (s1, .inl (kI, 140001, .inl (upd st (nu + 1) ((st nu + x) + nI k)))), (s2, .inl (kI, 140000, .inl (upd li nu x))), (s3, .inl (kI, 140000, .inl (upd of nu y)))]) := by
  intro sz
  refine Met.ofW (cc := cX6_add) (maxL := 4) (ret := none) (by decide) rfl ?_
  intro p e s m args below meth c s₁ B hml hv
  obtain ⟨rfl, hsz, hP, hK, hD0⟩ := hv
  have hx := B.exec
  have hb := B.bytes
  have hr := B.returns
  have hts := atoms_spec (ws := wsX6_add) B.pre
  have hown : s.vm.findClass RX6 = some m.cls := findClass_of_methodNamed B.named
  have hlocks := B.notSynchronized
  subst hsz
  have hD := hD0.self (sz := s.heap.size)
  generalize hAe : va_A [(s0, .inr (6, [.ref s1, .ref s2, .ref s3, .int (nI pt), .int (nI nu), .int (nI ma)])), (s1, .inl (kI, 140001, .inl st)), (s2, .inl (kI, 140000, .inl li)), (s3, .inl (kI, 140000, .inl of))] s.heap.size = A at hD ⊢
  have hA : ∀ q : Nat, s.heap.size ≤ q → A q := fun q h => by rw [← hAe]; exact Or.inr h
  have hS : va_S A s.heap s.heap [] := va_S.rf
  have hP : va_P (dC, dI) vwCl [(s0, .inr (6, [.ref s1, .ref s2, .ref s3, .int (nI pt), .int (nI nu), .int (nI ma)])), (s1, .inl (kI, 140001, .inl st)), (s2, .inl (kI, 140000, .inl li)), (s3, .inl (kI, 140000, .inl of))] s.heap := hP
  have hl := lv_entry ([.ref s0, .int x, .int y, .int (nI k)]) (n := 4) (Nat.le_of_ble_eq_true rfl)
  rw [lg_entry_eq]
  generalize (lg_sl ([.ref s0, .int x, .int y, .int (nI k)]) ++ List.replicate (4 - (lg_sl ([.ref s0, .int x, .int y, .int (nI k)])).length) Slot.unset).toArray = ls at hl ⊢
  have hl : lv_has ls 4 [(0, .ref s0), (1, .int x), (2, .int y), (3, .int (nI k))] := hl
  refine zG (fun GG hG1 hG2 => ?_)
  refine lv_aload_n hx hb dX6_add_0 rfl (lv_at hl 0 rfl) ?_
  refine va_get (D := (dC, dI)) (ci := 6) (v := .int (nI nu)) (C := RX6) (T := TX6) (N := 6) hx hb hts (by decide +kernel) hown hK hP 0 rfl rfl 4 (by decide) (hts (.fieldLink RX6 27 "SequenceFrames$Sequences" "number" "I") (by decide +kernel)) (fun _ h9 => h9) rfl dX6_add_1 ?_
  refine zb_if_lt (tgt := 16) (a := ((nu : Nat) : Int)) hx hb dX6_add_4 (by decide) (nI_toInt (by omega)) (fun c4 => ?_) (fun c4 => ?_)
  · omega
  · refine lv_aload_n hx hb dX6_add_7 rfl (lv_at hl 0 rfl) ?_
    refine va_get (D := (dC, dI)) (ci := 6) (v := .int (nI nu)) (C := RX6) (T := TX6) (N := 6) hx hb hts (by decide +kernel) hown hK hP 0 rfl rfl 4 (by decide) (hts (.fieldLink RX6 27 "SequenceFrames$Sequences" "number" "I") (by decide +kernel)) (fun _ h9 => h9) rfl dX6_add_8 ?_
    refine lv_ldc (v := 140000) hx hb hown (hts (.constant RX6 16 140000) (by decide +kernel)) dX6_add_11 ?_
    refine zb_icmp_lt (tgt := 17) (a := ((nu : Nat) : Int)) (b := 140000) hx hb dX6_add_13 (by decide) (nI_toInt (by omega)) (by decide) (fun c13 => ?_) (fun c13 => ?_)
    · refine lv_aload_n hx hb dX6_add_17 rfl (lv_at hl 0 rfl) ?_
      refine va_get (D := (dC, dI)) (ci := 6) (v := .ref s2) (C := RX6) (T := TX6) (N := 6) hx hb hts (by decide +kernel) hown hK hP 0 rfl rfl 1 (by decide) (hts (.fieldLink RX6 17 "SequenceFrames$Sequences" "literals" "[I") (by decide +kernel)) (fun _ h9 => h9) rfl dX6_add_18 ?_
      refine lv_aload_n hx hb dX6_add_21 rfl (lv_at hl 0 rfl) ?_
      refine va_get (D := (dC, dI)) (ci := 6) (v := .int (nI nu)) (C := RX6) (T := TX6) (N := 6) hx hb hts (by decide +kernel) hown hK hP 0 rfl rfl 4 (by decide) (hts (.fieldLink RX6 27 "SequenceFrames$Sequences" "number" "I") (by decide +kernel)) (fun _ h9 => h9) rfl dX6_add_22 ?_
      refine lv_iload_n hx hb dX6_add_25 rfl (lv_at hl 1 rfl) ?_
      refine va_iast hx hb hK hP hD hS 2 1 rfl rfl (zin rfl (by omega) (by omega)) dX6_add_26 (fun H locs hP hD hS => ?_)
      have ez := zst li x (i := (nI nu)) (j := nu) rfl (by omega)
      have hP : va_P (dC, dI) vwCl [(s0, .inr (6, [.ref s1, .ref s2, .ref s3, .int (nI pt), .int (nI nu), .int (nI ma)])), (s1, .inl (kI, 140001, .inl st)), (s2, .inl (kI, 140000, .inl (upd li nu x))), (s3, .inl (kI, 140000, .inl of))] H := by rw [← ez]; exact hP
      have hD : va_D A [(s0, .inr (6, [.ref s1, .ref s2, .ref s3, .int (nI pt), .int (nI nu), .int (nI ma)])), (s1, .inl (kI, 140001, .inl st)), (s2, .inl (kI, 140000, .inl (upd li nu x))), (s3, .inl (kI, 140000, .inl of))] := by rw [← ez]; exact hD
      refine lv_aload_n hx hb dX6_add_27 rfl (lv_at hl 0 rfl) ?_
      refine va_get (D := (dC, dI)) (ci := 6) (v := .ref s3) (C := RX6) (T := TX6) (N := 6) hx hb hts (by decide +kernel) hown hK hP 0 rfl rfl 2 (by decide) (hts (.fieldLink RX6 20 "SequenceFrames$Sequences" "offsets" "[I") (by decide +kernel)) (fun _ h9 => h9) rfl dX6_add_28 ?_
      refine lv_aload_n hx hb dX6_add_31 rfl (lv_at hl 0 rfl) ?_
      refine va_get (D := (dC, dI)) (ci := 6) (v := .int (nI nu)) (C := RX6) (T := TX6) (N := 6) hx hb hts (by decide +kernel) hown hK hP 0 rfl rfl 4 (by decide) (hts (.fieldLink RX6 27 "SequenceFrames$Sequences" "number" "I") (by decide +kernel)) (fun _ h9 => h9) rfl dX6_add_32 ?_
      refine lv_iload_n hx hb dX6_add_35 rfl (lv_at hl 2 rfl) ?_
      refine va_iast hx hb hK hP hD hS 3 1 rfl rfl (zin rfl (by omega) (by omega)) dX6_add_36 (fun H locs hP hD hS => ?_)
      have ez := zst of y (i := (nI nu)) (j := nu) rfl (by omega)
      have hP : va_P (dC, dI) vwCl [(s0, .inr (6, [.ref s1, .ref s2, .ref s3, .int (nI pt), .int (nI nu), .int (nI ma)])), (s1, .inl (kI, 140001, .inl st)), (s2, .inl (kI, 140000, .inl (upd li nu x))), (s3, .inl (kI, 140000, .inl (upd of nu y)))] H := by rw [← ez]; exact hP
      have hD : va_D A [(s0, .inr (6, [.ref s1, .ref s2, .ref s3, .int (nI pt), .int (nI nu), .int (nI ma)])), (s1, .inl (kI, 140001, .inl st)), (s2, .inl (kI, 140000, .inl (upd li nu x))), (s3, .inl (kI, 140000, .inl (upd of nu y)))] := by rw [← ez]; exact hD
      refine lv_aload_n hx hb dX6_add_37 rfl (lv_at hl 0 rfl) ?_
      refine va_get (D := (dC, dI)) (ci := 6) (v := .ref s1) (C := RX6) (T := TX6) (N := 6) hx hb hts (by decide +kernel) hown hK hP 0 rfl rfl 0 (by decide) (hts (.fieldLink RX6 10 "SequenceFrames$Sequences" "starts" "[I") (by decide +kernel)) (fun _ h9 => h9) rfl dX6_add_38 ?_
      refine lv_aload_n hx hb dX6_add_41 rfl (lv_at hl 0 rfl) ?_
      refine va_get (D := (dC, dI)) (ci := 6) (v := .int (nI nu)) (C := RX6) (T := TX6) (N := 6) hx hb hts (by decide +kernel) hown hK hP 0 rfl rfl 4 (by decide) (hts (.fieldLink RX6 27 "SequenceFrames$Sequences" "number" "I") (by decide +kernel)) (fun _ h9 => h9) rfl dX6_add_42 ?_
      refine lv_iconst (v := 1) hx hb dX6_add_45 (by decide) ?_
      refine lv_iadd hx hb dX6_add_46 ?_
      refine lv_is (y := (nI (nu + 1))) ((zn_add rfl (show (1 : Int32) = nI 1 from rfl))) ?_
      refine lv_aload_n hx hb dX6_add_47 rfl (lv_at hl 0 rfl) ?_
      refine va_get (D := (dC, dI)) (ci := 6) (v := .ref s1) (C := RX6) (T := TX6) (N := 6) hx hb hts (by decide +kernel) hown hK hP 0 rfl rfl 0 (by decide) (hts (.fieldLink RX6 10 "SequenceFrames$Sequences" "starts" "[I") (by decide +kernel)) (fun _ h9 => h9) rfl dX6_add_48 ?_
      refine lv_aload_n hx hb dX6_add_51 rfl (lv_at hl 0 rfl) ?_
      refine va_get (D := (dC, dI)) (ci := 6) (v := .int (nI nu)) (C := RX6) (T := TX6) (N := 6) hx hb hts (by decide +kernel) hown hK hP 0 rfl rfl 4 (by decide) (hts (.fieldLink RX6 27 "SequenceFrames$Sequences" "number" "I") (by decide +kernel)) (fun _ h9 => h9) rfl dX6_add_52 ?_
      refine va_iald hx hb hK hP 1 1 rfl rfl (zin rfl (by omega) (by omega)) dX6_add_55 ?_
      refine lv_is (y := (st nu)) (zld st rfl (by omega)) ?_
      refine lv_iload_n hx hb dX6_add_56 rfl (lv_at hl 1 rfl) ?_
      refine lv_iadd hx hb dX6_add_57 ?_
      refine lv_iload_n hx hb dX6_add_58 rfl (lv_at hl 3 rfl) ?_
      refine lv_iadd hx hb dX6_add_59 ?_
      refine va_iast hx hb hK hP hD hS 1 1 rfl rfl (zin rfl (by omega) (by omega)) dX6_add_60 (fun H locs hP hD hS => ?_)
      have ez := zst st (((st nu) + x) + (nI k)) (i := (nI (nu + 1))) (j := (nu + 1)) rfl (by omega)
      have hP : va_P (dC, dI) vwCl [(s0, .inr (6, [.ref s1, .ref s2, .ref s3, .int (nI pt), .int (nI nu), .int (nI ma)])), (s1, .inl (kI, 140001, .inl (upd st (nu + 1) (((st nu) + x) + (nI k))))), (s2, .inl (kI, 140000, .inl (upd li nu x))), (s3, .inl (kI, 140000, .inl (upd of nu y)))] H := by rw [← ez]; exact hP
      have hD : va_D A [(s0, .inr (6, [.ref s1, .ref s2, .ref s3, .int (nI pt), .int (nI nu), .int (nI ma)])), (s1, .inl (kI, 140001, .inl (upd st (nu + 1) (((st nu) + x) + (nI k))))), (s2, .inl (kI, 140000, .inl (upd li nu x))), (s3, .inl (kI, 140000, .inl (upd of nu y)))] := by rw [← ez]; exact hD
      refine lv_aload_n hx hb dX6_add_61 rfl (lv_at hl 0 rfl) ?_
      refine lv_dup hx hb dX6_add_62 rfl ?_
      refine va_get (D := (dC, dI)) (ci := 6) (v := .int (nI nu)) (C := RX6) (T := TX6) (N := 6) hx hb hts (by decide +kernel) hown hK hP 0 rfl rfl 4 (by decide) (hts (.fieldLink RX6 27 "SequenceFrames$Sequences" "number" "I") (by decide +kernel)) (fun _ h9 => h9) rfl dX6_add_63 ?_
      refine lv_iconst (v := 1) hx hb dX6_add_66 (by decide) ?_
      refine lv_iadd hx hb dX6_add_67 ?_
      refine lv_is (y := (nI (nu + 1))) ((zn_add rfl (show (1 : Int32) = nI 1 from rfl))) ?_
      refine va_put (D := (dC, dI)) (ci := 6) (v := .int (nI (nu + 1))) (ty := .int) (C := RX6) (T := TX6) (N := 6) hx hb hts (by decide +kernel) tyX6 tyX6_ok nmX6 hown hK hP hD hS 0 rfl rfl 4 (by decide) (hts (.fieldLink RX6 27 "SequenceFrames$Sequences" "number" "I") (by decide +kernel)) (fun _ h9 => h9) rfl (by decide +kernel) rfl rfl (Nat.le_of_ble_eq_true rfl) dX6_add_68 (fun H locs hP hD hS => ?_)
      have hP : va_P (dC, dI) vwCl [(s0, .inr (6, [.ref s1, .ref s2, .ref s3, .int (nI pt), .int (nI (nu + 1)), .int (nI ma)])), (s1, .inl (kI, 140001, .inl (upd st (nu + 1) (((st nu) + x) + (nI k))))), (s2, .inl (kI, 140000, .inl (upd li nu x))), (s3, .inl (kI, 140000, .inl (upd of nu y)))] H := hP
      have hD : va_D A [(s0, .inr (6, [.ref s1, .ref s2, .ref s3, .int (nI pt), .int (nI (nu + 1)), .int (nI ma)])), (s1, .inl (kI, 140001, .inl (upd st (nu + 1) (((st nu) + x) + (nI k))))), (s2, .inl (kI, 140000, .inl (upd li nu x))), (s3, .inl (kI, 140000, .inl (upd of nu y)))] := hD
      refine lv_aload_n hx hb dX6_add_71 rfl (lv_at hl 0 rfl) ?_
      refine lv_dup hx hb dX6_add_72 rfl ?_
      refine va_get (D := (dC, dI)) (ci := 6) (v := .int (nI ma)) (C := RX6) (T := TX6) (N := 6) hx hb hts (by decide +kernel) hown hK hP 0 rfl rfl 5 (by decide) (hts (.fieldLink RX6 30 "SequenceFrames$Sequences" "matched" "I") (by decide +kernel)) (fun _ h9 => h9) rfl dX6_add_73 ?_
      refine lv_iload_n hx hb dX6_add_76 rfl (lv_at hl 3 rfl) ?_
      refine lv_iadd hx hb dX6_add_77 ?_
      refine lv_is (y := (nI (ma + k))) ((zn_add rfl rfl)) ?_
      refine va_put (D := (dC, dI)) (ci := 6) (v := .int (nI (ma + k))) (ty := .int) (C := RX6) (T := TX6) (N := 6) hx hb hts (by decide +kernel) tyX6 tyX6_ok nmX6 hown hK hP hD hS 0 rfl rfl 5 (by decide) (hts (.fieldLink RX6 30 "SequenceFrames$Sequences" "matched" "I") (by decide +kernel)) (fun _ h9 => h9) rfl (by decide +kernel) rfl rfl (Nat.le_of_ble_eq_true rfl) dX6_add_78 (fun H locs hP hD hS => ?_)
      have hP : va_P (dC, dI) vwCl [(s0, .inr (6, [.ref s1, .ref s2, .ref s3, .int (nI pt), .int (nI (nu + 1)), .int (nI (ma + k))])), (s1, .inl (kI, 140001, .inl (upd st (nu + 1) (((st nu) + x) + (nI k))))), (s2, .inl (kI, 140000, .inl (upd li nu x))), (s3, .inl (kI, 140000, .inl (upd of nu y)))] H := hP
      have hD : va_D A [(s0, .inr (6, [.ref s1, .ref s2, .ref s3, .int (nI pt), .int (nI (nu + 1)), .int (nI (ma + k))])), (s1, .inl (kI, 140001, .inl (upd st (nu + 1) (((st nu) + x) + (nI k))))), (s2, .inl (kI, 140000, .inl (upd li nu x))), (s3, .inl (kI, 140000, .inl (upd of nu y)))] := hD
      have hP9 := hP.sub (ws' := [(s0, .inr (6, [.ref s1, .ref s2, .ref s3, .int (nI pt), .int (nI (nu + 1)), .int (nI (ma + k))])), (s1, .inl (kI, 140001, .inl (upd st (nu + 1) ((st nu + x) + nI k)))), (s2, .inl (kI, 140000, .inl (upd li nu x))), (s3, .inl (kI, 140000, .inl (upd of nu y)))]) [0, 1, 2, 3] rfl
      have hD9 := hD.sub (ws' := [(s0, .inr (6, [.ref s1, .ref s2, .ref s3, .int (nI pt), .int (nI (nu + 1)), .int (nI (ma + k))])), (s1, .inl (kI, 140001, .inl (upd st (nu + 1) ((st nu + x) + nI k)))), (s2, .inl (kI, 140000, .inl (upd li nu x))), (s3, .inl (kI, 140000, .inl (upd of nu y)))]) [0, 1, 2, 3] (by decide) rfl
      exact W.vret hx hb hr (fun t9 ht9 hW9 => ⟨⟨(), rfl, trivial, by rw [ht9]; exact hP9, va_K.moved hW9.alike hK, hD9⟩, hS.F ht9⟩) hS.2.2 dX6_add_81
    · omega

set_option maxHeartbeats 4000000 in
set_option maxRecDepth 100000 in
theorem c_Seq_moreBytes (l : Launch) (dC : Nat → ClassId) (dI : Nat → Nat → Nat) (kB kI : ClassId) (k : Nat) (hk : k ≤ 200000) : zMi l yX6_moreBytes wsX6_moreBytes ({ frames := 0, cells := 0, slots := 0, locals := 0 }) (dC, dI) kB kI [.int (nI k)] [] 0 0 (fun (r : Int32) => fun _ : Unit => r = nI (moreN k)) (fun _ : Unit => []) := by
  intro sz
  refine Met.ofW (cc := cX6_moreBytes) (maxL := 1) (ret := (some .int)) (by decide) rfl ?_
  intro p e s m args below meth c s₁ B hml hv
  obtain ⟨rfl, hsz, hP, hK, hD0⟩ := hv
  have hx := B.exec
  have hb := B.bytes
  have hr := B.returns
  have hts := atoms_spec (ws := wsX6_moreBytes) B.pre
  have hown : s.vm.findClass RX6 = some m.cls := findClass_of_methodNamed B.named
  have hlocks := B.notSynchronized
  subst hsz
  have hD := hD0.self (sz := s.heap.size)
  generalize hAe : va_A [] s.heap.size = A at hD ⊢
  have hA : ∀ q : Nat, s.heap.size ≤ q → A q := fun q h => by rw [← hAe]; exact Or.inr h
  have hS : va_S A s.heap s.heap [] := va_S.rf
  have hP : va_P (dC, dI) vwCl [] s.heap := hP
  have hl := lv_entry ([.int (nI k)]) (n := 1) (Nat.le_of_ble_eq_true rfl)
  rw [lg_entry_eq]
  generalize (lg_sl ([.int (nI k)]) ++ List.replicate (1 - (lg_sl ([.int (nI k)])).length) Slot.unset).toArray = ls at hl ⊢
  have hl : lv_has ls 1 [(0, .int (nI k))] := hl
  refine zG (fun GG hG1 hG2 => ?_)
  refine lv_iload_n hx hb dX6_moreBytes_0 rfl (lv_at hl 0 rfl) ?_
  refine lv_bipush (v := 15) hx hb dX6_moreBytes_1 (by decide) ?_
  refine zb_icmp_ge (tgt := 10) (a := ((k : Nat) : Int)) (b := 15) hx hb dX6_moreBytes_3 (by decide) (nI_toInt (by omega)) (by decide) (fun c3 => ?_) (fun c3 => ?_)
  · refine lv_iconst (v := 1) hx hb dX6_moreBytes_10 (by decide) ?_
    refine lv_iload_n hx hb dX6_moreBytes_11 rfl (lv_at hl 0 rfl) ?_
    refine lv_bipush (v := 15) hx hb dX6_moreBytes_12 (by decide) ?_
    refine lv_isub hx hb dX6_moreBytes_14 ?_
    refine lv_is (y := (nI (k - 15))) ((zn_sub rfl (show (15 : Int32) = nI 15 from rfl) (by omega)).trans (congrArg nI (by omega))) ?_
    refine lv_sipush (v := 255) hx hb dX6_moreBytes_15 (by decide) ?_
    refine lv_idiv hx hb dX6_moreBytes_18 (by decide) ?_
    refine lv_is (y := (nI ((k - 15) / 255))) (zn_div rfl (show (255 : Int32) = nI 255 from rfl) (by omega) (by omega) (by omega)) ?_
    refine lv_iadd hx hb dX6_moreBytes_19 ?_
    refine lv_is (y := (nI (1 + ((k - 15) / 255)))) ((zn_add (show (1 : Int32) = nI 1 from rfl) rfl)) ?_
    have hP9 := hP.sub (ws' := []) [] rfl
    have hD9 := hD.sub (ws' := []) [] (by decide) rfl
    exact W.iret (v := (nI (1 + ((k - 15) / 255)))) hx hb hr (fun t9 ht9 hW9 => ⟨⟨(nI (1 + ((k - 15) / 255))), (), rfl, (by unfold moreN; rw [if_neg (by omega), Nat.add_comm]), by rw [ht9]; exact hP9, va_K.moved hW9.alike hK, hD9⟩, hS.F ht9⟩) hS.2.2 dX6_moreBytes_20
  · refine lv_iconst (v := 0) hx hb dX6_moreBytes_6 (by decide) ?_
    refine lv_goto (tgt := 20) hx hb dX6_moreBytes_7 (by decide) ?_
    have hP9 := hP.sub (ws' := []) [] rfl
    have hD9 := hD.sub (ws' := []) [] (by decide) rfl
    exact W.iret (v := 0) hx hb hr (fun t9 ht9 hW9 => ⟨⟨0, (), rfl, (by unfold moreN; rw [if_pos (by omega)]; rfl), by rw [ht9]; exact hP9, va_K.moved hW9.alike hK, hD9⟩, hS.F ht9⟩) hS.2.2 dX6_moreBytes_20

set_option maxHeartbeats 4000000 in
set_option maxRecDepth 100000 in
theorem c_Fault_refuse (l : Launch) (dC : Nat → ClassId) (dI : Nat → Nat → Nat) (kB kI : ClassId) (f0 : Nat) (x1 : Int32) (x2 : Int32) (x : Int32) (y : Int32)  : zMi l yX1_refuse wsX1_refuse ({ frames := 0, cells := 0, slots := 0, locals := 0 }) (dC, dI) kB kI [.ref f0, .int x, .int y] [(f0, .inr (1, [.int x1, .int x2]))] 0 0 (fun (r : Int32) => fun _ : Unit => r = 0) (fun _ : Unit => [(f0, .inr (1, [.int x, .int y]))]) := by
  intro sz
  refine Met.ofW (cc := cX1_refuse) (maxL := 3) (ret := (some .boolean)) (by decide) rfl ?_
  intro p e s m args below meth c s₁ B hml hv
  obtain ⟨rfl, hsz, hP, hK, hD0⟩ := hv
  have hx := B.exec
  have hb := B.bytes
  have hr := B.returns
  have hts := atoms_spec (ws := wsX1_refuse) B.pre
  have hown : s.vm.findClass RX1 = some m.cls := findClass_of_methodNamed B.named
  have hlocks := B.notSynchronized
  subst hsz
  have hD := hD0.self (sz := s.heap.size)
  generalize hAe : va_A [(f0, .inr (1, [.int x1, .int x2]))] s.heap.size = A at hD ⊢
  have hA : ∀ q : Nat, s.heap.size ≤ q → A q := fun q h => by rw [← hAe]; exact Or.inr h
  have hS : va_S A s.heap s.heap [] := va_S.rf
  have hP : va_P (dC, dI) vwCl [(f0, .inr (1, [.int x1, .int x2]))] s.heap := hP
  have hl := lv_entry ([.ref f0, .int x, .int y]) (n := 3) (Nat.le_of_ble_eq_true rfl)
  rw [lg_entry_eq]
  generalize (lg_sl ([.ref f0, .int x, .int y]) ++ List.replicate (3 - (lg_sl ([.ref f0, .int x, .int y])).length) Slot.unset).toArray = ls at hl ⊢
  have hl : lv_has ls 3 [(0, .ref f0), (1, .int x), (2, .int y)] := hl
  refine zG (fun GG hG1 hG2 => ?_)
  refine lv_aload_n hx hb dX1_refuse_0 rfl (lv_at hl 0 rfl) ?_
  refine lv_iload_n hx hb dX1_refuse_1 rfl (lv_at hl 1 rfl) ?_
  refine va_put (D := (dC, dI)) (ci := 1) (v := .int x) (ty := .int) (C := RX1) (T := TX1) (N := 2) hx hb hts (by decide +kernel) tyX1 tyX1_ok nmX1 hown hK hP hD hS 0 rfl rfl 0 (by decide) (hts (.fieldLink RX1 15 "SequenceFrames$Fault" "number" "I") (by decide +kernel)) (fun _ h9 => h9) rfl (by decide +kernel) rfl rfl (Nat.le_of_ble_eq_true rfl) dX1_refuse_2 (fun H locs hP hD hS => ?_)
  have hP : va_P (dC, dI) vwCl [(f0, .inr (1, [.int x, .int x2]))] H := hP
  have hD : va_D A [(f0, .inr (1, [.int x, .int x2]))] := hD
  refine lv_aload_n hx hb dX1_refuse_5 rfl (lv_at hl 0 rfl) ?_
  refine lv_iload_n hx hb dX1_refuse_6 rfl (lv_at hl 2 rfl) ?_
  refine va_put (D := (dC, dI)) (ci := 1) (v := .int y) (ty := .int) (C := RX1) (T := TX1) (N := 2) hx hb hts (by decide +kernel) tyX1 tyX1_ok nmX1 hown hK hP hD hS 0 rfl rfl 1 (by decide) (hts (.fieldLink RX1 9 "SequenceFrames$Fault" "where" "I") (by decide +kernel)) (fun _ h9 => h9) rfl (by decide +kernel) rfl rfl (Nat.le_of_ble_eq_true rfl) dX1_refuse_7 (fun H locs hP hD hS => ?_)
  have hP : va_P (dC, dI) vwCl [(f0, .inr (1, [.int x, .int y]))] H := hP
  have hD : va_D A [(f0, .inr (1, [.int x, .int y]))] := hD
  refine lv_iconst (v := 0) hx hb dX1_refuse_10 (by decide) ?_
  have hP9 := hP.sub (ws' := [(f0, .inr (1, [.int x, .int y]))]) [0] rfl
  have hD9 := hD.sub (ws' := [(f0, .inr (1, [.int x, .int y]))]) [0] (by decide) rfl
  exact W.zret (v := 0) hx hb hr (by decide) (fun t9 ht9 hW9 => ⟨⟨0, (), rfl, rfl, by rw [ht9]; exact hP9, va_K.moved hW9.alike hK, hD9⟩, hS.F ht9⟩) hS.2.2 dX1_refuse_11

set_option maxHeartbeats 4000000 in
set_option maxRecDepth 100000 in
theorem c_Opt_linked (l : Launch) (dC : Nat → ClassId) (dI : Nat → Nat → Nat) (kB kI : ClassId) (o0 : Nat) (o1 : Nat) (v : Nat → Int32)  : zMi l yX3_linked wsX3_linked ({ frames := 0, cells := 0, slots := 0, locals := 0 }) (dC, dI) kB kI [.ref o0] [(o0, .inr (3, [.ref o1])), (o1, .inl (kI, 6, .inl v))] 0 0 (fun (r : Int32) => fun _ : Unit => (r = 1 ∧ v 0 = 1) ∨ (r = 0 ∧ v 0 ≠ 1)) (fun _ : Unit => [(o0, .inr (3, [.ref o1])), (o1, .inl (kI, 6, .inl v))]) := by
  intro sz
  refine Met.ofW (cc := cX3_linked) (maxL := 1) (ret := (some .boolean)) (by decide) rfl ?_
  intro p e s m args below meth c s₁ B hml hv
  obtain ⟨rfl, hsz, hP, hK, hD0⟩ := hv
  have hx := B.exec
  have hb := B.bytes
  have hr := B.returns
  have hts := atoms_spec (ws := wsX3_linked) B.pre
  have hown : s.vm.findClass RX3 = some m.cls := findClass_of_methodNamed B.named
  have hlocks := B.notSynchronized
  subst hsz
  have hD := hD0.self (sz := s.heap.size)
  generalize hAe : va_A [(o0, .inr (3, [.ref o1])), (o1, .inl (kI, 6, .inl v))] s.heap.size = A at hD ⊢
  have hA : ∀ q : Nat, s.heap.size ≤ q → A q := fun q h => by rw [← hAe]; exact Or.inr h
  have hS : va_S A s.heap s.heap [] := va_S.rf
  have hP : va_P (dC, dI) vwCl [(o0, .inr (3, [.ref o1])), (o1, .inl (kI, 6, .inl v))] s.heap := hP
  have hl := lv_entry ([.ref o0]) (n := 1) (Nat.le_of_ble_eq_true rfl)
  rw [lg_entry_eq]
  generalize (lg_sl ([.ref o0]) ++ List.replicate (1 - (lg_sl ([.ref o0])).length) Slot.unset).toArray = ls at hl ⊢
  have hl : lv_has ls 1 [(0, .ref o0)] := hl
  refine zG (fun GG hG1 hG2 => ?_)
  refine lv_aload_n hx hb dX3_linked_0 rfl (lv_at hl 0 rfl) ?_
  refine va_get (D := (dC, dI)) (ci := 3) (v := .ref o1) (C := RX3) (T := TX3) (N := 1) hx hb hts (by decide +kernel) hown hK hP 0 rfl rfl 0 (by decide) (hts (.fieldLink RX3 10 "SequenceFrames$Options" "values" "[I") (by decide +kernel)) (fun _ h9 => h9) rfl dX3_linked_1 ?_
  refine lv_iconst (v := 0) hx hb dX3_linked_4 (by decide) ?_
  refine va_iald hx hb hK hP 1 1 rfl rfl (zin (show (0 : Int32) = nI 0 from rfl) (by omega) (by omega)) dX3_linked_5 ?_
  refine lv_is (y := (v 0)) (zld v (show (0 : Int32) = nI 0 from rfl) (by omega)) ?_
  refine lv_iconst (v := 1) hx hb dX3_linked_6 (by decide) ?_
  refine lv_icmp_ne (tgt := 14) hx hb dX3_linked_7 (by decide) (fun c7 => ?_) (fun c7 => ?_)
  · refine lv_iconst (v := 0) hx hb dX3_linked_14 (by decide) ?_
    have hP9 := hP.sub (ws' := [(o0, .inr (3, [.ref o1])), (o1, .inl (kI, 6, .inl v))]) [0, 1] rfl
    have hD9 := hD.sub (ws' := [(o0, .inr (3, [.ref o1])), (o1, .inl (kI, 6, .inl v))]) [0, 1] (by decide) rfl
    exact W.zret (v := 0) hx hb hr (by decide) (fun t9 ht9 hW9 => ⟨⟨0, (), rfl, (Or.inr ⟨rfl, c7⟩), by rw [ht9]; exact hP9, va_K.moved hW9.alike hK, hD9⟩, hS.F ht9⟩) hS.2.2 dX3_linked_15
  · refine lv_iconst (v := 1) hx hb dX3_linked_10 (by decide) ?_
    refine lv_goto (tgt := 15) hx hb dX3_linked_11 (by decide) ?_
    have hP9 := hP.sub (ws' := [(o0, .inr (3, [.ref o1])), (o1, .inl (kI, 6, .inl v))]) [0, 1] rfl
    have hD9 := hD.sub (ws' := [(o0, .inr (3, [.ref o1])), (o1, .inl (kI, 6, .inl v))]) [0, 1] (by decide) rfl
    exact W.zret (v := 1) hx hb hr (by decide) (fun t9 ht9 hW9 => ⟨⟨1, (), rfl, (Or.inl ⟨rfl, c7⟩), by rw [ht9]; exact hP9, va_K.moved hW9.alike hK, hD9⟩, hS.F ht9⟩) hS.2.2 dX3_linked_15

set_option maxHeartbeats 4000000 in
set_option maxRecDepth 100000 in
theorem c_Opt_code (l : Launch) (dC : Nat → ClassId) (dI : Nat → Nat → Nat) (kB kI : ClassId) (o0 : Nat) (o1 : Nat) (v : Nat → Int32)  : zMi l yX3_code wsX3_code ({ frames := 0, cells := 0, slots := 0, locals := 0 }) (dC, dI) kB kI [.ref o0] [(o0, .inr (3, [.ref o1])), (o1, .inl (kI, 6, .inl v))] 0 0 (fun (r : Int32) => fun _ : Unit => r = v 4) (fun _ : Unit => [(o0, .inr (3, [.ref o1])), (o1, .inl (kI, 6, .inl v))]) := by
  intro sz
  refine Met.ofW (cc := cX3_code) (maxL := 1) (ret := (some .int)) (by decide) rfl ?_
  intro p e s m args below meth c s₁ B hml hv
  obtain ⟨rfl, hsz, hP, hK, hD0⟩ := hv
  have hx := B.exec
  have hb := B.bytes
  have hr := B.returns
  have hts := atoms_spec (ws := wsX3_code) B.pre
  have hown : s.vm.findClass RX3 = some m.cls := findClass_of_methodNamed B.named
  have hlocks := B.notSynchronized
  subst hsz
  have hD := hD0.self (sz := s.heap.size)
  generalize hAe : va_A [(o0, .inr (3, [.ref o1])), (o1, .inl (kI, 6, .inl v))] s.heap.size = A at hD ⊢
  have hA : ∀ q : Nat, s.heap.size ≤ q → A q := fun q h => by rw [← hAe]; exact Or.inr h
  have hS : va_S A s.heap s.heap [] := va_S.rf
  have hP : va_P (dC, dI) vwCl [(o0, .inr (3, [.ref o1])), (o1, .inl (kI, 6, .inl v))] s.heap := hP
  have hl := lv_entry ([.ref o0]) (n := 1) (Nat.le_of_ble_eq_true rfl)
  rw [lg_entry_eq]
  generalize (lg_sl ([.ref o0]) ++ List.replicate (1 - (lg_sl ([.ref o0])).length) Slot.unset).toArray = ls at hl ⊢
  have hl : lv_has ls 1 [(0, .ref o0)] := hl
  refine zG (fun GG hG1 hG2 => ?_)
  refine lv_aload_n hx hb dX3_code_0 rfl (lv_at hl 0 rfl) ?_
  refine va_get (D := (dC, dI)) (ci := 3) (v := .ref o1) (C := RX3) (T := TX3) (N := 1) hx hb hts (by decide +kernel) hown hK hP 0 rfl rfl 0 (by decide) (hts (.fieldLink RX3 10 "SequenceFrames$Options" "values" "[I") (by decide +kernel)) (fun _ h9 => h9) rfl dX3_code_1 ?_
  refine lv_iconst (v := 4) hx hb dX3_code_4 (by decide) ?_
  refine va_iald hx hb hK hP 1 1 rfl rfl (zin (show (4 : Int32) = nI 4 from rfl) (by omega) (by omega)) dX3_code_5 ?_
  refine lv_is (y := (v 4)) (zld v (show (4 : Int32) = nI 4 from rfl) (by omega)) ?_
  have hP9 := hP.sub (ws' := [(o0, .inr (3, [.ref o1])), (o1, .inl (kI, 6, .inl v))]) [0, 1] rfl
  have hD9 := hD.sub (ws' := [(o0, .inr (3, [.ref o1])), (o1, .inl (kI, 6, .inl v))]) [0, 1] (by decide) rfl
  exact W.iret (v := (v 4)) hx hb hr (fun t9 ht9 hW9 => ⟨⟨(v 4), (), rfl, rfl, by rw [ht9]; exact hP9, va_K.moved hW9.alike hK, hD9⟩, hS.F ht9⟩) hS.2.2 dX3_code_6

set_option maxHeartbeats 4000000 in
set_option maxRecDepth 100000 in
theorem c_Opt_part (l : Launch) (dC : Nat → ClassId) (dI : Nat → Nat → Nat) (kB kI : ClassId) (o0 : Nat) (o1 : Nat) (v : Nat → Int32)  : zMi l yX3_part wsX3_part ({ frames := 0, cells := 0, slots := 0, locals := 0 }) (dC, dI) kB kI [.ref o0] [(o0, .inr (3, [.ref o1])), (o1, .inl (kI, 6, .inl v))] 0 0 (fun (r : Int32) => fun _ : Unit => r = v 5) (fun _ : Unit => [(o0, .inr (3, [.ref o1])), (o1, .inl (kI, 6, .inl v))]) := by
  intro sz
  refine Met.ofW (cc := cX3_part) (maxL := 1) (ret := (some .int)) (by decide) rfl ?_
  intro p e s m args below meth c s₁ B hml hv
  obtain ⟨rfl, hsz, hP, hK, hD0⟩ := hv
  have hx := B.exec
  have hb := B.bytes
  have hr := B.returns
  have hts := atoms_spec (ws := wsX3_part) B.pre
  have hown : s.vm.findClass RX3 = some m.cls := findClass_of_methodNamed B.named
  have hlocks := B.notSynchronized
  subst hsz
  have hD := hD0.self (sz := s.heap.size)
  generalize hAe : va_A [(o0, .inr (3, [.ref o1])), (o1, .inl (kI, 6, .inl v))] s.heap.size = A at hD ⊢
  have hA : ∀ q : Nat, s.heap.size ≤ q → A q := fun q h => by rw [← hAe]; exact Or.inr h
  have hS : va_S A s.heap s.heap [] := va_S.rf
  have hP : va_P (dC, dI) vwCl [(o0, .inr (3, [.ref o1])), (o1, .inl (kI, 6, .inl v))] s.heap := hP
  have hl := lv_entry ([.ref o0]) (n := 1) (Nat.le_of_ble_eq_true rfl)
  rw [lg_entry_eq]
  generalize (lg_sl ([.ref o0]) ++ List.replicate (1 - (lg_sl ([.ref o0])).length) Slot.unset).toArray = ls at hl ⊢
  have hl : lv_has ls 1 [(0, .ref o0)] := hl
  refine zG (fun GG hG1 hG2 => ?_)
  refine lv_aload_n hx hb dX3_part_0 rfl (lv_at hl 0 rfl) ?_
  refine va_get (D := (dC, dI)) (ci := 3) (v := .ref o1) (C := RX3) (T := TX3) (N := 1) hx hb hts (by decide +kernel) hown hK hP 0 rfl rfl 0 (by decide) (hts (.fieldLink RX3 10 "SequenceFrames$Options" "values" "[I") (by decide +kernel)) (fun _ h9 => h9) rfl dX3_part_1 ?_
  refine lv_iconst (v := 5) hx hb dX3_part_4 (by decide) ?_
  refine va_iald hx hb hK hP 1 1 rfl rfl (zin (show (5 : Int32) = nI 5 from rfl) (by omega) (by omega)) dX3_part_5 ?_
  refine lv_is (y := (v 5)) (zld v (show (5 : Int32) = nI 5 from rfl) (by omega)) ?_
  have hP9 := hP.sub (ws' := [(o0, .inr (3, [.ref o1])), (o1, .inl (kI, 6, .inl v))]) [0, 1] rfl
  have hD9 := hD.sub (ws' := [(o0, .inr (3, [.ref o1])), (o1, .inl (kI, 6, .inl v))]) [0, 1] (by decide) rfl
  exact W.iret (v := (v 5)) hx hb hr (fun t9 ht9 hW9 => ⟨⟨(v 5), (), rfl, rfl, by rw [ht9]; exact hP9, va_K.moved hW9.alike hK, hD9⟩, hS.F ht9⟩) hS.2.2 dX3_part_6
