set_option maxHeartbeats 4000000 in
set_option maxRecDepth 100000 in
theorem c_Top_refusedPut (l : Launch) (dC : Nat → ClassId) (dI : Nat → Nat → Nat) (kB kI : ClassId) (t0 : Nat) (y1 : Nat) (y2 : Nat) (y3 : Nat) (y4 : Nat) (y5 : Nat) (y6 : Nat) (y7 : Int32) (y8 : Int32) (y9 : Int32) (a0 : Nat) (a1 : Nat) (n : Nat) (f : Nat → Int32) (y : Int32) (yi : Int) (hn : n ≤ 140000) (yh : y.toInt = yi) : zMi l yX7_refusedPut wsX7_refusedPut ({ frames := 1, cells := 0, slots := 0, locals := 20 }) (dC, dI) kB kI [.ref t0, .int y] [(t0, .inr (7, [.ref a0, .ref y1, .ref y2, .ref y3, .ref y4, .ref y5, .ref y6, .int y7, .int y8, .int y9])), (a0, .inr (5, [.ref a1, .int (nI n)])), (a1, .inl (kB, 140000, .inl f))] 0 0 (fun (r : Int32) => fun _ : Unit => (r = 0 ∧ 1 ≤ yi ∧ yi ≤ 70000 ∧ n + yi ≤ 140000) ∨ (r = -1 ∧ (yi < 1 ∨ 70000 < yi)) ∨ (r = -2 ∧ 1 ≤ yi ∧ yi ≤ 70000 ∧ 140000 < n + yi)) (fun _ : Unit => [(t0, .inr (7, [.ref a0, .ref y1, .ref y2, .ref y3, .ref y4, .ref y5, .ref y6, .int y7, .int y8, .int y9])), (a0, .inr (5, [.ref a1, .int (nI n)])), (a1, .inl (kB, 140000, .inl f))]) := by
  intro sz
  refine Met.ofW (cc := cX7_refusedPut) (maxL := 2) (ret := (some .int)) (by decide) rfl ?_
  intro p e s m args below meth c s₁ B hml hv
  obtain ⟨rfl, hsz, hP, hK, hD0⟩ := hv
  have hx := B.exec
  have hb := B.bytes
  have hr := B.returns
  have hts := atoms_spec (ws := wsX7_refusedPut) B.pre
  have hown : s.vm.findClass RX7 = some m.cls := findClass_of_methodNamed B.named
  have hlocks := B.notSynchronized
  subst hsz
  have hD := hD0.self (sz := s.heap.size)
  generalize hAe : va_A [(t0, .inr (7, [.ref a0, .ref y1, .ref y2, .ref y3, .ref y4, .ref y5, .ref y6, .int y7, .int y8, .int y9])), (a0, .inr (5, [.ref a1, .int (nI n)])), (a1, .inl (kB, 140000, .inl f))] s.heap.size = A at hD ⊢
  have hA : ∀ q : Nat, s.heap.size ≤ q → A q := fun q h => by rw [← hAe]; exact Or.inr h
  have hS : va_S A s.heap s.heap [] := va_S.rf
  have hP : va_P (dC, dI) vwCl [(t0, .inr (7, [.ref a0, .ref y1, .ref y2, .ref y3, .ref y4, .ref y5, .ref y6, .int y7, .int y8, .int y9])), (a0, .inr (5, [.ref a1, .int (nI n)])), (a1, .inl (kB, 140000, .inl f))] s.heap := hP
  have hl := lv_entry ([.ref t0, .int y]) (n := 2) (Nat.le_of_ble_eq_true rfl)
  rw [lg_entry_eq]
  generalize (lg_sl ([.ref t0, .int y]) ++ List.replicate (2 - (lg_sl ([.ref t0, .int y])).length) Slot.unset).toArray = ls at hl ⊢
  have hl : lv_has ls 2 [(0, .ref t0), (1, .int y)] := hl
  refine zG (fun GG hG1 hG2 => ?_)
  refine lv_iload_n hx hb dX7_refusedPut_0 rfl (lv_at hl 1 rfl) ?_
  refine lv_iconst (v := 1) hx hb dX7_refusedPut_1 (by decide) ?_
  refine zb_icmp_lt (tgt := 11) (a := yi) (b := 1) hx hb dX7_refusedPut_2 (by decide) yh (by decide) (fun c2 => ?_) (fun c2 => ?_)
  · refine lv_iconst (v := (-1)) hx hb dX7_refusedPut_11 (by decide) ?_
    have hP9 := hP.sub (ws' := [(t0, .inr (7, [.ref a0, .ref y1, .ref y2, .ref y3, .ref y4, .ref y5, .ref y6, .int y7, .int y8, .int y9])), (a0, .inr (5, [.ref a1, .int (nI n)])), (a1, .inl (kB, 140000, .inl f))]) [0, 1, 2] rfl
    have hD9 := hD.sub (ws' := [(t0, .inr (7, [.ref a0, .ref y1, .ref y2, .ref y3, .ref y4, .ref y5, .ref y6, .int y7, .int y8, .int y9])), (a0, .inr (5, [.ref a1, .int (nI n)])), (a1, .inl (kB, 140000, .inl f))]) [0, 1, 2] (by decide) rfl
    exact W.iret (v := (-1)) hx hb hr (fun t9 ht9 hW9 => ⟨⟨(-1), (), rfl, (by right; left; exact ⟨rfl, by omega⟩), by rw [ht9]; exact hP9, va_K.moved hW9.alike hK, hD9⟩, hS.F ht9⟩) hS.2.2 dX7_refusedPut_12
  · refine lv_iload_n hx hb dX7_refusedPut_5 rfl (lv_at hl 1 rfl) ?_
    refine lv_ldc (v := 70000) hx hb hown (hts (.constant RX7 165 70000) (by decide +kernel)) dX7_refusedPut_6 ?_
    refine zb_icmp_le (tgt := 13) (a := yi) (b := 70000) hx hb dX7_refusedPut_8 (by decide) yh (by decide) (fun c8 => ?_) (fun c8 => ?_)
    · refine lv_iload_n hx hb dX7_refusedPut_13 rfl (lv_at hl 1 rfl) ?_
      refine lv_aload_n hx hb dX7_refusedPut_14 rfl (lv_at hl 0 rfl) ?_
      refine va_get (D := (dC, dI)) (ci := 7) (v := .ref a0) (C := RX7) (T := TX7) (N := 10) hx hb hts (by decide +kernel) hown hK hP 0 rfl rfl 0 (by decide) (hts (.fieldLink RX7 15 "SequenceFrames" "content" "LSequenceFrames$Row;") (by decide +kernel)) (fun _ h9 => h9) rfl dX7_refusedPut_15 ?_
      refine z_calli (wr := [(t0, .inr (7, [.ref a0, .ref y1, .ref y2, .ref y3, .ref y4, .ref y5, .ref y6, .int y7, .int y8, .int y9]))]) (va_runV (As := []) (rest := [.int y]) ⟨hx, hb, hml, hown, hts⟩ (c_Row_room l dC dI kB kI a0 a1 140000 n f (by omega) (by omega) s.heap.size) (cwV 0 hts gX7_refusedPut_X5_room rfl rfl rfl (by decide +kernel) ⟨Nat.le_of_ble_eq_true rfl, Nat.le_of_ble_eq_true rfl⟩) (z_preV hK (hP.sub [1, 2] rfl) (hD.sub [1, 2] (by decide) rfl) (va_recv hK hP (ci := 5) (q0 := 1) rfl rfl)) rfl rfl hl.1 rfl (lv_room (Nat.le_of_ble_eq_true rfl)) dX7_refusedPut_18 ⟨Nat.le_of_ble_eq_true rfl, Nat.le_of_ble_eq_true rfl⟩) hK hP hD hS hA [1, 2] [0] rfl rfl (by decide) (by decide) (fun r1 uq2 H locs hw hP hD hS => ?_)
      replace hw : r1 = nI (140000 - n) := hw
      have hP : va_P (dC, dI) vwCl [(t0, .inr (7, [.ref a0, .ref y1, .ref y2, .ref y3, .ref y4, .ref y5, .ref y6, .int y7, .int y8, .int y9])), (a0, .inr (5, [.ref a1, .int (nI n)])), (a1, .inl (kB, 140000, .inl f))] H := hP
      have hD : va_D A [(t0, .inr (7, [.ref a0, .ref y1, .ref y2, .ref y3, .ref y4, .ref y5, .ref y6, .int y7, .int y8, .int y9])), (a0, .inr (5, [.ref a1, .int (nI n)])), (a1, .inl (kB, 140000, .inl f))] := hD
      subst hw
      refine zb_icmp_le (tgt := 29) (a := yi) (b := ((140000 - n : Nat) : Int)) hx hb dX7_refusedPut_21 (by decide) yh (nI_toInt (by omega)) (fun c21 => ?_) (fun c21 => ?_)
      · refine lv_iconst (v := 0) hx hb dX7_refusedPut_29 (by decide) ?_
        have hP9 := hP.sub (ws' := [(t0, .inr (7, [.ref a0, .ref y1, .ref y2, .ref y3, .ref y4, .ref y5, .ref y6, .int y7, .int y8, .int y9])), (a0, .inr (5, [.ref a1, .int (nI n)])), (a1, .inl (kB, 140000, .inl f))]) [0, 1, 2] rfl
        have hD9 := hD.sub (ws' := [(t0, .inr (7, [.ref a0, .ref y1, .ref y2, .ref y3, .ref y4, .ref y5, .ref y6, .int y7, .int y8, .int y9])), (a0, .inr (5, [.ref a1, .int (nI n)])), (a1, .inl (kB, 140000, .inl f))]) [0, 1, 2] (by decide) rfl
        exact W.iret (v := 0) hx hb hr (fun t9 ht9 hW9 => ⟨⟨0, (), rfl, (by left; exact ⟨rfl, by omega, by omega, by omega⟩), by rw [ht9]; exact hP9, va_K.moved hW9.alike hK, hD9⟩, hS.F ht9⟩) hS.2.2 dX7_refusedPut_30
      · refine lv_bipush (v := (-2)) hx hb dX7_refusedPut_24 (by decide) ?_
        refine lv_goto (tgt := 30) hx hb dX7_refusedPut_26 (by decide) ?_
        have hP9 := hP.sub (ws' := [(t0, .inr (7, [.ref a0, .ref y1, .ref y2, .ref y3, .ref y4, .ref y5, .ref y6, .int y7, .int y8, .int y9])), (a0, .inr (5, [.ref a1, .int (nI n)])), (a1, .inl (kB, 140000, .inl f))]) [0, 1, 2] rfl
        have hD9 := hD.sub (ws' := [(t0, .inr (7, [.ref a0, .ref y1, .ref y2, .ref y3, .ref y4, .ref y5, .ref y6, .int y7, .int y8, .int y9])), (a0, .inr (5, [.ref a1, .int (nI n)])), (a1, .inl (kB, 140000, .inl f))]) [0, 1, 2] (by decide) rfl
        exact W.iret (v := (-2)) hx hb hr (fun t9 ht9 hW9 => ⟨⟨(-2), (), rfl, (by right; right; exact ⟨rfl, by omega, by omega, by omega⟩), by rw [ht9]; exact hP9, va_K.moved hW9.alike hK, hD9⟩, hS.F ht9⟩) hS.2.2 dX7_refusedPut_30
    · refine lv_iconst (v := (-1)) hx hb dX7_refusedPut_11 (by decide) ?_
      have hP9 := hP.sub (ws' := [(t0, .inr (7, [.ref a0, .ref y1, .ref y2, .ref y3, .ref y4, .ref y5, .ref y6, .int y7, .int y8, .int y9])), (a0, .inr (5, [.ref a1, .int (nI n)])), (a1, .inl (kB, 140000, .inl f))]) [0, 1, 2] rfl
      have hD9 := hD.sub (ws' := [(t0, .inr (7, [.ref a0, .ref y1, .ref y2, .ref y3, .ref y4, .ref y5, .ref y6, .int y7, .int y8, .int y9])), (a0, .inr (5, [.ref a1, .int (nI n)])), (a1, .inl (kB, 140000, .inl f))]) [0, 1, 2] (by decide) rfl
      exact W.iret (v := (-1)) hx hb hr (fun t9 ht9 hW9 => ⟨⟨(-1), (), rfl, (by right; left; exact ⟨rfl, by omega⟩), by rw [ht9]; exact hP9, va_K.moved hW9.alike hK, hD9⟩, hS.F ht9⟩) hS.2.2 dX7_refusedPut_12

set_option maxHeartbeats 4000000 in
set_option maxRecDepth 100000 in
theorem c_Top_feed (l : Launch) (dC : Nat → ClassId) (dI : Nat → Nat → Nat) (kB kI : ClassId) (t0 : Nat) (y1 : Nat) (y2 : Nat) (y3 : Nat) (y4 : Nat) (y5 : Nat) (y6 : Nat) (y7 : Int32) (y8 : Int32) (y9 : Int32) (a0 : Nat) (a1 : Nat) (n : Nat) (f : Nat → Int32) (v : Int64) (x : Int32) (xi : Int) (hn : n ≤ 140000) (xh : x.toInt = xi) : zMi l yX7_feed wsX7_feed ({ frames := 2, cells := 0, slots := 0, locals := 45 }) (dC, dI) kB kI [.ref t0, .long v, .int x] [(t0, .inr (7, [.ref a0, .ref y1, .ref y2, .ref y3, .ref y4, .ref y5, .ref y6, .int y7, .int y8, .int y9])), (a0, .inr (5, [.ref a1, .int (nI n)])), (a1, .inl (kB, 140000, .inl f))] 0 0 (fun (r : Int32) => fun uu : (Nat → Int32) × Nat => (∃ k : Nat, xi = k ∧ 1 ≤ k ∧ k ≤ 8 ∧ ((n + k ≤ 140000 ∧ r = nI (n + k) ∧ uu.2 = n + k ∧ uu.1 = apF f n k (hiB v k)) ∨ (140000 < n + k ∧ r = -2 ∧ uu.2 = n ∧ uu.1 = f))) ∨ ((xi < 1 ∨ 8 < xi) ∧ r = -1 ∧ uu.2 = n ∧ uu.1 = f)) (fun uu : (Nat → Int32) × Nat => [(t0, .inr (7, [.ref a0, .ref y1, .ref y2, .ref y3, .ref y4, .ref y5, .ref y6, .int y7, .int y8, .int y9])), (a0, .inr (5, [.ref a1, .int (nI uu.2)])), (a1, .inl (kB, 140000, .inl uu.1))]) := by
  intro sz
  refine Met.ofW (cc := cX7_feed) (maxL := 4) (ret := (some .int)) (by decide) rfl ?_
  intro p e s m args below meth c s₁ B hml hv
  obtain ⟨rfl, hsz, hP, hK, hD0⟩ := hv
  have hx := B.exec
  have hb := B.bytes
  have hr := B.returns
  have hts := atoms_spec (ws := wsX7_feed) B.pre
  have hown : s.vm.findClass RX7 = some m.cls := findClass_of_methodNamed B.named
  have hlocks := B.notSynchronized
  subst hsz
  have hD := hD0.self (sz := s.heap.size)
  generalize hAe : va_A [(t0, .inr (7, [.ref a0, .ref y1, .ref y2, .ref y3, .ref y4, .ref y5, .ref y6, .int y7, .int y8, .int y9])), (a0, .inr (5, [.ref a1, .int (nI n)])), (a1, .inl (kB, 140000, .inl f))] s.heap.size = A at hD ⊢
  have hA : ∀ q : Nat, s.heap.size ≤ q → A q := fun q h => by rw [← hAe]; exact Or.inr h
  have hS : va_S A s.heap s.heap [] := va_S.rf
  have hP : va_P (dC, dI) vwCl [(t0, .inr (7, [.ref a0, .ref y1, .ref y2, .ref y3, .ref y4, .ref y5, .ref y6, .int y7, .int y8, .int y9])), (a0, .inr (5, [.ref a1, .int (nI n)])), (a1, .inl (kB, 140000, .inl f))] s.heap := hP
  have hl := lv_entry ([.ref t0, .long v, .int x]) (n := 4) (Nat.le_of_ble_eq_true rfl)
  rw [lg_entry_eq]
  generalize (lg_sl ([.ref t0, .long v, .int x]) ++ List.replicate (4 - (lg_sl ([.ref t0, .long v, .int x])).length) Slot.unset).toArray = ls at hl ⊢
  have hl : lv_has ls 4 [(0, .ref t0), (1, .long v), (3, .int x)] := hl
  refine zG (fun GG hG1 hG2 => ?_)
  refine lv_aload_n hx hb dX7_feed_0 rfl (lv_at hl 0 rfl) ?_
  refine va_get (D := (dC, dI)) (ci := 7) (v := .ref a0) (C := RX7) (T := TX7) (N := 10) hx hb hts (by decide +kernel) hown hK hP 0 rfl rfl 0 (by decide) (hts (.fieldLink RX7 15 "SequenceFrames" "content" "LSequenceFrames$Row;") (by decide +kernel)) (fun _ h9 => h9) rfl dX7_feed_1 ?_
  refine lv_lload_n hx hb dX7_feed_4 rfl (lv_at hl 1 rfl) ?_
  refine lv_iload_n hx hb dX7_feed_5 rfl (lv_at hl 2 rfl) ?_
  refine z_calli (wr := [(t0, .inr (7, [.ref a0, .ref y1, .ref y2, .ref y3, .ref y4, .ref y5, .ref y6, .int y7, .int y8, .int y9]))]) (va_runV (As := [.long v, .int x]) (rest := []) ⟨hx, hb, hml, hown, hts⟩ (c_Row_addHighestFirst l dC dI kB kI a0 a1 140000 n f v x xi (by omega) (by omega) xh s.heap.size) (cwV 2 hts gX7_feed_X5_addHighestFirst rfl rfl rfl (by decide +kernel) ⟨Nat.le_of_ble_eq_true rfl, Nat.le_of_ble_eq_true rfl⟩) (z_preV hK (hP.sub [1, 2] rfl) (hD.sub [1, 2] (by decide) rfl) (va_recv hK hP (ci := 5) (q0 := 1) rfl rfl)) rfl rfl hl.1 rfl (lv_room (Nat.le_of_ble_eq_true rfl)) dX7_feed_6 ⟨Nat.le_of_ble_eq_true rfl, Nat.le_of_ble_eq_true rfl⟩) hK hP hD hS hA [1, 2] [0] rfl rfl (by decide) (by decide) (fun r1 uq2 H locs hw hP hD hS => ?_)
  obtain ⟨fa, na⟩ := uq2
  replace hw : (∃ k : Nat, xi = k ∧ 1 ≤ k ∧ k ≤ 8 ∧ ((n + k ≤ 140000 ∧ r1 = nI (n + k) ∧ na = n + k ∧ fa = apF f n k (hiB v k)) ∨ (140000 < n + k ∧ r1 = -2 ∧ na = n ∧ fa = f))) ∨ ((xi < 1 ∨ 8 < xi) ∧ r1 = -1 ∧ na = n ∧ fa = f) := hw
  have hP : va_P (dC, dI) vwCl [(t0, .inr (7, [.ref a0, .ref y1, .ref y2, .ref y3, .ref y4, .ref y5, .ref y6, .int y7, .int y8, .int y9])), (a0, .inr (5, [.ref a1, .int (nI na)])), (a1, .inl (kB, 140000, .inl fa))] H := hP
  have hD : va_D A [(t0, .inr (7, [.ref a0, .ref y1, .ref y2, .ref y3, .ref y4, .ref y5, .ref y6, .int y7, .int y8, .int y9])), (a0, .inr (5, [.ref a1, .int (nI na)])), (a1, .inl (kB, 140000, .inl fa))] := hD
  have hP9 := hP.sub (ws' := [(t0, .inr (7, [.ref a0, .ref y1, .ref y2, .ref y3, .ref y4, .ref y5, .ref y6, .int y7, .int y8, .int y9])), (a0, .inr (5, [.ref a1, .int (nI na)])), (a1, .inl (kB, 140000, .inl fa))]) [0, 1, 2] rfl
  have hD9 := hD.sub (ws' := [(t0, .inr (7, [.ref a0, .ref y1, .ref y2, .ref y3, .ref y4, .ref y5, .ref y6, .int y7, .int y8, .int y9])), (a0, .inr (5, [.ref a1, .int (nI na)])), (a1, .inl (kB, 140000, .inl fa))]) [0, 1, 2] (by decide) rfl
  exact W.iret (v := r1) hx hb hr (fun t9 ht9 hW9 => ⟨⟨r1, (fa, na), rfl, hw, by rw [ht9]; exact hP9, va_K.moved hW9.alike hK, hD9⟩, hS.F ht9⟩) hS.2.2 dX7_feed_9

set_option maxHeartbeats 4000000 in
set_option maxRecDepth 100000 in
theorem c_Top_give (l : Launch) (dC : Nat → ClassId) (dI : Nat → Nat → Nat) (kB kI : ClassId) (t0 : Nat) (y0 : Nat) (y2 : Nat) (y3 : Nat) (y4 : Nat) (y5 : Nat) (y6 : Nat) (y7 : Int32) (y8 : Int32) (y9 : Int32) (a0 : Nat) (a1 : Nat) (n : Nat) (f : Nat → Int32) (v : Int64) (x : Int32) (xi : Int) (hn : n ≤ 150000) (xh : x.toInt = xi) : zMi l yX7_give wsX7_give ({ frames := 2, cells := 0, slots := 0, locals := 45 }) (dC, dI) kB kI [.ref t0, .long v, .int x] [(t0, .inr (7, [.ref y0, .ref a0, .ref y2, .ref y3, .ref y4, .ref y5, .ref y6, .int y7, .int y8, .int y9])), (a0, .inr (5, [.ref a1, .int (nI n)])), (a1, .inl (kB, 150000, .inl f))] 0 0 (fun (r : Int32) => fun uu : (Nat → Int32) × Nat => (∃ k : Nat, xi = k ∧ 1 ≤ k ∧ k ≤ 8 ∧ ((n + k ≤ 150000 ∧ r = nI (n + k) ∧ uu.2 = n + k ∧ uu.1 = apF f n k (hiB v k)) ∨ (150000 < n + k ∧ r = -2 ∧ uu.2 = n ∧ uu.1 = f))) ∨ ((xi < 1 ∨ 8 < xi) ∧ r = -1 ∧ uu.2 = n ∧ uu.1 = f)) (fun uu : (Nat → Int32) × Nat => [(t0, .inr (7, [.ref y0, .ref a0, .ref y2, .ref y3, .ref y4, .ref y5, .ref y6, .int y7, .int y8, .int y9])), (a0, .inr (5, [.ref a1, .int (nI uu.2)])), (a1, .inl (kB, 150000, .inl uu.1))]) := by
  intro sz
  refine Met.ofW (cc := cX7_give) (maxL := 4) (ret := (some .int)) (by decide) rfl ?_
  intro p e s m args below meth c s₁ B hml hv
  obtain ⟨rfl, hsz, hP, hK, hD0⟩ := hv
  have hx := B.exec
  have hb := B.bytes
  have hr := B.returns
  have hts := atoms_spec (ws := wsX7_give) B.pre
  have hown : s.vm.findClass RX7 = some m.cls := findClass_of_methodNamed B.named
  have hlocks := B.notSynchronized
  subst hsz
  have hD := hD0.self (sz := s.heap.size)
  generalize hAe : va_A [(t0, .inr (7, [.ref y0, .ref a0, .ref y2, .ref y3, .ref y4, .ref y5, .ref y6, .int y7, .int y8, .int y9])), (a0, .inr (5, [.ref a1, .int (nI n)])), (a1, .inl (kB, 150000, .inl f))] s.heap.size = A at hD ⊢
  have hA : ∀ q : Nat, s.heap.size ≤ q → A q := fun q h => by rw [← hAe]; exact Or.inr h
  have hS : va_S A s.heap s.heap [] := va_S.rf
  have hP : va_P (dC, dI) vwCl [(t0, .inr (7, [.ref y0, .ref a0, .ref y2, .ref y3, .ref y4, .ref y5, .ref y6, .int y7, .int y8, .int y9])), (a0, .inr (5, [.ref a1, .int (nI n)])), (a1, .inl (kB, 150000, .inl f))] s.heap := hP
  have hl := lv_entry ([.ref t0, .long v, .int x]) (n := 4) (Nat.le_of_ble_eq_true rfl)
  rw [lg_entry_eq]
  generalize (lg_sl ([.ref t0, .long v, .int x]) ++ List.replicate (4 - (lg_sl ([.ref t0, .long v, .int x])).length) Slot.unset).toArray = ls at hl ⊢
  have hl : lv_has ls 4 [(0, .ref t0), (1, .long v), (3, .int x)] := hl
  refine zG (fun GG hG1 hG2 => ?_)
  refine lv_aload_n hx hb dX7_give_0 rfl (lv_at hl 0 rfl) ?_
  refine va_get (D := (dC, dI)) (ci := 7) (v := .ref a0) (C := RX7) (T := TX7) (N := 10) hx hb hts (by decide +kernel) hown hK hP 0 rfl rfl 1 (by decide) (hts (.fieldLink RX7 20 "SequenceFrames" "frames" "LSequenceFrames$Row;") (by decide +kernel)) (fun _ h9 => h9) rfl dX7_give_1 ?_
  refine lv_lload_n hx hb dX7_give_4 rfl (lv_at hl 1 rfl) ?_
  refine lv_iload_n hx hb dX7_give_5 rfl (lv_at hl 2 rfl) ?_
  refine z_calli (wr := [(t0, .inr (7, [.ref y0, .ref a0, .ref y2, .ref y3, .ref y4, .ref y5, .ref y6, .int y7, .int y8, .int y9]))]) (va_runV (As := [.long v, .int x]) (rest := []) ⟨hx, hb, hml, hown, hts⟩ (c_Row_addHighestFirst l dC dI kB kI a0 a1 150000 n f v x xi (by omega) (by omega) xh s.heap.size) (cwV 2 hts gX7_give_X5_addHighestFirst rfl rfl rfl (by decide +kernel) ⟨Nat.le_of_ble_eq_true rfl, Nat.le_of_ble_eq_true rfl⟩) (z_preV hK (hP.sub [1, 2] rfl) (hD.sub [1, 2] (by decide) rfl) (va_recv hK hP (ci := 5) (q0 := 1) rfl rfl)) rfl rfl hl.1 rfl (lv_room (Nat.le_of_ble_eq_true rfl)) dX7_give_6 ⟨Nat.le_of_ble_eq_true rfl, Nat.le_of_ble_eq_true rfl⟩) hK hP hD hS hA [1, 2] [0] rfl rfl (by decide) (by decide) (fun r1 uq2 H locs hw hP hD hS => ?_)
  obtain ⟨fa, na⟩ := uq2
  replace hw : (∃ k : Nat, xi = k ∧ 1 ≤ k ∧ k ≤ 8 ∧ ((n + k ≤ 150000 ∧ r1 = nI (n + k) ∧ na = n + k ∧ fa = apF f n k (hiB v k)) ∨ (150000 < n + k ∧ r1 = -2 ∧ na = n ∧ fa = f))) ∨ ((xi < 1 ∨ 8 < xi) ∧ r1 = -1 ∧ na = n ∧ fa = f) := hw
  have hP : va_P (dC, dI) vwCl [(t0, .inr (7, [.ref y0, .ref a0, .ref y2, .ref y3, .ref y4, .ref y5, .ref y6, .int y7, .int y8, .int y9])), (a0, .inr (5, [.ref a1, .int (nI na)])), (a1, .inl (kB, 150000, .inl fa))] H := hP
  have hD : va_D A [(t0, .inr (7, [.ref y0, .ref a0, .ref y2, .ref y3, .ref y4, .ref y5, .ref y6, .int y7, .int y8, .int y9])), (a0, .inr (5, [.ref a1, .int (nI na)])), (a1, .inl (kB, 150000, .inl fa))] := hD
  have hP9 := hP.sub (ws' := [(t0, .inr (7, [.ref y0, .ref a0, .ref y2, .ref y3, .ref y4, .ref y5, .ref y6, .int y7, .int y8, .int y9])), (a0, .inr (5, [.ref a1, .int (nI na)])), (a1, .inl (kB, 150000, .inl fa))]) [0, 1, 2] rfl
  have hD9 := hD.sub (ws' := [(t0, .inr (7, [.ref y0, .ref a0, .ref y2, .ref y3, .ref y4, .ref y5, .ref y6, .int y7, .int y8, .int y9])), (a0, .inr (5, [.ref a1, .int (nI na)])), (a1, .inl (kB, 150000, .inl fa))]) [0, 1, 2] (by decide) rfl
  exact W.iret (v := r1) hx hb hr (fun t9 ht9 hW9 => ⟨⟨r1, (fa, na), rfl, hw, by rw [ht9]; exact hP9, va_K.moved hW9.alike hK, hD9⟩, hS.F ht9⟩) hS.2.2 dX7_give_9

set_option maxHeartbeats 4000000 in
set_option maxRecDepth 100000 in
theorem c_Top_change (l : Launch) (dC : Nat → ClassId) (dI : Nat → Nat → Nat) (kB kI : ClassId) (t0 : Nat) (y1 : Nat) (y2 : Nat) (y3 : Nat) (y4 : Nat) (y5 : Nat) (y6 : Nat) (y7 : Int32) (y8 : Int32) (y9 : Int32) (a0 : Nat) (a1 : Nat) (n : Nat) (f : Nat → Int32) (x : Int32) (xi : Int) (y : Int32) (hn : n ≤ 140000) (xh : x.toInt = xi) : zMi l yX7_change wsX7_change ({ frames := 2, cells := 0, slots := 0, locals := 44 }) (dC, dI) kB kI [.ref t0, .int x, .int y] [(t0, .inr (7, [.ref a0, .ref y1, .ref y2, .ref y3, .ref y4, .ref y5, .ref y6, .int y7, .int y8, .int y9])), (a0, .inr (5, [.ref a1, .int (nI n)])), (a1, .inl (kB, 140000, .inl f))] 0 0 (fun (r : Int32) => fun f2 : Nat → Int32 => (∃ j : Nat, xi = j ∧ j < n ∧ r = f j &&& 255 ∧ f2 = upd f j (i2b y)) ∨ ((xi < 0 ∨ (n : Int) ≤ xi) ∧ r = -1 ∧ f2 = f)) (fun f2 : Nat → Int32 => [(t0, .inr (7, [.ref a0, .ref y1, .ref y2, .ref y3, .ref y4, .ref y5, .ref y6, .int y7, .int y8, .int y9])), (a0, .inr (5, [.ref a1, .int (nI n)])), (a1, .inl (kB, 140000, .inl f2))]) := by
  intro sz
  refine Met.ofW (cc := cX7_change) (maxL := 3) (ret := (some .int)) (by decide) rfl ?_
  intro p e s m args below meth c s₁ B hml hv
  obtain ⟨rfl, hsz, hP, hK, hD0⟩ := hv
  have hx := B.exec
  have hb := B.bytes
  have hr := B.returns
  have hts := atoms_spec (ws := wsX7_change) B.pre
  have hown : s.vm.findClass RX7 = some m.cls := findClass_of_methodNamed B.named
  have hlocks := B.notSynchronized
  subst hsz
  have hD := hD0.self (sz := s.heap.size)
  generalize hAe : va_A [(t0, .inr (7, [.ref a0, .ref y1, .ref y2, .ref y3, .ref y4, .ref y5, .ref y6, .int y7, .int y8, .int y9])), (a0, .inr (5, [.ref a1, .int (nI n)])), (a1, .inl (kB, 140000, .inl f))] s.heap.size = A at hD ⊢
  have hA : ∀ q : Nat, s.heap.size ≤ q → A q := fun q h => by rw [← hAe]; exact Or.inr h
  have hS : va_S A s.heap s.heap [] := va_S.rf
  have hP : va_P (dC, dI) vwCl [(t0, .inr (7, [.ref a0, .ref y1, .ref y2, .ref y3, .ref y4, .ref y5, .ref y6, .int y7, .int y8, .int y9])), (a0, .inr (5, [.ref a1, .int (nI n)])), (a1, .inl (kB, 140000, .inl f))] s.heap := hP
  have hl := lv_entry ([.ref t0, .int x, .int y]) (n := 3) (Nat.le_of_ble_eq_true rfl)
  rw [lg_entry_eq]
  generalize (lg_sl ([.ref t0, .int x, .int y]) ++ List.replicate (3 - (lg_sl ([.ref t0, .int x, .int y])).length) Slot.unset).toArray = ls at hl ⊢
  have hl : lv_has ls 3 [(0, .ref t0), (1, .int x), (2, .int y)] := hl
  refine zG (fun GG hG1 hG2 => ?_)
  refine lv_aload_n hx hb dX7_change_0 rfl (lv_at hl 0 rfl) ?_
  refine va_get (D := (dC, dI)) (ci := 7) (v := .ref a0) (C := RX7) (T := TX7) (N := 10) hx hb hts (by decide +kernel) hown hK hP 0 rfl rfl 0 (by decide) (hts (.fieldLink RX7 15 "SequenceFrames" "content" "LSequenceFrames$Row;") (by decide +kernel)) (fun _ h9 => h9) rfl dX7_change_1 ?_
  refine lv_iload_n hx hb dX7_change_4 rfl (lv_at hl 1 rfl) ?_
  refine lv_iload_n hx hb dX7_change_5 rfl (lv_at hl 2 rfl) ?_
  refine z_calli (wr := [(t0, .inr (7, [.ref a0, .ref y1, .ref y2, .ref y3, .ref y4, .ref y5, .ref y6, .int y7, .int y8, .int y9]))]) (va_runV (As := [.int x, .int y]) (rest := []) ⟨hx, hb, hml, hown, hts⟩ (c_Row_set l dC dI kB kI a0 a1 140000 n f x xi y (by omega) (by omega) xh s.heap.size) (cwV 2 hts gX7_change_X5_set rfl rfl rfl (by decide +kernel) ⟨Nat.le_of_ble_eq_true rfl, Nat.le_of_ble_eq_true rfl⟩) (z_preV hK (hP.sub [1, 2] rfl) (hD.sub [1, 2] (by decide) rfl) (va_recv hK hP (ci := 5) (q0 := 1) rfl rfl)) rfl rfl hl.1 rfl (lv_room (Nat.le_of_ble_eq_true rfl)) dX7_change_6 ⟨Nat.le_of_ble_eq_true rfl, Nat.le_of_ble_eq_true rfl⟩) hK hP hD hS hA [1, 2] [0] rfl rfl (by decide) (by decide) (fun r1 uq2 H locs hw hP hD hS => ?_)
  obtain ⟨fa, rfl⟩ : ∃ z, z = uq2 := ⟨_, rfl⟩
  replace hw : (∃ j : Nat, xi = j ∧ j < n ∧ r1 = f j &&& 255 ∧ fa = upd f j (i2b y)) ∨ ((xi < 0 ∨ (n : Int) ≤ xi) ∧ r1 = -1 ∧ fa = f) := hw
  have hP : va_P (dC, dI) vwCl [(t0, .inr (7, [.ref a0, .ref y1, .ref y2, .ref y3, .ref y4, .ref y5, .ref y6, .int y7, .int y8, .int y9])), (a0, .inr (5, [.ref a1, .int (nI n)])), (a1, .inl (kB, 140000, .inl fa))] H := hP
  have hD : va_D A [(t0, .inr (7, [.ref a0, .ref y1, .ref y2, .ref y3, .ref y4, .ref y5, .ref y6, .int y7, .int y8, .int y9])), (a0, .inr (5, [.ref a1, .int (nI n)])), (a1, .inl (kB, 140000, .inl fa))] := hD
  have hP9 := hP.sub (ws' := [(t0, .inr (7, [.ref a0, .ref y1, .ref y2, .ref y3, .ref y4, .ref y5, .ref y6, .int y7, .int y8, .int y9])), (a0, .inr (5, [.ref a1, .int (nI n)])), (a1, .inl (kB, 140000, .inl fa))]) [0, 1, 2] rfl
  have hD9 := hD.sub (ws' := [(t0, .inr (7, [.ref a0, .ref y1, .ref y2, .ref y3, .ref y4, .ref y5, .ref y6, .int y7, .int y8, .int y9])), (a0, .inr (5, [.ref a1, .int (nI n)])), (a1, .inl (kB, 140000, .inl fa))]) [0, 1, 2] (by decide) rfl
  exact W.iret (v := r1) hx hb hr (fun t9 ht9 hW9 => ⟨⟨r1, fa, rfl, hw, by rw [ht9]; exact hP9, va_K.moved hW9.alike hK, hD9⟩, hS.F ht9⟩) hS.2.2 dX7_change_9

set_option maxHeartbeats 4000000 in
set_option maxRecDepth 100000 in
theorem c_Top_alter (l : Launch) (dC : Nat → ClassId) (dI : Nat → Nat → Nat) (kB kI : ClassId) (t0 : Nat) (y0 : Nat) (y2 : Nat) (y3 : Nat) (y4 : Nat) (y5 : Nat) (y6 : Nat) (y7 : Int32) (y8 : Int32) (y9 : Int32) (a0 : Nat) (a1 : Nat) (n : Nat) (f : Nat → Int32) (x : Int32) (xi : Int) (y : Int32) (hn : n ≤ 150000) (xh : x.toInt = xi) : zMi l yX7_alter wsX7_alter ({ frames := 2, cells := 0, slots := 0, locals := 44 }) (dC, dI) kB kI [.ref t0, .int x, .int y] [(t0, .inr (7, [.ref y0, .ref a0, .ref y2, .ref y3, .ref y4, .ref y5, .ref y6, .int y7, .int y8, .int y9])), (a0, .inr (5, [.ref a1, .int (nI n)])), (a1, .inl (kB, 150000, .inl f))] 0 0 (fun (r : Int32) => fun f2 : Nat → Int32 => (∃ j : Nat, xi = j ∧ j < n ∧ r = f j &&& 255 ∧ f2 = upd f j (i2b y)) ∨ ((xi < 0 ∨ (n : Int) ≤ xi) ∧ r = -1 ∧ f2 = f)) (fun f2 : Nat → Int32 => [(t0, .inr (7, [.ref y0, .ref a0, .ref y2, .ref y3, .ref y4, .ref y5, .ref y6, .int y7, .int y8, .int y9])), (a0, .inr (5, [.ref a1, .int (nI n)])), (a1, .inl (kB, 150000, .inl f2))]) := by
  intro sz
  refine Met.ofW (cc := cX7_alter) (maxL := 3) (ret := (some .int)) (by decide) rfl ?_
  intro p e s m args below meth c s₁ B hml hv
  obtain ⟨rfl, hsz, hP, hK, hD0⟩ := hv
  have hx := B.exec
  have hb := B.bytes
  have hr := B.returns
  have hts := atoms_spec (ws := wsX7_alter) B.pre
  have hown : s.vm.findClass RX7 = some m.cls := findClass_of_methodNamed B.named
  have hlocks := B.notSynchronized
  subst hsz
  have hD := hD0.self (sz := s.heap.size)
  generalize hAe : va_A [(t0, .inr (7, [.ref y0, .ref a0, .ref y2, .ref y3, .ref y4, .ref y5, .ref y6, .int y7, .int y8, .int y9])), (a0, .inr (5, [.ref a1, .int (nI n)])), (a1, .inl (kB, 150000, .inl f))] s.heap.size = A at hD ⊢
  have hA : ∀ q : Nat, s.heap.size ≤ q → A q := fun q h => by rw [← hAe]; exact Or.inr h
  have hS : va_S A s.heap s.heap [] := va_S.rf
  have hP : va_P (dC, dI) vwCl [(t0, .inr (7, [.ref y0, .ref a0, .ref y2, .ref y3, .ref y4, .ref y5, .ref y6, .int y7, .int y8, .int y9])), (a0, .inr (5, [.ref a1, .int (nI n)])), (a1, .inl (kB, 150000, .inl f))] s.heap := hP
  have hl := lv_entry ([.ref t0, .int x, .int y]) (n := 3) (Nat.le_of_ble_eq_true rfl)
  rw [lg_entry_eq]
  generalize (lg_sl ([.ref t0, .int x, .int y]) ++ List.replicate (3 - (lg_sl ([.ref t0, .int x, .int y])).length) Slot.unset).toArray = ls at hl ⊢
  have hl : lv_has ls 3 [(0, .ref t0), (1, .int x), (2, .int y)] := hl
  refine zG (fun GG hG1 hG2 => ?_)
  refine lv_aload_n hx hb dX7_alter_0 rfl (lv_at hl 0 rfl) ?_
  refine va_get (D := (dC, dI)) (ci := 7) (v := .ref a0) (C := RX7) (T := TX7) (N := 10) hx hb hts (by decide +kernel) hown hK hP 0 rfl rfl 1 (by decide) (hts (.fieldLink RX7 20 "SequenceFrames" "frames" "LSequenceFrames$Row;") (by decide +kernel)) (fun _ h9 => h9) rfl dX7_alter_1 ?_
  refine lv_iload_n hx hb dX7_alter_4 rfl (lv_at hl 1 rfl) ?_
  refine lv_iload_n hx hb dX7_alter_5 rfl (lv_at hl 2 rfl) ?_
  refine z_calli (wr := [(t0, .inr (7, [.ref y0, .ref a0, .ref y2, .ref y3, .ref y4, .ref y5, .ref y6, .int y7, .int y8, .int y9]))]) (va_runV (As := [.int x, .int y]) (rest := []) ⟨hx, hb, hml, hown, hts⟩ (c_Row_set l dC dI kB kI a0 a1 150000 n f x xi y (by omega) (by omega) xh s.heap.size) (cwV 2 hts gX7_alter_X5_set rfl rfl rfl (by decide +kernel) ⟨Nat.le_of_ble_eq_true rfl, Nat.le_of_ble_eq_true rfl⟩) (z_preV hK (hP.sub [1, 2] rfl) (hD.sub [1, 2] (by decide) rfl) (va_recv hK hP (ci := 5) (q0 := 1) rfl rfl)) rfl rfl hl.1 rfl (lv_room (Nat.le_of_ble_eq_true rfl)) dX7_alter_6 ⟨Nat.le_of_ble_eq_true rfl, Nat.le_of_ble_eq_true rfl⟩) hK hP hD hS hA [1, 2] [0] rfl rfl (by decide) (by decide) (fun r1 uq2 H locs hw hP hD hS => ?_)
  obtain ⟨fa, rfl⟩ : ∃ z, z = uq2 := ⟨_, rfl⟩
  replace hw : (∃ j : Nat, xi = j ∧ j < n ∧ r1 = f j &&& 255 ∧ fa = upd f j (i2b y)) ∨ ((xi < 0 ∨ (n : Int) ≤ xi) ∧ r1 = -1 ∧ fa = f) := hw
  have hP : va_P (dC, dI) vwCl [(t0, .inr (7, [.ref y0, .ref a0, .ref y2, .ref y3, .ref y4, .ref y5, .ref y6, .int y7, .int y8, .int y9])), (a0, .inr (5, [.ref a1, .int (nI n)])), (a1, .inl (kB, 150000, .inl fa))] H := hP
  have hD : va_D A [(t0, .inr (7, [.ref y0, .ref a0, .ref y2, .ref y3, .ref y4, .ref y5, .ref y6, .int y7, .int y8, .int y9])), (a0, .inr (5, [.ref a1, .int (nI n)])), (a1, .inl (kB, 150000, .inl fa))] := hD
  have hP9 := hP.sub (ws' := [(t0, .inr (7, [.ref y0, .ref a0, .ref y2, .ref y3, .ref y4, .ref y5, .ref y6, .int y7, .int y8, .int y9])), (a0, .inr (5, [.ref a1, .int (nI n)])), (a1, .inl (kB, 150000, .inl fa))]) [0, 1, 2] rfl
  have hD9 := hD.sub (ws' := [(t0, .inr (7, [.ref y0, .ref a0, .ref y2, .ref y3, .ref y4, .ref y5, .ref y6, .int y7, .int y8, .int y9])), (a0, .inr (5, [.ref a1, .int (nI n)])), (a1, .inl (kB, 150000, .inl fa))]) [0, 1, 2] (by decide) rfl
  exact W.iret (v := r1) hx hb hr (fun t9 ht9 hW9 => ⟨⟨r1, fa, rfl, hw, by rw [ht9]; exact hP9, va_K.moved hW9.alike hK, hD9⟩, hS.F ht9⟩) hS.2.2 dX7_alter_9

set_option maxHeartbeats 4000000 in
set_option maxRecDepth 100000 in
theorem c_Top_keep (l : Launch) (dC : Nat → ClassId) (dI : Nat → Nat → Nat) (kB kI : ClassId) (t0 : Nat) (y1 : Nat) (y2 : Nat) (y3 : Nat) (y4 : Nat) (y5 : Nat) (y6 : Nat) (y7 : Int32) (y8 : Int32) (y9 : Int32) (a0 : Nat) (a1 : Nat) (n : Nat) (f : Nat → Int32) (x : Int32) (xi : Int) (hn : n ≤ 140000) (xh : x.toInt = xi) : zMi l yX7_keep wsX7_keep ({ frames := 1, cells := 0, slots := 0, locals := 22 }) (dC, dI) kB kI [.ref t0, .int x] [(t0, .inr (7, [.ref a0, .ref y1, .ref y2, .ref y3, .ref y4, .ref y5, .ref y6, .int y7, .int y8, .int y9])), (a0, .inr (5, [.ref a1, .int (nI n)])), (a1, .inl (kB, 140000, .inl f))] 0 0 (fun (r : Int32) => fun n2 : Nat => (∃ j : Nat, xi = j ∧ j ≤ n ∧ r = nI n ∧ n2 = j) ∨ ((xi < 0 ∨ (n : Int) < xi) ∧ r = -1 ∧ n2 = n)) (fun n2 : Nat => [(t0, .inr (7, [.ref a0, .ref y1, .ref y2, .ref y3, .ref y4, .ref y5, .ref y6, .int y7, .int y8, .int y9])), (a0, .inr (5, [.ref a1, .int (nI n2)])), (a1, .inl (kB, 140000, .inl f))]) := by
  intro sz
  refine Met.ofW (cc := cX7_keep) (maxL := 2) (ret := (some .int)) (by decide) rfl ?_
  intro p e s m args below meth c s₁ B hml hv
  obtain ⟨rfl, hsz, hP, hK, hD0⟩ := hv
  have hx := B.exec
  have hb := B.bytes
  have hr := B.returns
  have hts := atoms_spec (ws := wsX7_keep) B.pre
  have hown : s.vm.findClass RX7 = some m.cls := findClass_of_methodNamed B.named
  have hlocks := B.notSynchronized
  subst hsz
  have hD := hD0.self (sz := s.heap.size)
  generalize hAe : va_A [(t0, .inr (7, [.ref a0, .ref y1, .ref y2, .ref y3, .ref y4, .ref y5, .ref y6, .int y7, .int y8, .int y9])), (a0, .inr (5, [.ref a1, .int (nI n)])), (a1, .inl (kB, 140000, .inl f))] s.heap.size = A at hD ⊢
  have hA : ∀ q : Nat, s.heap.size ≤ q → A q := fun q h => by rw [← hAe]; exact Or.inr h
  have hS : va_S A s.heap s.heap [] := va_S.rf
  have hP : va_P (dC, dI) vwCl [(t0, .inr (7, [.ref a0, .ref y1, .ref y2, .ref y3, .ref y4, .ref y5, .ref y6, .int y7, .int y8, .int y9])), (a0, .inr (5, [.ref a1, .int (nI n)])), (a1, .inl (kB, 140000, .inl f))] s.heap := hP
  have hl := lv_entry ([.ref t0, .int x]) (n := 2) (Nat.le_of_ble_eq_true rfl)
  rw [lg_entry_eq]
  generalize (lg_sl ([.ref t0, .int x]) ++ List.replicate (2 - (lg_sl ([.ref t0, .int x])).length) Slot.unset).toArray = ls at hl ⊢
  have hl : lv_has ls 2 [(0, .ref t0), (1, .int x)] := hl
  refine zG (fun GG hG1 hG2 => ?_)
  refine lv_aload_n hx hb dX7_keep_0 rfl (lv_at hl 0 rfl) ?_
  refine va_get (D := (dC, dI)) (ci := 7) (v := .ref a0) (C := RX7) (T := TX7) (N := 10) hx hb hts (by decide +kernel) hown hK hP 0 rfl rfl 0 (by decide) (hts (.fieldLink RX7 15 "SequenceFrames" "content" "LSequenceFrames$Row;") (by decide +kernel)) (fun _ h9 => h9) rfl dX7_keep_1 ?_
  refine lv_iload_n hx hb dX7_keep_4 rfl (lv_at hl 1 rfl) ?_
  refine z_calli (wr := [(t0, .inr (7, [.ref a0, .ref y1, .ref y2, .ref y3, .ref y4, .ref y5, .ref y6, .int y7, .int y8, .int y9]))]) (va_runV (As := [.int x]) (rest := []) ⟨hx, hb, hml, hown, hts⟩ (c_Row_shorten l dC dI kB kI a0 a1 140000 n f x xi (by omega) (by omega) xh s.heap.size) (cwV 1 hts gX7_keep_X5_shorten rfl rfl rfl (by decide +kernel) ⟨Nat.le_of_ble_eq_true rfl, Nat.le_of_ble_eq_true rfl⟩) (z_preV hK (hP.sub [1, 2] rfl) (hD.sub [1, 2] (by decide) rfl) (va_recv hK hP (ci := 5) (q0 := 1) rfl rfl)) rfl rfl hl.1 rfl (lv_room (Nat.le_of_ble_eq_true rfl)) dX7_keep_5 ⟨Nat.le_of_ble_eq_true rfl, Nat.le_of_ble_eq_true rfl⟩) hK hP hD hS hA [1, 2] [0] rfl rfl (by decide) (by decide) (fun r1 uq2 H locs hw hP hD hS => ?_)
  obtain ⟨na, rfl⟩ : ∃ z, z = uq2 := ⟨_, rfl⟩
  replace hw : (∃ j : Nat, xi = j ∧ j ≤ n ∧ r1 = nI n ∧ na = j) ∨ ((xi < 0 ∨ (n : Int) < xi) ∧ r1 = -1 ∧ na = n) := hw
  have hP : va_P (dC, dI) vwCl [(t0, .inr (7, [.ref a0, .ref y1, .ref y2, .ref y3, .ref y4, .ref y5, .ref y6, .int y7, .int y8, .int y9])), (a0, .inr (5, [.ref a1, .int (nI na)])), (a1, .inl (kB, 140000, .inl f))] H := hP
  have hD : va_D A [(t0, .inr (7, [.ref a0, .ref y1, .ref y2, .ref y3, .ref y4, .ref y5, .ref y6, .int y7, .int y8, .int y9])), (a0, .inr (5, [.ref a1, .int (nI na)])), (a1, .inl (kB, 140000, .inl f))] := hD
  have hP9 := hP.sub (ws' := [(t0, .inr (7, [.ref a0, .ref y1, .ref y2, .ref y3, .ref y4, .ref y5, .ref y6, .int y7, .int y8, .int y9])), (a0, .inr (5, [.ref a1, .int (nI na)])), (a1, .inl (kB, 140000, .inl f))]) [0, 1, 2] rfl
  have hD9 := hD.sub (ws' := [(t0, .inr (7, [.ref a0, .ref y1, .ref y2, .ref y3, .ref y4, .ref y5, .ref y6, .int y7, .int y8, .int y9])), (a0, .inr (5, [.ref a1, .int (nI na)])), (a1, .inl (kB, 140000, .inl f))]) [0, 1, 2] (by decide) rfl
  exact W.iret (v := r1) hx hb hr (fun t9 ht9 hW9 => ⟨⟨r1, na, rfl, hw, by rw [ht9]; exact hP9, va_K.moved hW9.alike hK, hD9⟩, hS.F ht9⟩) hS.2.2 dX7_keep_8

set_option maxHeartbeats 4000000 in
set_option maxRecDepth 100000 in
theorem c_Top_cut (l : Launch) (dC : Nat → ClassId) (dI : Nat → Nat → Nat) (kB kI : ClassId) (t0 : Nat) (y0 : Nat) (y2 : Nat) (y3 : Nat) (y4 : Nat) (y5 : Nat) (y6 : Nat) (y7 : Int32) (y8 : Int32) (y9 : Int32) (a0 : Nat) (a1 : Nat) (n : Nat) (f : Nat → Int32) (x : Int32) (xi : Int) (hn : n ≤ 150000) (xh : x.toInt = xi) : zMi l yX7_cut wsX7_cut ({ frames := 1, cells := 0, slots := 0, locals := 22 }) (dC, dI) kB kI [.ref t0, .int x] [(t0, .inr (7, [.ref y0, .ref a0, .ref y2, .ref y3, .ref y4, .ref y5, .ref y6, .int y7, .int y8, .int y9])), (a0, .inr (5, [.ref a1, .int (nI n)])), (a1, .inl (kB, 150000, .inl f))] 0 0 (fun (r : Int32) => fun n2 : Nat => (∃ j : Nat, xi = j ∧ j ≤ n ∧ r = nI n ∧ n2 = j) ∨ ((xi < 0 ∨ (n : Int) < xi) ∧ r = -1 ∧ n2 = n)) (fun n2 : Nat => [(t0, .inr (7, [.ref y0, .ref a0, .ref y2, .ref y3, .ref y4, .ref y5, .ref y6, .int y7, .int y8, .int y9])), (a0, .inr (5, [.ref a1, .int (nI n2)])), (a1, .inl (kB, 150000, .inl f))]) := by
  intro sz
  refine Met.ofW (cc := cX7_cut) (maxL := 2) (ret := (some .int)) (by decide) rfl ?_
  intro p e s m args below meth c s₁ B hml hv
  obtain ⟨rfl, hsz, hP, hK, hD0⟩ := hv
  have hx := B.exec
  have hb := B.bytes
  have hr := B.returns
  have hts := atoms_spec (ws := wsX7_cut) B.pre
  have hown : s.vm.findClass RX7 = some m.cls := findClass_of_methodNamed B.named
  have hlocks := B.notSynchronized
  subst hsz
  have hD := hD0.self (sz := s.heap.size)
  generalize hAe : va_A [(t0, .inr (7, [.ref y0, .ref a0, .ref y2, .ref y3, .ref y4, .ref y5, .ref y6, .int y7, .int y8, .int y9])), (a0, .inr (5, [.ref a1, .int (nI n)])), (a1, .inl (kB, 150000, .inl f))] s.heap.size = A at hD ⊢
  have hA : ∀ q : Nat, s.heap.size ≤ q → A q := fun q h => by rw [← hAe]; exact Or.inr h
  have hS : va_S A s.heap s.heap [] := va_S.rf
  have hP : va_P (dC, dI) vwCl [(t0, .inr (7, [.ref y0, .ref a0, .ref y2, .ref y3, .ref y4, .ref y5, .ref y6, .int y7, .int y8, .int y9])), (a0, .inr (5, [.ref a1, .int (nI n)])), (a1, .inl (kB, 150000, .inl f))] s.heap := hP
  have hl := lv_entry ([.ref t0, .int x]) (n := 2) (Nat.le_of_ble_eq_true rfl)
  rw [lg_entry_eq]
  generalize (lg_sl ([.ref t0, .int x]) ++ List.replicate (2 - (lg_sl ([.ref t0, .int x])).length) Slot.unset).toArray = ls at hl ⊢
  have hl : lv_has ls 2 [(0, .ref t0), (1, .int x)] := hl
  refine zG (fun GG hG1 hG2 => ?_)
  refine lv_aload_n hx hb dX7_cut_0 rfl (lv_at hl 0 rfl) ?_
  refine va_get (D := (dC, dI)) (ci := 7) (v := .ref a0) (C := RX7) (T := TX7) (N := 10) hx hb hts (by decide +kernel) hown hK hP 0 rfl rfl 1 (by decide) (hts (.fieldLink RX7 20 "SequenceFrames" "frames" "LSequenceFrames$Row;") (by decide +kernel)) (fun _ h9 => h9) rfl dX7_cut_1 ?_
  refine lv_iload_n hx hb dX7_cut_4 rfl (lv_at hl 1 rfl) ?_
  refine z_calli (wr := [(t0, .inr (7, [.ref y0, .ref a0, .ref y2, .ref y3, .ref y4, .ref y5, .ref y6, .int y7, .int y8, .int y9]))]) (va_runV (As := [.int x]) (rest := []) ⟨hx, hb, hml, hown, hts⟩ (c_Row_shorten l dC dI kB kI a0 a1 150000 n f x xi (by omega) (by omega) xh s.heap.size) (cwV 1 hts gX7_cut_X5_shorten rfl rfl rfl (by decide +kernel) ⟨Nat.le_of_ble_eq_true rfl, Nat.le_of_ble_eq_true rfl⟩) (z_preV hK (hP.sub [1, 2] rfl) (hD.sub [1, 2] (by decide) rfl) (va_recv hK hP (ci := 5) (q0 := 1) rfl rfl)) rfl rfl hl.1 rfl (lv_room (Nat.le_of_ble_eq_true rfl)) dX7_cut_5 ⟨Nat.le_of_ble_eq_true rfl, Nat.le_of_ble_eq_true rfl⟩) hK hP hD hS hA [1, 2] [0] rfl rfl (by decide) (by decide) (fun r1 uq2 H locs hw hP hD hS => ?_)
  obtain ⟨na, rfl⟩ : ∃ z, z = uq2 := ⟨_, rfl⟩
  replace hw : (∃ j : Nat, xi = j ∧ j ≤ n ∧ r1 = nI n ∧ na = j) ∨ ((xi < 0 ∨ (n : Int) < xi) ∧ r1 = -1 ∧ na = n) := hw
  have hP : va_P (dC, dI) vwCl [(t0, .inr (7, [.ref y0, .ref a0, .ref y2, .ref y3, .ref y4, .ref y5, .ref y6, .int y7, .int y8, .int y9])), (a0, .inr (5, [.ref a1, .int (nI na)])), (a1, .inl (kB, 150000, .inl f))] H := hP
  have hD : va_D A [(t0, .inr (7, [.ref y0, .ref a0, .ref y2, .ref y3, .ref y4, .ref y5, .ref y6, .int y7, .int y8, .int y9])), (a0, .inr (5, [.ref a1, .int (nI na)])), (a1, .inl (kB, 150000, .inl f))] := hD
  have hP9 := hP.sub (ws' := [(t0, .inr (7, [.ref y0, .ref a0, .ref y2, .ref y3, .ref y4, .ref y5, .ref y6, .int y7, .int y8, .int y9])), (a0, .inr (5, [.ref a1, .int (nI na)])), (a1, .inl (kB, 150000, .inl f))]) [0, 1, 2] rfl
  have hD9 := hD.sub (ws' := [(t0, .inr (7, [.ref y0, .ref a0, .ref y2, .ref y3, .ref y4, .ref y5, .ref y6, .int y7, .int y8, .int y9])), (a0, .inr (5, [.ref a1, .int (nI na)])), (a1, .inl (kB, 150000, .inl f))]) [0, 1, 2] (by decide) rfl
  exact W.iret (v := r1) hx hb hr (fun t9 ht9 hW9 => ⟨⟨r1, na, rfl, hw, by rw [ht9]; exact hP9, va_K.moved hW9.alike hK, hD9⟩, hS.F ht9⟩) hS.2.2 dX7_cut_8

set_option maxHeartbeats 4000000 in
set_option maxRecDepth 100000 in
theorem c_Top_fill (l : Launch) (dC : Nat → ClassId) (dI : Nat → Nat → Nat) (kB kI : ClassId) (t0 : Nat) (y1 : Nat) (y2 : Nat) (y3 : Nat) (y4 : Nat) (y5 : Nat) (y6 : Nat) (y7 : Int32) (y8 : Int32) (y9 : Int32) (a0 : Nat) (a1 : Nat) (n : Nat) (f : Nat → Int32) (x : Int32) (y : Int32) (yi : Int) (hn : n ≤ 140000) (yh : y.toInt = yi) : zMi l yX7_fill wsX7_fill ({ frames := 2, cells := 0, slots := 0, locals := 44 }) (dC, dI) kB kI [.ref t0, .int x, .int y] [(t0, .inr (7, [.ref a0, .ref y1, .ref y2, .ref y3, .ref y4, .ref y5, .ref y6, .int y7, .int y8, .int y9])), (a0, .inr (5, [.ref a1, .int (nI n)])), (a1, .inl (kB, 140000, .inl f))] 0 0 (fun (r : Int32) => fun uu : (Nat → Int32) × Nat => (∃ k : Nat, yi = k ∧ 1 ≤ k ∧ k ≤ 70000 ∧ ((n + k ≤ 140000 ∧ r = nI (n + k) ∧ uu.2 = n + k ∧ uu.1 = apF f n k (fun _ => i2b x)) ∨ (140000 < n + k ∧ r = -2 ∧ uu.2 = n ∧ uu.1 = f))) ∨ ((yi < 1 ∨ 70000 < yi) ∧ r = -1 ∧ uu.2 = n ∧ uu.1 = f)) (fun uu : (Nat → Int32) × Nat => [(t0, .inr (7, [.ref a0, .ref y1, .ref y2, .ref y3, .ref y4, .ref y5, .ref y6, .int y7, .int y8, .int y9])), (a0, .inr (5, [.ref a1, .int (nI uu.2)])), (a1, .inl (kB, 140000, .inl uu.1))]) := by
  intro sz
  refine Met.ofW (cc := cX7_fill) (maxL := 4) (ret := (some .int)) (by decide) rfl ?_
  intro p e s m args below meth c s₁ B hml hv
  obtain ⟨rfl, hsz, hP, hK, hD0⟩ := hv
  have hx := B.exec
  have hb := B.bytes
  have hr := B.returns
  have hts := atoms_spec (ws := wsX7_fill) B.pre
  have hown : s.vm.findClass RX7 = some m.cls := findClass_of_methodNamed B.named
  have hlocks := B.notSynchronized
  subst hsz
  have hD := hD0.self (sz := s.heap.size)
  generalize hAe : va_A [(t0, .inr (7, [.ref a0, .ref y1, .ref y2, .ref y3, .ref y4, .ref y5, .ref y6, .int y7, .int y8, .int y9])), (a0, .inr (5, [.ref a1, .int (nI n)])), (a1, .inl (kB, 140000, .inl f))] s.heap.size = A at hD ⊢
  have hA : ∀ q : Nat, s.heap.size ≤ q → A q := fun q h => by rw [← hAe]; exact Or.inr h
  have hS : va_S A s.heap s.heap [] := va_S.rf
  have hP : va_P (dC, dI) vwCl [(t0, .inr (7, [.ref a0, .ref y1, .ref y2, .ref y3, .ref y4, .ref y5, .ref y6, .int y7, .int y8, .int y9])), (a0, .inr (5, [.ref a1, .int (nI n)])), (a1, .inl (kB, 140000, .inl f))] s.heap := hP
  have hl := lv_entry ([.ref t0, .int x, .int y]) (n := 4) (Nat.le_of_ble_eq_true rfl)
  rw [lg_entry_eq]
  generalize (lg_sl ([.ref t0, .int x, .int y]) ++ List.replicate (4 - (lg_sl ([.ref t0, .int x, .int y])).length) Slot.unset).toArray = ls at hl ⊢
  have hl : lv_has ls 4 [(0, .ref t0), (1, .int x), (2, .int y)] := hl
  refine zG (fun GG hG1 hG2 => ?_)
  refine lv_aload_n hx hb dX7_fill_0 rfl (lv_at hl 0 rfl) ?_
  refine lv_iload_n hx hb dX7_fill_1 rfl (lv_at hl 2 rfl) ?_
  refine z_calli (wr := []) (va_runV (As := [.int y]) (rest := []) ⟨hx, hb, hml, hown, hts⟩ (c_Top_refusedPut l dC dI kB kI t0 y1 y2 y3 y4 y5 y6 y7 y8 y9 a0 a1 n f y yi (by omega) yh s.heap.size) (cwV 1 hts gX7_fill_X7_refusedPut rfl rfl rfl (by decide +kernel) ⟨Nat.le_of_ble_eq_true rfl, Nat.le_of_ble_eq_true rfl⟩) (z_preV hK (hP.sub [0, 1, 2] rfl) (hD.sub [0, 1, 2] (by decide) rfl) (va_recv hK hP (ci := 7) (q0 := 0) rfl rfl)) rfl rfl hl.1 rfl (lv_room (Nat.le_of_ble_eq_true rfl)) dX7_fill_2 ⟨Nat.le_of_ble_eq_true rfl, Nat.le_of_ble_eq_true rfl⟩) hK hP hD hS hA [0, 1, 2] [] rfl rfl (by decide) (by decide) (fun r1 uq2 H locs hw hP hD hS => ?_)
  replace hw : (r1 = 0 ∧ 1 ≤ yi ∧ yi ≤ 70000 ∧ n + yi ≤ 140000) ∨ (r1 = -1 ∧ (yi < 1 ∨ 70000 < yi)) ∨ (r1 = -2 ∧ 1 ≤ yi ∧ yi ≤ 70000 ∧ 140000 < n + yi) := hw
  have hP : va_P (dC, dI) vwCl [(t0, .inr (7, [.ref a0, .ref y1, .ref y2, .ref y3, .ref y4, .ref y5, .ref y6, .int y7, .int y8, .int y9])), (a0, .inr (5, [.ref a1, .int (nI n)])), (a1, .inl (kB, 140000, .inl f))] H := hP
  have hD : va_D A [(t0, .inr (7, [.ref a0, .ref y1, .ref y2, .ref y3, .ref y4, .ref y5, .ref y6, .int y7, .int y8, .int y9])), (a0, .inr (5, [.ref a1, .int (nI n)])), (a1, .inl (kB, 140000, .inl f))] := hD
  rcases hw with ⟨er, h1, h2, h3⟩ | ⟨er, hw⟩ | ⟨er, h1, h2, h3⟩
  · subst er
    obtain ⟨k, kb, ye⟩ := z_nat (x := y) (by omega)
    subst ye
    rw [nI_toInt kb] at yh
    subst yh
    refine lv_istore_n (lv' := [(3, .int 0), (0, .ref t0), (1, .int x), (2, .int (nI k))]) hx hb dX7_fill_5 rfl hl (by decide) rfl (fun ls hl => ?_)
    refine lv_iload_n hx hb dX7_fill_6 rfl (lv_at hl 0 rfl) ?_
    refine lv_if_eq (tgt := 12) hx hb dX7_fill_7 (by decide) (fun _ => ?_) (fun c => absurd c (by decide))
    refine lv_aload_n hx hb dX7_fill_12 rfl (lv_at hl 1 rfl) ?_
    refine va_get (D := (dC, dI)) (ci := 7) (v := .ref a0) (C := RX7) (T := TX7) (N := 10) hx hb hts (by decide +kernel) hown hK hP 0 rfl rfl 0 (by decide) (hts (.fieldLink RX7 15 "SequenceFrames" "content" "LSequenceFrames$Row;") (by decide +kernel)) (fun _ h9 => h9) rfl dX7_fill_13 ?_
    refine lv_iload_n hx hb dX7_fill_16 rfl (lv_at hl 2 rfl) ?_
    refine lv_iload_n hx hb dX7_fill_17 rfl (lv_at hl 3 rfl) ?_
    refine z_callv (wr := [(t0, .inr (7, [.ref a0, .ref y1, .ref y2, .ref y3, .ref y4, .ref y5, .ref y6, .int y7, .int y8, .int y9]))]) (va_runV (As := [.int x, .int (nI k)]) (rest := []) ⟨hx, hb, hml, hown, hts⟩ (c_Row_addRun l dC dI kB kI a0 a1 140000 n f x k (by omega) (by omega) H.size) (cwV 2 hts gX7_fill_X5_addRun rfl rfl rfl (by decide +kernel) ⟨Nat.le_of_ble_eq_true rfl, Nat.le_of_ble_eq_true rfl⟩) (z_preV hK (hP.sub [1, 2] rfl) (hD.sub [1, 2] (by decide) rfl) (va_recv hK hP (ci := 5) (q0 := 1) rfl rfl)) rfl rfl hl.1 rfl (lv_room (Nat.le_of_ble_eq_true rfl)) dX7_fill_18 ⟨Nat.le_of_ble_eq_true rfl, Nat.le_of_ble_eq_true rfl⟩) hK hP hD hS hA [1, 2] [0] rfl rfl (by decide) (by decide) (fun uq4 H locs hw hP hD hS => ?_)
    replace hw : True := hw
    have hP : va_P (dC, dI) vwCl [(t0, .inr (7, [.ref a0, .ref y1, .ref y2, .ref y3, .ref y4, .ref y5, .ref y6, .int y7, .int y8, .int y9])), (a0, .inr (5, [.ref a1, .int (nI (n + k))])), (a1, .inl (kB, 140000, .inl (apF f n k (fun _ => i2b x))))] H := hP
    have hD : va_D A [(t0, .inr (7, [.ref a0, .ref y1, .ref y2, .ref y3, .ref y4, .ref y5, .ref y6, .int y7, .int y8, .int y9])), (a0, .inr (5, [.ref a1, .int (nI (n + k))])), (a1, .inl (kB, 140000, .inl (apF f n k (fun _ => i2b x))))] := hD
    refine lv_aload_n hx hb dX7_fill_21 rfl (lv_at hl 1 rfl) ?_
    refine va_get (D := (dC, dI)) (ci := 7) (v := .ref a0) (C := RX7) (T := TX7) (N := 10) hx hb hts (by decide +kernel) hown hK hP 0 rfl rfl 0 (by decide) (hts (.fieldLink RX7 15 "SequenceFrames" "content" "LSequenceFrames$Row;") (by decide +kernel)) (fun _ h9 => h9) rfl dX7_fill_22 ?_
    refine va_get (D := (dC, dI)) (ci := 5) (v := .int (nI (n + k))) (C := RX5) (T := TX5) (N := 2) hx hb hts (by decide +kernel) hown hK hP 1 rfl rfl 1 (by decide) (hts (.fieldLink RX7 68 "SequenceFrames$Row" "size" "I") (by decide +kernel)) (fun _ h9 => h9) rfl dX7_fill_25 ?_
    have hP9 := hP.sub (ws' := [(t0, .inr (7, [.ref a0, .ref y1, .ref y2, .ref y3, .ref y4, .ref y5, .ref y6, .int y7, .int y8, .int y9])), (a0, .inr (5, [.ref a1, .int (nI (n + k))])), (a1, .inl (kB, 140000, .inl (apF f n k (fun _ => i2b x))))]) [0, 1, 2] rfl
    have hD9 := hD.sub (ws' := [(t0, .inr (7, [.ref a0, .ref y1, .ref y2, .ref y3, .ref y4, .ref y5, .ref y6, .int y7, .int y8, .int y9])), (a0, .inr (5, [.ref a1, .int (nI (n + k))])), (a1, .inl (kB, 140000, .inl (apF f n k (fun _ => i2b x))))]) [0, 1, 2] (by decide) rfl
    exact W.iret (v := (nI (n + k))) hx hb hr (fun t9 ht9 hW9 => ⟨⟨(nI (n + k)), ((apF f n k (fun _ => i2b x)), (n + k)), rfl, (by left; exact ⟨k, rfl, by omega, by omega, Or.inl ⟨by omega, rfl, rfl, rfl⟩⟩), by rw [ht9]; exact hP9, va_K.moved hW9.alike hK, hD9⟩, hS.F ht9⟩) hS.2.2 dX7_fill_28
  · subst er
    refine lv_istore_n (lv' := [(3, .int (-1)), (0, .ref t0), (1, .int x), (2, .int y)]) hx hb dX7_fill_5 rfl hl (by decide) rfl (fun ls hl => ?_)
    refine lv_iload_n hx hb dX7_fill_6 rfl (lv_at hl 0 rfl) ?_
    refine lv_if_eq (tgt := 12) hx hb dX7_fill_7 (by decide) (fun c => absurd c (by decide)) (fun _ => ?_)
    refine lv_iload_n hx hb dX7_fill_10 rfl (lv_at hl 0 rfl) ?_
    have hP9 := hP.sub (ws' := [(t0, .inr (7, [.ref a0, .ref y1, .ref y2, .ref y3, .ref y4, .ref y5, .ref y6, .int y7, .int y8, .int y9])), (a0, .inr (5, [.ref a1, .int (nI n)])), (a1, .inl (kB, 140000, .inl f))]) [0, 1, 2] rfl
    have hD9 := hD.sub (ws' := [(t0, .inr (7, [.ref a0, .ref y1, .ref y2, .ref y3, .ref y4, .ref y5, .ref y6, .int y7, .int y8, .int y9])), (a0, .inr (5, [.ref a1, .int (nI n)])), (a1, .inl (kB, 140000, .inl f))]) [0, 1, 2] (by decide) rfl
    exact W.iret (v := (-1)) hx hb hr (fun t9 ht9 hW9 => ⟨⟨(-1), (f, n), rfl, (by right; exact ⟨hw, rfl, rfl, rfl⟩), by rw [ht9]; exact hP9, va_K.moved hW9.alike hK, hD9⟩, hS.F ht9⟩) hS.2.2 dX7_fill_11
  · subst er
    obtain ⟨k, kb, ye⟩ := z_nat (x := y) (by omega)
    subst ye
    rw [nI_toInt kb] at yh
    subst yh
    refine lv_istore_n (lv' := [(3, .int (-2)), (0, .ref t0), (1, .int x), (2, .int (nI k))]) hx hb dX7_fill_5 rfl hl (by decide) rfl (fun ls hl => ?_)
    refine lv_iload_n hx hb dX7_fill_6 rfl (lv_at hl 0 rfl) ?_
    refine lv_if_eq (tgt := 12) hx hb dX7_fill_7 (by decide) (fun c => absurd c (by decide)) (fun _ => ?_)
    refine lv_iload_n hx hb dX7_fill_10 rfl (lv_at hl 0 rfl) ?_
    have hP9 := hP.sub (ws' := [(t0, .inr (7, [.ref a0, .ref y1, .ref y2, .ref y3, .ref y4, .ref y5, .ref y6, .int y7, .int y8, .int y9])), (a0, .inr (5, [.ref a1, .int (nI n)])), (a1, .inl (kB, 140000, .inl f))]) [0, 1, 2] rfl
    have hD9 := hD.sub (ws' := [(t0, .inr (7, [.ref a0, .ref y1, .ref y2, .ref y3, .ref y4, .ref y5, .ref y6, .int y7, .int y8, .int y9])), (a0, .inr (5, [.ref a1, .int (nI n)])), (a1, .inl (kB, 140000, .inl f))]) [0, 1, 2] (by decide) rfl
    exact W.iret (v := (-2)) hx hb hr (fun t9 ht9 hW9 => ⟨⟨(-2), (f, n), rfl, (by left; exact ⟨k, rfl, by omega, by omega, Or.inr ⟨by omega, rfl, rfl, rfl⟩⟩), by rw [ht9]; exact hP9, va_K.moved hW9.alike hK, hD9⟩, hS.F ht9⟩) hS.2.2 dX7_fill_11

set_option maxHeartbeats 4000000 in
set_option maxRecDepth 100000 in
theorem c_Top_mix (l : Launch) (dC : Nat → ClassId) (dI : Nat → Nat → Nat) (kB kI : ClassId) (t0 : Nat) (y1 : Nat) (y2 : Nat) (y3 : Nat) (y4 : Nat) (y5 : Nat) (y6 : Nat) (y7 : Int32) (y8 : Int32) (y9 : Int32) (a0 : Nat) (a1 : Nat) (n : Nat) (f : Nat → Int32) (x : Int32) (y : Int32) (yi : Int) (hn : n ≤ 140000) (yh : y.toInt = yi) : zMi l yX7_mix wsX7_mix ({ frames := 2, cells := 0, slots := 0, locals := 41 }) (dC, dI) kB kI [.ref t0, .int x, .int y] [(t0, .inr (7, [.ref a0, .ref y1, .ref y2, .ref y3, .ref y4, .ref y5, .ref y6, .int y7, .int y8, .int y9])), (a0, .inr (5, [.ref a1, .int (nI n)])), (a1, .inl (kB, 140000, .inl f))] 0 0 (fun (r : Int32) => fun uu : (Nat → Int32) × Nat => (∃ k : Nat, yi = k ∧ 1 ≤ k ∧ k ≤ 70000 ∧ ((n + k ≤ 140000 ∧ r = nI (n + k) ∧ uu.2 = n + k ∧ uu.1 = apF f n k (mixB x)) ∨ (140000 < n + k ∧ r = -2 ∧ uu.2 = n ∧ uu.1 = f))) ∨ ((yi < 1 ∨ 70000 < yi) ∧ r = -1 ∧ uu.2 = n ∧ uu.1 = f)) (fun uu : (Nat → Int32) × Nat => [(t0, .inr (7, [.ref a0, .ref y1, .ref y2, .ref y3, .ref y4, .ref y5, .ref y6, .int y7, .int y8, .int y9])), (a0, .inr (5, [.ref a1, .int (nI uu.2)])), (a1, .inl (kB, 140000, .inl uu.1))]) := by
  intro sz
  refine Met.ofW (cc := cX7_mix) (maxL := 6) (ret := (some .int)) (by decide) rfl ?_
  intro p e s m args below meth c s₁ B hml hv
  obtain ⟨rfl, hsz, hP, hK, hD0⟩ := hv
  have hx := B.exec
  have hb := B.bytes
  have hr := B.returns
  have hts := atoms_spec (ws := wsX7_mix) B.pre
  have hown : s.vm.findClass RX7 = some m.cls := findClass_of_methodNamed B.named
  have hlocks := B.notSynchronized
  subst hsz
  have hD := hD0.self (sz := s.heap.size)
  generalize hAe : va_A [(t0, .inr (7, [.ref a0, .ref y1, .ref y2, .ref y3, .ref y4, .ref y5, .ref y6, .int y7, .int y8, .int y9])), (a0, .inr (5, [.ref a1, .int (nI n)])), (a1, .inl (kB, 140000, .inl f))] s.heap.size = A at hD ⊢
  have hA : ∀ q : Nat, s.heap.size ≤ q → A q := fun q h => by rw [← hAe]; exact Or.inr h
  have hS : va_S A s.heap s.heap [] := va_S.rf
  have hP : va_P (dC, dI) vwCl [(t0, .inr (7, [.ref a0, .ref y1, .ref y2, .ref y3, .ref y4, .ref y5, .ref y6, .int y7, .int y8, .int y9])), (a0, .inr (5, [.ref a1, .int (nI n)])), (a1, .inl (kB, 140000, .inl f))] s.heap := hP
  have hl := lv_entry ([.ref t0, .int x, .int y]) (n := 6) (Nat.le_of_ble_eq_true rfl)
  rw [lg_entry_eq]
  generalize (lg_sl ([.ref t0, .int x, .int y]) ++ List.replicate (6 - (lg_sl ([.ref t0, .int x, .int y])).length) Slot.unset).toArray = ls at hl ⊢
  have hl : lv_has ls 6 [(0, .ref t0), (1, .int x), (2, .int y)] := hl
  refine zG (fun GG hG1 hG2 => ?_)
  refine lv_aload_n hx hb dX7_mix_0 rfl (lv_at hl 0 rfl) ?_
  refine lv_iload_n hx hb dX7_mix_1 rfl (lv_at hl 2 rfl) ?_
  refine z_calli (wr := []) (va_runV (As := [.int y]) (rest := []) ⟨hx, hb, hml, hown, hts⟩ (c_Top_refusedPut l dC dI kB kI t0 y1 y2 y3 y4 y5 y6 y7 y8 y9 a0 a1 n f y yi (by omega) yh s.heap.size) (cwV 1 hts gX7_mix_X7_refusedPut rfl rfl rfl (by decide +kernel) ⟨Nat.le_of_ble_eq_true rfl, Nat.le_of_ble_eq_true rfl⟩) (z_preV hK (hP.sub [0, 1, 2] rfl) (hD.sub [0, 1, 2] (by decide) rfl) (va_recv hK hP (ci := 7) (q0 := 0) rfl rfl)) rfl rfl hl.1 rfl (lv_room (Nat.le_of_ble_eq_true rfl)) dX7_mix_2 ⟨Nat.le_of_ble_eq_true rfl, Nat.le_of_ble_eq_true rfl⟩) hK hP hD hS hA [0, 1, 2] [] rfl rfl (by decide) (by decide) (fun r1 uq2 H locs hw hP hD hS => ?_)
  replace hw : (r1 = 0 ∧ 1 ≤ yi ∧ yi ≤ 70000 ∧ n + yi ≤ 140000) ∨ (r1 = -1 ∧ (yi < 1 ∨ 70000 < yi)) ∨ (r1 = -2 ∧ 1 ≤ yi ∧ yi ≤ 70000 ∧ 140000 < n + yi) := hw
  have hP : va_P (dC, dI) vwCl [(t0, .inr (7, [.ref a0, .ref y1, .ref y2, .ref y3, .ref y4, .ref y5, .ref y6, .int y7, .int y8, .int y9])), (a0, .inr (5, [.ref a1, .int (nI n)])), (a1, .inl (kB, 140000, .inl f))] H := hP
  have hD : va_D A [(t0, .inr (7, [.ref a0, .ref y1, .ref y2, .ref y3, .ref y4, .ref y5, .ref y6, .int y7, .int y8, .int y9])), (a0, .inr (5, [.ref a1, .int (nI n)])), (a1, .inl (kB, 140000, .inl f))] := hD
  rcases hw with ⟨er, h1, h2, h3⟩ | ⟨er, hw⟩ | ⟨er, h1, h2, h3⟩
  · subst er
    obtain ⟨k, kb, ye⟩ := z_nat (x := y) (by omega)
    subst ye
    rw [nI_toInt kb] at yh
    subst yh
    refine lv_istore_n (lv' := [(3, .int 0), (0, .ref t0), (1, .int x), (2, .int (nI k))]) hx hb dX7_mix_5 rfl hl (by decide) rfl (fun ls hl => ?_)
    refine lv_iload_n hx hb dX7_mix_6 rfl (lv_at hl 0 rfl) ?_
    refine lv_if_eq (tgt := 12) hx hb dX7_mix_7 (by decide) (fun _ => ?_) (fun c => absurd c (by decide))
    refine lv_iload_n hx hb dX7_mix_12 rfl (lv_at hl 2 rfl) ?_
    refine lv_istore (lv' := [(4, .int x), (3, .int 0), (0, .ref t0), (1, .int x), (2, .int (nI k))]) hx hb dX7_mix_13 hl (by decide) rfl (fun ls hl => ?_)
    refine lv_iconst (v := 0) hx hb dX7_mix_15 (by decide) ?_
    refine lv_istore (lv' := [(5, .int 0), (4, .int x), (3, .int 0), (0, .ref t0), (1, .int x), (2, .int (nI k))]) hx hb dX7_mix_16 hl (by decide) rfl (fun ls hl => ?_)
    have eq9 : f = (apF f n 0 (mixB x)) := (apF_0 f n (mixB x)).symm
    have hP : va_P (dC, dI) vwCl [(t0, .inr (7, [.ref a0, .ref y1, .ref y2, .ref y3, .ref y4, .ref y5, .ref y6, .int y7, .int y8, .int y9])), (a0, .inr (5, [.ref a1, .int (nI n)])), (a1, .inl (kB, 140000, .inl (apF f n 0 (mixB x))))] H := by rw [← eq9]; exact hP
    have hD : va_D A [(t0, .inr (7, [.ref a0, .ref y1, .ref y2, .ref y3, .ref y4, .ref y5, .ref y6, .int y7, .int y8, .int y9])), (a0, .inr (5, [.ref a1, .int (nI n)])), (a1, .inl (kB, 140000, .inl (apF f n 0 (mixB x))))] := by rw [← eq9]; exact hD
    have lp : ∀ (kf : Nat) (t : Nat) (ht : t ≤ k), k - t < kf → ∀ (H : Heap) (locs : List Loc), va_P (dC, dI) vwCl [(t0, .inr (7, [.ref a0, .ref y1, .ref y2, .ref y3, .ref y4, .ref y5, .ref y6, .int y7, .int y8, .int y9])), (a0, .inr (5, [.ref a1, .int (nI (n + t))])), (a1, .inl (kB, 140000, .inl (apF f n t (mixB x))))] H → va_D A [(t0, .inr (7, [.ref a0, .ref y1, .ref y2, .ref y3, .ref y4, .ref y5, .ref y6, .int y7, .int y8, .int y9])), (a0, .inr (5, [.ref a1, .int (nI (n + t))])), (a1, .inl (kB, 140000, .inl (apF f n t (mixB x))))] → va_S A s.heap H locs → ∀ (ls : Array Slot), lv_has ls 6 [(0, .ref t0), (2, .int (nI k)), (4, .int (mixX x t)), (5, .int (nI t))] → GG H locs (F0 m 18 ls []) := by
      intro kf
      induction kf with
      | zero => intro t ht hm; exact absurd hm (Nat.not_lt_zero _)
      | succ kf ih =>
        intro t ht hm H locs hP hD hS ls hl
        apply hG1
        refine lv_iload hx hb dX7_mix_18 (lv_at hl 3 rfl) ?_
        refine lv_iload_n hx hb dX7_mix_20 rfl (lv_at hl 1 rfl) ?_
        refine zb_icmp_ge (tgt := 53) (a := ((t : Nat) : Int)) (b := ((k : Nat) : Int)) hx hb dX7_mix_21 (by decide) (nI_toInt (by omega)) (nI_toInt (by omega)) (fun c21 => ?_) (fun c21 => ?_)
        · have et9 : k = t := by omega
          subst et9
          refine lv_aload_n hx hb dX7_mix_53 rfl (lv_at hl 0 rfl) ?_
          refine va_get (D := (dC, dI)) (ci := 7) (v := .ref a0) (C := RX7) (T := TX7) (N := 10) hx hb hts (by decide +kernel) hown hK hP 0 rfl rfl 0 (by decide) (hts (.fieldLink RX7 15 "SequenceFrames" "content" "LSequenceFrames$Row;") (by decide +kernel)) (fun _ h9 => h9) rfl dX7_mix_54 ?_
          refine va_get (D := (dC, dI)) (ci := 5) (v := .int (nI (n + k))) (C := RX5) (T := TX5) (N := 2) hx hb hts (by decide +kernel) hown hK hP 1 rfl rfl 1 (by decide) (hts (.fieldLink RX7 68 "SequenceFrames$Row" "size" "I") (by decide +kernel)) (fun _ h9 => h9) rfl dX7_mix_57 ?_
          have hP9 := hP.sub (ws' := [(t0, .inr (7, [.ref a0, .ref y1, .ref y2, .ref y3, .ref y4, .ref y5, .ref y6, .int y7, .int y8, .int y9])), (a0, .inr (5, [.ref a1, .int (nI (n + k))])), (a1, .inl (kB, 140000, .inl (apF f n k (mixB x))))]) [0, 1, 2] rfl
          have hD9 := hD.sub (ws' := [(t0, .inr (7, [.ref a0, .ref y1, .ref y2, .ref y3, .ref y4, .ref y5, .ref y6, .int y7, .int y8, .int y9])), (a0, .inr (5, [.ref a1, .int (nI (n + k))])), (a1, .inl (kB, 140000, .inl (apF f n k (mixB x))))]) [0, 1, 2] (by decide) rfl
          exact W.iret (v := (nI (n + k))) hx hb hr (fun t9 ht9 hW9 => ⟨⟨(nI (n + k)), ((apF f n k (mixB x)), (n + k)), rfl, (by left; exact ⟨k, rfl, by omega, by omega, Or.inl ⟨by omega, rfl, rfl, rfl⟩⟩), by rw [ht9]; exact hP9, va_K.moved hW9.alike hK, hD9⟩, hS.F ht9⟩) hS.2.2 dX7_mix_60
        · refine lv_iload hx hb dX7_mix_24 (lv_at hl 2 rfl) ?_
          refine lv_ldc (v := 1103515245) hx hb hown (hts (.constant RX7 74 1103515245) (by decide +kernel)) dX7_mix_26 ?_
          refine lv_imul hx hb dX7_mix_28 ?_
          refine lv_sipush (v := 12345) hx hb dX7_mix_29 (by decide) ?_
          refine lv_iadd hx hb dX7_mix_32 ?_
          refine lv_is (y := (mixX x (t + 1))) (rfl) ?_
          refine lv_istore (lv' := [(4, .int (mixX x (t + 1))), (0, .ref t0), (2, .int (nI k)), (5, .int (nI t))]) hx hb dX7_mix_33 hl (by decide) rfl (fun ls hl => ?_)
          refine lv_aload_n hx hb dX7_mix_35 rfl (lv_at hl 1 rfl) ?_
          refine va_get (D := (dC, dI)) (ci := 7) (v := .ref a0) (C := RX7) (T := TX7) (N := 10) hx hb hts (by decide +kernel) hown hK hP 0 rfl rfl 0 (by decide) (hts (.fieldLink RX7 15 "SequenceFrames" "content" "LSequenceFrames$Row;") (by decide +kernel)) (fun _ h9 => h9) rfl dX7_mix_36 ?_
          refine lv_iload hx hb dX7_mix_39 (lv_at hl 0 rfl) ?_
          refine lv_bipush (v := 16) hx hb dX7_mix_41 (by decide) ?_
          refine lv_iushr (v := (ushr (mixX x (t + 1)) 16)) hx hb dX7_mix_43 rfl ?_
          refine z_callv (wr := [(t0, .inr (7, [.ref a0, .ref y1, .ref y2, .ref y3, .ref y4, .ref y5, .ref y6, .int y7, .int y8, .int y9]))]) (va_runV (As := [.int (ushr (mixX x (t + 1)) 16)]) (rest := []) ⟨hx, hb, hml, hown, hts⟩ (c_Row_add l dC dI kB kI a0 a1 140000 (n + t) (apF f n t (mixB x)) (ushr (mixX x (t + 1)) 16) (by omega) (by omega) H.size) (cwV 1 hts gX7_mix_X5_add rfl rfl rfl (by decide +kernel) ⟨Nat.le_of_ble_eq_true rfl, Nat.le_of_ble_eq_true rfl⟩) (z_preV hK (hP.sub [1, 2] rfl) (hD.sub [1, 2] (by decide) rfl) (va_recv hK hP (ci := 5) (q0 := 1) rfl rfl)) rfl rfl hl.1 rfl (lv_room (Nat.le_of_ble_eq_true rfl)) dX7_mix_44 ⟨Nat.le_of_ble_eq_true rfl, Nat.le_of_ble_eq_true rfl⟩) hK hP hD hS hA [1, 2] [0] rfl rfl (by decide) (by decide) (fun uq4 H locs hw hP hD hS => ?_)
          replace hw : True := hw
          have hP : va_P (dC, dI) vwCl [(t0, .inr (7, [.ref a0, .ref y1, .ref y2, .ref y3, .ref y4, .ref y5, .ref y6, .int y7, .int y8, .int y9])), (a0, .inr (5, [.ref a1, .int (nI ((n + t) + 1))])), (a1, .inl (kB, 140000, .inl (upd (apF f n t (mixB x)) (n + t) (i2b (ushr (mixX x (t + 1)) 16)))))] H := hP
          have hD : va_D A [(t0, .inr (7, [.ref a0, .ref y1, .ref y2, .ref y3, .ref y4, .ref y5, .ref y6, .int y7, .int y8, .int y9])), (a0, .inr (5, [.ref a1, .int (nI ((n + t) + 1))])), (a1, .inl (kB, 140000, .inl (upd (apF f n t (mixB x)) (n + t) (i2b (ushr (mixX x (t + 1)) 16)))))] := hD
          have eq9 : (upd (apF f n t (mixB x)) (n + t) (i2b (ushr (mixX x (t + 1)) 16))) = (apF f n (t + 1) (mixB x)) := apF_s f n t (mixB x)
          have hP : va_P (dC, dI) vwCl [(t0, .inr (7, [.ref a0, .ref y1, .ref y2, .ref y3, .ref y4, .ref y5, .ref y6, .int y7, .int y8, .int y9])), (a0, .inr (5, [.ref a1, .int (nI ((n + t) + 1))])), (a1, .inl (kB, 140000, .inl (apF f n (t + 1) (mixB x))))] H := by rw [← eq9]; exact hP
          have hD : va_D A [(t0, .inr (7, [.ref a0, .ref y1, .ref y2, .ref y3, .ref y4, .ref y5, .ref y6, .int y7, .int y8, .int y9])), (a0, .inr (5, [.ref a1, .int (nI ((n + t) + 1))])), (a1, .inl (kB, 140000, .inl (apF f n (t + 1) (mixB x))))] := by rw [← eq9]; exact hD
          refine lv_iinc (v := (nI (t + 1))) (lv' := [(5, .int (nI (t + 1))), (4, .int (mixX x (t + 1))), (0, .ref t0), (2, .int (nI k))]) hx hb dX7_mix_47 hl (k := 3) rfl (zn_inc t 1 (by decide)) (by decide) rfl (fun ls hl => ?_)
          refine lv_goto (tgt := 18) hx hb dX7_mix_50 (by decide) ?_
          exact hG2 _ _ _ (ih (t + 1) (by omega) (by omega) _ _ (hP.sub [0, 1, 2] rfl) (hD.sub [0, 1, 2] (by decide) rfl) hS ls (lv_sub hl [2, 3, 1, 0] rfl))
    exact hG2 _ _ _ (lp (k - 0 + 1) 0 (by omega) (Nat.lt_succ_self _) _ _ (hP.sub [0, 1, 2] rfl) (hD.sub [0, 1, 2] (by decide) rfl) hS ls (lv_sub hl [3, 5, 1, 0] rfl))
  · subst er
    refine lv_istore_n (lv' := [(3, .int (-1)), (0, .ref t0), (1, .int x), (2, .int y)]) hx hb dX7_mix_5 rfl hl (by decide) rfl (fun ls hl => ?_)
    refine lv_iload_n hx hb dX7_mix_6 rfl (lv_at hl 0 rfl) ?_
    refine lv_if_eq (tgt := 12) hx hb dX7_mix_7 (by decide) (fun c => absurd c (by decide)) (fun _ => ?_)
    refine lv_iload_n hx hb dX7_mix_10 rfl (lv_at hl 0 rfl) ?_
    have hP9 := hP.sub (ws' := [(t0, .inr (7, [.ref a0, .ref y1, .ref y2, .ref y3, .ref y4, .ref y5, .ref y6, .int y7, .int y8, .int y9])), (a0, .inr (5, [.ref a1, .int (nI n)])), (a1, .inl (kB, 140000, .inl f))]) [0, 1, 2] rfl
    have hD9 := hD.sub (ws' := [(t0, .inr (7, [.ref a0, .ref y1, .ref y2, .ref y3, .ref y4, .ref y5, .ref y6, .int y7, .int y8, .int y9])), (a0, .inr (5, [.ref a1, .int (nI n)])), (a1, .inl (kB, 140000, .inl f))]) [0, 1, 2] (by decide) rfl
    exact W.iret (v := (-1)) hx hb hr (fun t9 ht9 hW9 => ⟨⟨(-1), (f, n), rfl, (by right; exact ⟨hw, rfl, rfl, rfl⟩), by rw [ht9]; exact hP9, va_K.moved hW9.alike hK, hD9⟩, hS.F ht9⟩) hS.2.2 dX7_mix_11
  · subst er
    obtain ⟨k, kb, ye⟩ := z_nat (x := y) (by omega)
    subst ye
    rw [nI_toInt kb] at yh
    subst yh
    refine lv_istore_n (lv' := [(3, .int (-2)), (0, .ref t0), (1, .int x), (2, .int (nI k))]) hx hb dX7_mix_5 rfl hl (by decide) rfl (fun ls hl => ?_)
    refine lv_iload_n hx hb dX7_mix_6 rfl (lv_at hl 0 rfl) ?_
    refine lv_if_eq (tgt := 12) hx hb dX7_mix_7 (by decide) (fun c => absurd c (by decide)) (fun _ => ?_)
    refine lv_iload_n hx hb dX7_mix_10 rfl (lv_at hl 0 rfl) ?_
    have hP9 := hP.sub (ws' := [(t0, .inr (7, [.ref a0, .ref y1, .ref y2, .ref y3, .ref y4, .ref y5, .ref y6, .int y7, .int y8, .int y9])), (a0, .inr (5, [.ref a1, .int (nI n)])), (a1, .inl (kB, 140000, .inl f))]) [0, 1, 2] rfl
    have hD9 := hD.sub (ws' := [(t0, .inr (7, [.ref a0, .ref y1, .ref y2, .ref y3, .ref y4, .ref y5, .ref y6, .int y7, .int y8, .int y9])), (a0, .inr (5, [.ref a1, .int (nI n)])), (a1, .inl (kB, 140000, .inl f))]) [0, 1, 2] (by decide) rfl
    exact W.iret (v := (-2)) hx hb hr (fun t9 ht9 hW9 => ⟨⟨(-2), (f, n), rfl, (by left; exact ⟨k, rfl, by omega, by omega, Or.inr ⟨by omega, rfl, rfl, rfl⟩⟩), by rw [ht9]; exact hP9, va_K.moved hW9.alike hK, hD9⟩, hS.F ht9⟩) hS.2.2 dX7_mix_11

set_option maxHeartbeats 4000000 in
set_option maxRecDepth 100000 in
theorem c_Top_again (l : Launch) (dC : Nat → ClassId) (dI : Nat → Nat → Nat) (kB kI : ClassId) (t0 : Nat) (y1 : Nat) (y2 : Nat) (y3 : Nat) (y4 : Nat) (y5 : Nat) (y6 : Nat) (y7 : Int32) (y8 : Int32) (y9 : Int32) (a0 : Nat) (a1 : Nat) (n : Nat) (f : Nat → Int32) (x : Int32) (xi : Int) (y : Int32) (yi : Int) (hn : n ≤ 140000) (xh : x.toInt = xi) (yh : y.toInt = yi) (hf : bytF f) : zMi l yX7_again wsX7_again ({ frames := 2, cells := 0, slots := 0, locals := 43 }) (dC, dI) kB kI [.ref t0, .int x, .int y] [(t0, .inr (7, [.ref a0, .ref y1, .ref y2, .ref y3, .ref y4, .ref y5, .ref y6, .int y7, .int y8, .int y9])), (a0, .inr (5, [.ref a1, .int (nI n)])), (a1, .inl (kB, 140000, .inl f))] 0 0 (fun (r : Int32) => fun uu : (Nat → Int32) × Nat => (∃ d k : Nat, xi = d ∧ yi = k ∧ 1 ≤ d ∧ d ≤ n ∧ 1 ≤ k ∧ k ≤ 70000 ∧ ((n + k ≤ 140000 ∧ r = nI (n + k) ∧ uu.2 = n + k ∧ uu.1 = agF f n d k) ∨ (140000 < n + k ∧ r = -2 ∧ uu.2 = n ∧ uu.1 = f))) ∨ ((xi < 1 ∨ (n : Int) < xi ∨ yi < 1 ∨ 70000 < yi) ∧ r = -1 ∧ uu.2 = n ∧ uu.1 = f)) (fun uu : (Nat → Int32) × Nat => [(t0, .inr (7, [.ref a0, .ref y1, .ref y2, .ref y3, .ref y4, .ref y5, .ref y6, .int y7, .int y8, .int y9])), (a0, .inr (5, [.ref a1, .int (nI uu.2)])), (a1, .inl (kB, 140000, .inl uu.1))]) := by
  intro sz
  refine Met.ofW (cc := cX7_again) (maxL := 4) (ret := (some .int)) (by decide) rfl ?_
  intro p e s m args below meth c s₁ B hml hv
  obtain ⟨rfl, hsz, hP, hK, hD0⟩ := hv
  have hx := B.exec
  have hb := B.bytes
  have hr := B.returns
  have hts := atoms_spec (ws := wsX7_again) B.pre
  have hown : s.vm.findClass RX7 = some m.cls := findClass_of_methodNamed B.named
  have hlocks := B.notSynchronized
  subst hsz
  have hD := hD0.self (sz := s.heap.size)
  generalize hAe : va_A [(t0, .inr (7, [.ref a0, .ref y1, .ref y2, .ref y3, .ref y4, .ref y5, .ref y6, .int y7, .int y8, .int y9])), (a0, .inr (5, [.ref a1, .int (nI n)])), (a1, .inl (kB, 140000, .inl f))] s.heap.size = A at hD ⊢
  have hA : ∀ q : Nat, s.heap.size ≤ q → A q := fun q h => by rw [← hAe]; exact Or.inr h
  have hS : va_S A s.heap s.heap [] := va_S.rf
  have hP : va_P (dC, dI) vwCl [(t0, .inr (7, [.ref a0, .ref y1, .ref y2, .ref y3, .ref y4, .ref y5, .ref y6, .int y7, .int y8, .int y9])), (a0, .inr (5, [.ref a1, .int (nI n)])), (a1, .inl (kB, 140000, .inl f))] s.heap := hP
  have hl := lv_entry ([.ref t0, .int x, .int y]) (n := 4) (Nat.le_of_ble_eq_true rfl)
  rw [lg_entry_eq]
  generalize (lg_sl ([.ref t0, .int x, .int y]) ++ List.replicate (4 - (lg_sl ([.ref t0, .int x, .int y])).length) Slot.unset).toArray = ls at hl ⊢
  have hl : lv_has ls 4 [(0, .ref t0), (1, .int x), (2, .int y)] := hl
  refine zG (fun GG hG1 hG2 => ?_)
  refine lv_iload_n hx hb dX7_again_0 rfl (lv_at hl 1 rfl) ?_
  refine lv_iconst (v := 1) hx hb dX7_again_1 (by decide) ?_
  refine zb_icmp_lt (tgt := 16) (a := xi) (b := 1) hx hb dX7_again_2 (by decide) xh (by decide) (fun c2 => ?_) (fun c2 => ?_)
  · refine lv_iconst (v := (-1)) hx hb dX7_again_16 (by decide) ?_
    have hP9 := hP.sub (ws' := [(t0, .inr (7, [.ref a0, .ref y1, .ref y2, .ref y3, .ref y4, .ref y5, .ref y6, .int y7, .int y8, .int y9])), (a0, .inr (5, [.ref a1, .int (nI n)])), (a1, .inl (kB, 140000, .inl f))]) [0, 1, 2] rfl
    have hD9 := hD.sub (ws' := [(t0, .inr (7, [.ref a0, .ref y1, .ref y2, .ref y3, .ref y4, .ref y5, .ref y6, .int y7, .int y8, .int y9])), (a0, .inr (5, [.ref a1, .int (nI n)])), (a1, .inl (kB, 140000, .inl f))]) [0, 1, 2] (by decide) rfl
    exact W.iret (v := (-1)) hx hb hr (fun t9 ht9 hW9 => ⟨⟨(-1), (f, n), rfl, (by right; exact ⟨by omega, rfl, rfl, rfl⟩), by rw [ht9]; exact hP9, va_K.moved hW9.alike hK, hD9⟩, hS.F ht9⟩) hS.2.2 dX7_again_17
  · refine lv_iload_n hx hb dX7_again_5 rfl (lv_at hl 1 rfl) ?_
    refine lv_aload_n hx hb dX7_again_6 rfl (lv_at hl 0 rfl) ?_
    refine va_get (D := (dC, dI)) (ci := 7) (v := .ref a0) (C := RX7) (T := TX7) (N := 10) hx hb hts (by decide +kernel) hown hK hP 0 rfl rfl 0 (by decide) (hts (.fieldLink RX7 15 "SequenceFrames" "content" "LSequenceFrames$Row;") (by decide +kernel)) (fun _ h9 => h9) rfl dX7_again_7 ?_
    refine va_get (D := (dC, dI)) (ci := 5) (v := .int (nI n)) (C := RX5) (T := TX5) (N := 2) hx hb hts (by decide +kernel) hown hK hP 1 rfl rfl 1 (by decide) (hts (.fieldLink RX7 68 "SequenceFrames$Row" "size" "I") (by decide +kernel)) (fun _ h9 => h9) rfl dX7_again_10 ?_
    refine zb_icmp_le (tgt := 18) (a := xi) (b := ((n : Nat) : Int)) hx hb dX7_again_13 (by decide) xh (nI_toInt (by omega)) (fun c13 => ?_) (fun c13 => ?_)
    · refine lv_aload_n hx hb dX7_again_18 rfl (lv_at hl 0 rfl) ?_
      refine lv_iload_n hx hb dX7_again_19 rfl (lv_at hl 2 rfl) ?_
      refine z_calli (wr := []) (va_runV (As := [.int y]) (rest := []) ⟨hx, hb, hml, hown, hts⟩ (c_Top_refusedPut l dC dI kB kI t0 y1 y2 y3 y4 y5 y6 y7 y8 y9 a0 a1 n f y yi (by omega) yh s.heap.size) (cwV 1 hts gX7_again_X7_refusedPut rfl rfl rfl (by decide +kernel) ⟨Nat.le_of_ble_eq_true rfl, Nat.le_of_ble_eq_true rfl⟩) (z_preV hK (hP.sub [0, 1, 2] rfl) (hD.sub [0, 1, 2] (by decide) rfl) (va_recv hK hP (ci := 7) (q0 := 0) rfl rfl)) rfl rfl hl.1 rfl (lv_room (Nat.le_of_ble_eq_true rfl)) dX7_again_20 ⟨Nat.le_of_ble_eq_true rfl, Nat.le_of_ble_eq_true rfl⟩) hK hP hD hS hA [0, 1, 2] [] rfl rfl (by decide) (by decide) (fun r1 uq2 H locs hw hP hD hS => ?_)
      replace hw : (r1 = 0 ∧ 1 ≤ yi ∧ yi ≤ 70000 ∧ n + yi ≤ 140000) ∨ (r1 = -1 ∧ (yi < 1 ∨ 70000 < yi)) ∨ (r1 = -2 ∧ 1 ≤ yi ∧ yi ≤ 70000 ∧ 140000 < n + yi) := hw
      have hP : va_P (dC, dI) vwCl [(t0, .inr (7, [.ref a0, .ref y1, .ref y2, .ref y3, .ref y4, .ref y5, .ref y6, .int y7, .int y8, .int y9])), (a0, .inr (5, [.ref a1, .int (nI n)])), (a1, .inl (kB, 140000, .inl f))] H := hP
      have hD : va_D A [(t0, .inr (7, [.ref a0, .ref y1, .ref y2, .ref y3, .ref y4, .ref y5, .ref y6, .int y7, .int y8, .int y9])), (a0, .inr (5, [.ref a1, .int (nI n)])), (a1, .inl (kB, 140000, .inl f))] := hD
      rcases hw with ⟨er, h1, h2, h3⟩ | ⟨er, hw⟩ | ⟨er, h1, h2, h3⟩
      · subst er
        obtain ⟨d, db, xe⟩ := z_nat (x := x) (by omega)
        subst xe
        rw [nI_toInt db] at xh
        subst xh
        obtain ⟨k, kb, ye⟩ := z_nat (x := y) (by omega)
        subst ye
        rw [nI_toInt kb] at yh
        subst yh
        refine lv_istore_n (lv' := [(3, .int 0), (0, .ref t0), (1, .int (nI d)), (2, .int (nI k))]) hx hb dX7_again_23 rfl hl (by decide) rfl (fun ls hl => ?_)
        refine lv_iload_n hx hb dX7_again_24 rfl (lv_at hl 0 rfl) ?_
        refine lv_if_eq (tgt := 30) hx hb dX7_again_25 (by decide) (fun _ => ?_) (fun c => absurd c (by decide))
        refine lv_aload_n hx hb dX7_again_30 rfl (lv_at hl 1 rfl) ?_
        refine va_get (D := (dC, dI)) (ci := 7) (v := .ref a0) (C := RX7) (T := TX7) (N := 10) hx hb hts (by decide +kernel) hown hK hP 0 rfl rfl 0 (by decide) (hts (.fieldLink RX7 15 "SequenceFrames" "content" "LSequenceFrames$Row;") (by decide +kernel)) (fun _ h9 => h9) rfl dX7_again_31 ?_
        refine lv_iload_n hx hb dX7_again_34 rfl (lv_at hl 2 rfl) ?_
        refine lv_iload_n hx hb dX7_again_35 rfl (lv_at hl 3 rfl) ?_
        refine z_callv (wr := [(t0, .inr (7, [.ref a0, .ref y1, .ref y2, .ref y3, .ref y4, .ref y5, .ref y6, .int y7, .int y8, .int y9]))]) (va_runV (As := [.int (nI d), .int (nI k)]) (rest := []) ⟨hx, hb, hml, hown, hts⟩ (c_Row_addAgain l dC dI kB kI a0 a1 140000 n f d k (by omega) (by omega) (by omega) (by omega) hf H.size) (cwV 2 hts gX7_again_X5_addAgain rfl rfl rfl (by decide +kernel) ⟨Nat.le_of_ble_eq_true rfl, Nat.le_of_ble_eq_true rfl⟩) (z_preV hK (hP.sub [1, 2] rfl) (hD.sub [1, 2] (by decide) rfl) (va_recv hK hP (ci := 5) (q0 := 1) rfl rfl)) rfl rfl hl.1 rfl (lv_room (Nat.le_of_ble_eq_true rfl)) dX7_again_36 ⟨Nat.le_of_ble_eq_true rfl, Nat.le_of_ble_eq_true rfl⟩) hK hP hD hS hA [1, 2] [0] rfl rfl (by decide) (by decide) (fun uq4 H locs hw hP hD hS => ?_)
        replace hw : True := hw
        have hP : va_P (dC, dI) vwCl [(t0, .inr (7, [.ref a0, .ref y1, .ref y2, .ref y3, .ref y4, .ref y5, .ref y6, .int y7, .int y8, .int y9])), (a0, .inr (5, [.ref a1, .int (nI (n + k))])), (a1, .inl (kB, 140000, .inl (agF f n d k)))] H := hP
        have hD : va_D A [(t0, .inr (7, [.ref a0, .ref y1, .ref y2, .ref y3, .ref y4, .ref y5, .ref y6, .int y7, .int y8, .int y9])), (a0, .inr (5, [.ref a1, .int (nI (n + k))])), (a1, .inl (kB, 140000, .inl (agF f n d k)))] := hD
        refine lv_aload_n hx hb dX7_again_39 rfl (lv_at hl 1 rfl) ?_
        refine va_get (D := (dC, dI)) (ci := 7) (v := .ref a0) (C := RX7) (T := TX7) (N := 10) hx hb hts (by decide +kernel) hown hK hP 0 rfl rfl 0 (by decide) (hts (.fieldLink RX7 15 "SequenceFrames" "content" "LSequenceFrames$Row;") (by decide +kernel)) (fun _ h9 => h9) rfl dX7_again_40 ?_
        refine va_get (D := (dC, dI)) (ci := 5) (v := .int (nI (n + k))) (C := RX5) (T := TX5) (N := 2) hx hb hts (by decide +kernel) hown hK hP 1 rfl rfl 1 (by decide) (hts (.fieldLink RX7 68 "SequenceFrames$Row" "size" "I") (by decide +kernel)) (fun _ h9 => h9) rfl dX7_again_43 ?_
        have hP9 := hP.sub (ws' := [(t0, .inr (7, [.ref a0, .ref y1, .ref y2, .ref y3, .ref y4, .ref y5, .ref y6, .int y7, .int y8, .int y9])), (a0, .inr (5, [.ref a1, .int (nI (n + k))])), (a1, .inl (kB, 140000, .inl (agF f n d k)))]) [0, 1, 2] rfl
        have hD9 := hD.sub (ws' := [(t0, .inr (7, [.ref a0, .ref y1, .ref y2, .ref y3, .ref y4, .ref y5, .ref y6, .int y7, .int y8, .int y9])), (a0, .inr (5, [.ref a1, .int (nI (n + k))])), (a1, .inl (kB, 140000, .inl (agF f n d k)))]) [0, 1, 2] (by decide) rfl
        exact W.iret (v := (nI (n + k))) hx hb hr (fun t9 ht9 hW9 => ⟨⟨(nI (n + k)), ((agF f n d k), (n + k)), rfl, (by left; exact ⟨d, k, rfl, rfl, by omega, by omega, by omega, by omega, Or.inl ⟨by omega, rfl, rfl, rfl⟩⟩), by rw [ht9]; exact hP9, va_K.moved hW9.alike hK, hD9⟩, hS.F ht9⟩) hS.2.2 dX7_again_46
      · subst er
        refine lv_istore_n (lv' := [(3, .int (-1)), (0, .ref t0), (1, .int x), (2, .int y)]) hx hb dX7_again_23 rfl hl (by decide) rfl (fun ls hl => ?_)
        refine lv_iload_n hx hb dX7_again_24 rfl (lv_at hl 0 rfl) ?_
        refine lv_if_eq (tgt := 30) hx hb dX7_again_25 (by decide) (fun c => absurd c (by decide)) (fun _ => ?_)
        refine lv_iload_n hx hb dX7_again_28 rfl (lv_at hl 0 rfl) ?_
        have hP9 := hP.sub (ws' := [(t0, .inr (7, [.ref a0, .ref y1, .ref y2, .ref y3, .ref y4, .ref y5, .ref y6, .int y7, .int y8, .int y9])), (a0, .inr (5, [.ref a1, .int (nI n)])), (a1, .inl (kB, 140000, .inl f))]) [0, 1, 2] rfl
        have hD9 := hD.sub (ws' := [(t0, .inr (7, [.ref a0, .ref y1, .ref y2, .ref y3, .ref y4, .ref y5, .ref y6, .int y7, .int y8, .int y9])), (a0, .inr (5, [.ref a1, .int (nI n)])), (a1, .inl (kB, 140000, .inl f))]) [0, 1, 2] (by decide) rfl
        exact W.iret (v := (-1)) hx hb hr (fun t9 ht9 hW9 => ⟨⟨(-1), (f, n), rfl, (by right; exact ⟨by omega, rfl, rfl, rfl⟩), by rw [ht9]; exact hP9, va_K.moved hW9.alike hK, hD9⟩, hS.F ht9⟩) hS.2.2 dX7_again_29
      · subst er
        obtain ⟨d, db, xe⟩ := z_nat (x := x) (by omega)
        subst xe
        rw [nI_toInt db] at xh
        subst xh
        obtain ⟨k, kb, ye⟩ := z_nat (x := y) (by omega)
        subst ye
        rw [nI_toInt kb] at yh
        subst yh
        refine lv_istore_n (lv' := [(3, .int (-2)), (0, .ref t0), (1, .int (nI d)), (2, .int (nI k))]) hx hb dX7_again_23 rfl hl (by decide) rfl (fun ls hl => ?_)
        refine lv_iload_n hx hb dX7_again_24 rfl (lv_at hl 0 rfl) ?_
        refine lv_if_eq (tgt := 30) hx hb dX7_again_25 (by decide) (fun c => absurd c (by decide)) (fun _ => ?_)
        refine lv_iload_n hx hb dX7_again_28 rfl (lv_at hl 0 rfl) ?_
        have hP9 := hP.sub (ws' := [(t0, .inr (7, [.ref a0, .ref y1, .ref y2, .ref y3, .ref y4, .ref y5, .ref y6, .int y7, .int y8, .int y9])), (a0, .inr (5, [.ref a1, .int (nI n)])), (a1, .inl (kB, 140000, .inl f))]) [0, 1, 2] rfl
        have hD9 := hD.sub (ws' := [(t0, .inr (7, [.ref a0, .ref y1, .ref y2, .ref y3, .ref y4, .ref y5, .ref y6, .int y7, .int y8, .int y9])), (a0, .inr (5, [.ref a1, .int (nI n)])), (a1, .inl (kB, 140000, .inl f))]) [0, 1, 2] (by decide) rfl
        exact W.iret (v := (-2)) hx hb hr (fun t9 ht9 hW9 => ⟨⟨(-2), (f, n), rfl, (by left; exact ⟨d, k, rfl, rfl, by omega, by omega, by omega, by omega, Or.inr ⟨by omega, rfl, rfl, rfl⟩⟩), by rw [ht9]; exact hP9, va_K.moved hW9.alike hK, hD9⟩, hS.F ht9⟩) hS.2.2 dX7_again_29
    · refine lv_iconst (v := (-1)) hx hb dX7_again_16 (by decide) ?_
      have hP9 := hP.sub (ws' := [(t0, .inr (7, [.ref a0, .ref y1, .ref y2, .ref y3, .ref y4, .ref y5, .ref y6, .int y7, .int y8, .int y9])), (a0, .inr (5, [.ref a1, .int (nI n)])), (a1, .inl (kB, 140000, .inl f))]) [0, 1, 2] rfl
      have hD9 := hD.sub (ws' := [(t0, .inr (7, [.ref a0, .ref y1, .ref y2, .ref y3, .ref y4, .ref y5, .ref y6, .int y7, .int y8, .int y9])), (a0, .inr (5, [.ref a1, .int (nI n)])), (a1, .inl (kB, 140000, .inl f))]) [0, 1, 2] (by decide) rfl
      exact W.iret (v := (-1)) hx hb hr (fun t9 ht9 hW9 => ⟨⟨(-1), (f, n), rfl, (by right; exact ⟨by omega, rfl, rfl, rfl⟩), by rw [ht9]; exact hP9, va_K.moved hW9.alike hK, hD9⟩, hS.F ht9⟩) hS.2.2 dX7_again_17

set_option maxHeartbeats 4000000 in
set_option maxRecDepth 100000 in
theorem c_Top_place (l : Launch) (dC : Nat → ClassId) (dI : Nat → Nat → Nat) (kB kI : ClassId) (t0 : Nat) (y0 : Nat) (y1 : Nat) (y2 : Nat) (y3 : Nat) (y4 : Nat) (y5 : Nat) (y6 : Nat) (y7 : Int32) (y8 : Int32) (y9 : Int32)  : zMi l yX7_place wsX7_place ({ frames := 0, cells := 0, slots := 0, locals := 0 }) (dC, dI) kB kI [.ref t0] [(t0, .inr (7, [.ref y0, .ref y1, .ref y2, .ref y3, .ref y4, .ref y5, .ref y6, .int y7, .int y8, .int y9]))] 0 0 (fun (r : Int32) => fun _ : Unit => r = y7) (fun _ : Unit => [(t0, .inr (7, [.ref y0, .ref y1, .ref y2, .ref y3, .ref y4, .ref y5, .ref y6, .int y7, .int y8, .int y9]))]) := by
  intro sz
  refine Met.ofW (cc := cX7_place) (maxL := 1) (ret := (some .int)) (by decide) rfl ?_
  intro p e s m args below meth c s₁ B hml hv
  obtain ⟨rfl, hsz, hP, hK, hD0⟩ := hv
  have hx := B.exec
  have hb := B.bytes
  have hr := B.returns
  have hts := atoms_spec (ws := wsX7_place) B.pre
  have hown : s.vm.findClass RX7 = some m.cls := findClass_of_methodNamed B.named
  have hlocks := B.notSynchronized
  subst hsz
  have hD := hD0.self (sz := s.heap.size)
  generalize hAe : va_A [(t0, .inr (7, [.ref y0, .ref y1, .ref y2, .ref y3, .ref y4, .ref y5, .ref y6, .int y7, .int y8, .int y9]))] s.heap.size = A at hD ⊢
  have hA : ∀ q : Nat, s.heap.size ≤ q → A q := fun q h => by rw [← hAe]; exact Or.inr h
  have hS : va_S A s.heap s.heap [] := va_S.rf
  have hP : va_P (dC, dI) vwCl [(t0, .inr (7, [.ref y0, .ref y1, .ref y2, .ref y3, .ref y4, .ref y5, .ref y6, .int y7, .int y8, .int y9]))] s.heap := hP
  have hl := lv_entry ([.ref t0]) (n := 1) (Nat.le_of_ble_eq_true rfl)
  rw [lg_entry_eq]
  generalize (lg_sl ([.ref t0]) ++ List.replicate (1 - (lg_sl ([.ref t0])).length) Slot.unset).toArray = ls at hl ⊢
  have hl : lv_has ls 1 [(0, .ref t0)] := hl
  refine zG (fun GG hG1 hG2 => ?_)
  refine lv_aload_n hx hb dX7_place_0 rfl (lv_at hl 0 rfl) ?_
  refine va_get (D := (dC, dI)) (ci := 7) (v := .int y7) (C := RX7) (T := TX7) (N := 10) hx hb hts (by decide +kernel) hown hK hP 0 rfl rfl 7 (by decide) (hts (.fieldLink RX7 52 "SequenceFrames" "faultPlace" "I") (by decide +kernel)) (fun _ h9 => h9) rfl dX7_place_1 ?_
  have hP9 := hP.sub (ws' := [(t0, .inr (7, [.ref y0, .ref y1, .ref y2, .ref y3, .ref y4, .ref y5, .ref y6, .int y7, .int y8, .int y9]))]) [0] rfl
  have hD9 := hD.sub (ws' := [(t0, .inr (7, [.ref y0, .ref y1, .ref y2, .ref y3, .ref y4, .ref y5, .ref y6, .int y7, .int y8, .int y9]))]) [0] (by decide) rfl
  exact W.iret (v := y7) hx hb hr (fun t9 ht9 hW9 => ⟨⟨y7, (), rfl, rfl, by rw [ht9]; exact hP9, va_K.moved hW9.alike hK, hD9⟩, hS.F ht9⟩) hS.2.2 dX7_place_4
