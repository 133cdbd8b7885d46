set_option maxHeartbeats 4000000 in
set_option maxRecDepth 100000 in
theorem c_Blk_endsByRules (l : Launch) (dC : Nat → ClassId) (dI : Nat → Nat → Nat) (kB kI : ClassId) (k0 : Nat) (g0 : Nat) (e0 : Nat) (f0 : Nat) (k3 : Int32) (k4 : Int32) (k5 : Int32) (k6 : Int32) (k7 : Int32) (k8 : Int32) (k10 : Int32) (tk : Nat) (ll : Nat) (lm : Nat) (zz : Nat) (e1 : Nat) (hz : zz ≤ 140000) (hlm : lm ≤ zz + 1) (hll : ll ≤ 140000) (htk : tk < 256) : zMi l yX0_endsByRules wsX0_endsByRules ({ frames := 0, cells := 0, slots := 0, locals := 0 }) (dC, dI) kB kI [.ref k0] [(k0, .inr (0, [.ref g0, .ref e0, .ref f0, .int k3, .int k4, .int k5, .int k6, .int k7, .int k8, .int (nI tk), .int k10, .int (nI ll), .int (lmV lm)])), (e0, .inr (5, [.ref e1, .int (nI zz)]))] 0 0 (fun (r : Int32) => fun _ : Unit => (r = 1 ∧ lastOK tk ll zz lm) ∨ (r = 0 ∧ ¬ lastOK tk ll zz lm)) (fun _ : Unit => [(k0, .inr (0, [.ref g0, .ref e0, .ref f0, .int k3, .int k4, .int k5, .int k6, .int k7, .int k8, .int (nI tk), .int k10, .int (nI ll), .int (lmV lm)])), (e0, .inr (5, [.ref e1, .int (nI zz)]))]) := by
  intro sz
  refine Met.ofW (cc := cX0_endsByRules) (maxL := 1) (ret := (some .boolean)) (by decide) rfl ?_
  intro p e s m args below meth c s₁ B hml hv
  obtain ⟨rfl, hsz, hP, hK, hD0⟩ := hv
  have hx := B.exec
  have hb := B.bytes
  have hr := B.returns
  have hts := atoms_spec (ws := wsX0_endsByRules) B.pre
  have hown : s.vm.findClass RX0 = some m.cls := findClass_of_methodNamed B.named
  have hlocks := B.notSynchronized
  subst hsz
  have hD := hD0.self (sz := s.heap.size)
  generalize hAe : va_A [(k0, .inr (0, [.ref g0, .ref e0, .ref f0, .int k3, .int k4, .int k5, .int k6, .int k7, .int k8, .int (nI tk), .int k10, .int (nI ll), .int (lmV lm)])), (e0, .inr (5, [.ref e1, .int (nI zz)]))] s.heap.size = A at hD ⊢
  have hA : ∀ q : Nat, s.heap.size ≤ q → A q := fun q h => by rw [← hAe]; exact Or.inr h
  have hS : va_S A s.heap s.heap [] := va_S.rf
  have hP : va_P (dC, dI) vwCl [(k0, .inr (0, [.ref g0, .ref e0, .ref f0, .int k3, .int k4, .int k5, .int k6, .int k7, .int k8, .int (nI tk), .int k10, .int (nI ll), .int (lmV lm)])), (e0, .inr (5, [.ref e1, .int (nI zz)]))] s.heap := hP
  have hl := lv_entry ([.ref k0]) (n := 1) (Nat.le_of_ble_eq_true rfl)
  rw [lg_entry_eq]
  generalize (lg_sl ([.ref k0]) ++ List.replicate (1 - (lg_sl ([.ref k0])).length) Slot.unset).toArray = ls at hl ⊢
  have hl : lv_has ls 1 [(0, .ref k0)] := hl
  refine zG (fun GG hG1 hG2 => ?_)
  refine lv_aload_n hx hb dX0_endsByRules_0 rfl (lv_at hl 0 rfl) ?_
  refine va_get (D := (dC, dI)) (ci := 0) (v := .int (nI tk)) (C := RX0) (T := TX0) (N := 13) hx hb hts (by decide +kernel) hown hK hP 0 rfl rfl 9 (by decide) (hts (.fieldLink RX0 62 "SequenceFrames$BlockReader" "token" "I") (by decide +kernel)) (fun _ h9 => h9) rfl dX0_endsByRules_1 ?_
  refine lv_bipush (v := 15) hx hb dX0_endsByRules_4 (by decide) ?_
  refine lv_iand hx hb dX0_endsByRules_6 ?_
  refine lv_is (y := (nI (tk % 16))) (and15 (by omega)) ?_
  refine zb_if_eq (tgt := 12) (a := ((tk % 16 : Nat) : Int)) hx hb dX0_endsByRules_7 (by decide) (nI_toInt (by omega)) (fun c7 => ?_) (fun c7 => ?_)
  · refine lv_aload_n hx hb dX0_endsByRules_12 rfl (lv_at hl 0 rfl) ?_
    refine va_get (D := (dC, dI)) (ci := 0) (v := .int (lmV lm)) (C := RX0) (T := TX0) (N := 13) hx hb hts (by decide +kernel) hown hK hP 0 rfl rfl 12 (by decide) (hts (.fieldLink RX0 52 "SequenceFrames$BlockReader" "lastMatch" "I") (by decide +kernel)) (fun _ h9 => h9) rfl dX0_endsByRules_13 ?_
    rcases (show lm = 0 ∨ ¬ lm = 0 by omega) with h0 | h0
    · refine lv_is (y := (-1)) (by rw [h0]; rfl) ?_
      refine lv_iconst (v := (-1)) hx hb dX0_endsByRules_16 (by decide) ?_
      refine lv_icmp_eq (tgt := 45) hx hb dX0_endsByRules_17 (by decide) (fun _ => ?_) (fun c => absurd c (by decide))
      refine lv_iconst (v := 1) hx hb dX0_endsByRules_45 (by decide) ?_
      refine lv_goto (tgt := 50) hx hb dX0_endsByRules_46 (by decide) ?_
      have hP9 := hP.sub (ws' := [(k0, .inr (0, [.ref g0, .ref e0, .ref f0, .int k3, .int k4, .int k5, .int k6, .int k7, .int k8, .int (nI tk), .int k10, .int (nI ll), .int (lmV lm)])), (e0, .inr (5, [.ref e1, .int (nI zz)]))]) [0, 1] rfl
      have hD9 := hD.sub (ws' := [(k0, .inr (0, [.ref g0, .ref e0, .ref f0, .int k3, .int k4, .int k5, .int k6, .int k7, .int k8, .int (nI tk), .int k10, .int (nI ll), .int (lmV lm)])), (e0, .inr (5, [.ref e1, .int (nI zz)]))]) [0, 1] (by decide) rfl
      exact W.zret (v := 1) hx hb hr (by decide) (fun t9 ht9 hW9 => ⟨⟨1, (), rfl, (Or.inl ⟨rfl, by omega, Or.inl h0⟩), by rw [ht9]; exact hP9, va_K.moved hW9.alike hK, hD9⟩, hS.F ht9⟩) hS.2.2 dX0_endsByRules_50
    · refine lv_is (y := (nI (lm - 1))) (lmV_s h0) ?_
      refine lv_iconst (v := (-1)) hx hb dX0_endsByRules_16 (by decide) ?_
      refine zb_icmp_eq (tgt := 45) (a := ((lm - 1 : Nat) : Int)) (b := (-1)) hx hb dX0_endsByRules_17 (by decide) (nI_toInt (by omega)) (by decide) (fun c17 => ?_) (fun c17 => ?_)
      · omega
      · refine lv_aload_n hx hb dX0_endsByRules_20 rfl (lv_at hl 0 rfl) ?_
        refine va_get (D := (dC, dI)) (ci := 0) (v := .int (nI ll)) (C := RX0) (T := TX0) (N := 13) hx hb hts (by decide +kernel) hown hK hP 0 rfl rfl 11 (by decide) (hts (.fieldLink RX0 87 "SequenceFrames$BlockReader" "literals" "I") (by decide +kernel)) (fun _ h9 => h9) rfl dX0_endsByRules_21 ?_
        refine lv_iconst (v := 5) hx hb dX0_endsByRules_24 (by decide) ?_
        refine zb_icmp_lt (tgt := 49) (a := ((ll : Nat) : Int)) (b := 5) hx hb dX0_endsByRules_25 (by decide) (nI_toInt (by omega)) (by decide) (fun c25 => ?_) (fun c25 => ?_)
        · refine lv_iconst (v := 0) hx hb dX0_endsByRules_49 (by decide) ?_
          have hP9 := hP.sub (ws' := [(k0, .inr (0, [.ref g0, .ref e0, .ref f0, .int k3, .int k4, .int k5, .int k6, .int k7, .int k8, .int (nI tk), .int k10, .int (nI ll), .int (lmV lm)])), (e0, .inr (5, [.ref e1, .int (nI zz)]))]) [0, 1] rfl
          have hD9 := hD.sub (ws' := [(k0, .inr (0, [.ref g0, .ref e0, .ref f0, .int k3, .int k4, .int k5, .int k6, .int k7, .int k8, .int (nI tk), .int k10, .int (nI ll), .int (lmV lm)])), (e0, .inr (5, [.ref e1, .int (nI zz)]))]) [0, 1] (by decide) rfl
          exact W.zret (v := 0) hx hb hr (by decide) (fun t9 ht9 hW9 => ⟨⟨0, (), rfl, (Or.inr ⟨rfl, fun h => by rcases h.2 with h1 | h1 <;> omega⟩), by rw [ht9]; exact hP9, va_K.moved hW9.alike hK, hD9⟩, hS.F ht9⟩) hS.2.2 dX0_endsByRules_50
        · refine lv_aload_n hx hb dX0_endsByRules_28 rfl (lv_at hl 0 rfl) ?_
          refine va_get (D := (dC, dI)) (ci := 0) (v := .ref e0) (C := RX0) (T := TX0) (N := 13) hx hb hts (by decide +kernel) hown hK hP 0 rfl rfl 1 (by decide) (hts (.fieldLink RX0 15 "SequenceFrames$BlockReader" "output" "LSequenceFrames$Row;") (by decide +kernel)) (fun _ h9 => h9) rfl dX0_endsByRules_29 ?_
          refine va_get (D := (dC, dI)) (ci := 5) (v := .int (nI zz)) (C := RX5) (T := TX5) (N := 2) hx hb hts (by decide +kernel) hown hK hP 1 rfl rfl 1 (by decide) (hts (.fieldLink RX0 29 "SequenceFrames$Row" "size" "I") (by decide +kernel)) (fun _ h9 => h9) rfl dX0_endsByRules_32 ?_
          refine lv_aload_n hx hb dX0_endsByRules_35 rfl (lv_at hl 0 rfl) ?_
          refine va_get (D := (dC, dI)) (ci := 0) (v := .int (lmV lm)) (C := RX0) (T := TX0) (N := 13) hx hb hts (by decide +kernel) hown hK hP 0 rfl rfl 12 (by decide) (hts (.fieldLink RX0 52 "SequenceFrames$BlockReader" "lastMatch" "I") (by decide +kernel)) (fun _ h9 => h9) rfl dX0_endsByRules_36 ?_
          refine lv_is (y := (nI (lm - 1))) (lmV_s h0) ?_
          refine lv_isub hx hb dX0_endsByRules_39 ?_
          refine lv_bipush (v := 12) hx hb dX0_endsByRules_40 (by decide) ?_
          refine zb_icmp_lt (tgt := 49) (a := (((zz : Nat) : Int) - ((lm - 1 : Nat) : Int))) (b := 12) hx hb dX0_endsByRules_42 (by decide) (zi_sub (nI_toInt (by omega)) (nI_toInt (by omega)) (by omega) (by omega)) (by decide) (fun c42 => ?_) (fun c42 => ?_)
          · refine lv_iconst (v := 0) hx hb dX0_endsByRules_49 (by decide) ?_
            have hP9 := hP.sub (ws' := [(k0, .inr (0, [.ref g0, .ref e0, .ref f0, .int k3, .int k4, .int k5, .int k6, .int k7, .int k8, .int (nI tk), .int k10, .int (nI ll), .int (lmV lm)])), (e0, .inr (5, [.ref e1, .int (nI zz)]))]) [0, 1] rfl
            have hD9 := hD.sub (ws' := [(k0, .inr (0, [.ref g0, .ref e0, .ref f0, .int k3, .int k4, .int k5, .int k6, .int k7, .int k8, .int (nI tk), .int k10, .int (nI ll), .int (lmV lm)])), (e0, .inr (5, [.ref e1, .int (nI zz)]))]) [0, 1] (by decide) rfl
            exact W.zret (v := 0) hx hb hr (by decide) (fun t9 ht9 hW9 => ⟨⟨0, (), rfl, (Or.inr ⟨rfl, fun h => by rcases h.2 with h1 | h1 <;> omega⟩), by rw [ht9]; exact hP9, va_K.moved hW9.alike hK, hD9⟩, hS.F ht9⟩) hS.2.2 dX0_endsByRules_50
          · refine lv_iconst (v := 1) hx hb dX0_endsByRules_45 (by decide) ?_
            refine lv_goto (tgt := 50) hx hb dX0_endsByRules_46 (by decide) ?_
            have hP9 := hP.sub (ws' := [(k0, .inr (0, [.ref g0, .ref e0, .ref f0, .int k3, .int k4, .int k5, .int k6, .int k7, .int k8, .int (nI tk), .int k10, .int (nI ll), .int (lmV lm)])), (e0, .inr (5, [.ref e1, .int (nI zz)]))]) [0, 1] rfl
            have hD9 := hD.sub (ws' := [(k0, .inr (0, [.ref g0, .ref e0, .ref f0, .int k3, .int k4, .int k5, .int k6, .int k7, .int k8, .int (nI tk), .int k10, .int (nI ll), .int (lmV lm)])), (e0, .inr (5, [.ref e1, .int (nI zz)]))]) [0, 1] (by decide) rfl
            exact W.zret (v := 1) hx hb hr (by decide) (fun t9 ht9 hW9 => ⟨⟨1, (), rfl, (Or.inl ⟨rfl, by omega, Or.inr ⟨by omega, by omega⟩⟩), by rw [ht9]; exact hP9, va_K.moved hW9.alike hK, hD9⟩, hS.F ht9⟩) hS.2.2 dX0_endsByRules_50
  · refine lv_iconst (v := 0) hx hb dX0_endsByRules_10 (by decide) ?_
    have hP9 := hP.sub (ws' := [(k0, .inr (0, [.ref g0, .ref e0, .ref f0, .int k3, .int k4, .int k5, .int k6, .int k7, .int k8, .int (nI tk), .int k10, .int (nI ll), .int (lmV lm)])), (e0, .inr (5, [.ref e1, .int (nI zz)]))]) [0, 1] rfl
    have hD9 := hD.sub (ws' := [(k0, .inr (0, [.ref g0, .ref e0, .ref f0, .int k3, .int k4, .int k5, .int k6, .int k7, .int k8, .int (nI tk), .int k10, .int (nI ll), .int (lmV lm)])), (e0, .inr (5, [.ref e1, .int (nI zz)]))]) [0, 1] (by decide) rfl
    exact W.zret (v := 0) hx hb hr (by decide) (fun t9 ht9 hW9 => ⟨⟨0, (), rfl, (Or.inr ⟨rfl, fun h => by have := h.1; omega⟩), by rw [ht9]; exact hP9, va_K.moved hW9.alike hK, hD9⟩, hS.F ht9⟩) hS.2.2 dX0_endsByRules_11
