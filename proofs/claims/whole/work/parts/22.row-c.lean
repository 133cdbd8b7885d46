set_option maxHeartbeats 4000000 in
set_option maxRecDepth 100000 in
theorem c_Row_word (l : Launch) (dC : Nat → ClassId) (dI : Nat → Nat → Nat) (kB kI : ClassId) (a0 : Nat) (a1 : Nat) (cap : Nat) (n : Nat) (f : Nat → Int32) (i : Nat) (hn : n ≤ cap) (hc : cap ≤ 150000) (hi : i ≤ 150000) : zMi l yX5_word wsX5_word ({ frames := 0, cells := 0, slots := 0, locals := 0 }) (dC, dI) kB kI [.ref a0, .int (nI i)] [(a0, .inr (5, [.ref a1, .int (nI n)])), (a1, .inl (kB, cap, .inl f))] 0 0 (fun (r : Int32) => fun _ : Unit => r = wdG f n i) (fun _ : Unit => [(a0, .inr (5, [.ref a1, .int (nI n)])), (a1, .inl (kB, cap, .inl f))]) := by
  intro sz
  refine Met.ofW (cc := cX5_word) (maxL := 2) (ret := (some .int)) (by decide) rfl ?_
  intro p e s m args below meth c s₁ B hml hv
  obtain ⟨rfl, hsz, hP, hK, hD0⟩ := hv
  have hx := B.exec
  have hb := B.bytes
  have hr := B.returns
  have hts := atoms_spec (ws := wsX5_word) B.pre
  have hown : s.vm.findClass RX5 = some m.cls := findClass_of_methodNamed B.named
  have hlocks := B.notSynchronized
  subst hsz
  have hD := hD0.self (sz := s.heap.size)
  generalize hAe : va_A [(a0, .inr (5, [.ref a1, .int (nI n)])), (a1, .inl (kB, cap, .inl f))] s.heap.size = A at hD ⊢
  have hA : ∀ q : Nat, s.heap.size ≤ q → A q := fun q h => by rw [← hAe]; exact Or.inr h
  have hS : va_S A s.heap s.heap [] := va_S.rf
  have hP : va_P (dC, dI) vwCl [(a0, .inr (5, [.ref a1, .int (nI n)])), (a1, .inl (kB, cap, .inl f))] s.heap := hP
  have hl := lv_entry ([.ref a0, .int (nI i)]) (n := 2) (Nat.le_of_ble_eq_true rfl)
  rw [lg_entry_eq]
  generalize (lg_sl ([.ref a0, .int (nI i)]) ++ List.replicate (2 - (lg_sl ([.ref a0, .int (nI i)])).length) Slot.unset).toArray = ls at hl ⊢
  have hl : lv_has ls 2 [(0, .ref a0), (1, .int (nI i))] := hl
  refine zG (fun GG hG1 hG2 => ?_)
  refine lv_iload_n hx hb dX5_word_0 rfl (lv_at hl 1 rfl) ?_
  refine zb_if_lt (tgt := 14) (a := ((i : Nat) : Int)) hx hb dX5_word_1 (by decide) (nI_toInt (by omega)) (fun c1 => ?_) (fun c1 => ?_)
  · omega
  · refine lv_iload_n hx hb dX5_word_4 rfl (lv_at hl 1 rfl) ?_
    refine lv_aload_n hx hb dX5_word_5 rfl (lv_at hl 0 rfl) ?_
    refine va_get (D := (dC, dI)) (ci := 5) (v := .int (nI n)) (C := RX5) (T := TX5) (N := 2) hx hb hts (by decide +kernel) hown hK hP 0 rfl rfl 1 (by decide) (hts (.fieldLink RX5 21 "SequenceFrames$Row" "size" "I") (by decide +kernel)) (fun _ h9 => h9) rfl dX5_word_6 ?_
    refine lv_iconst (v := 4) hx hb dX5_word_9 (by decide) ?_
    refine lv_isub hx hb dX5_word_10 ?_
    refine zb_icmp_le (tgt := 16) (a := ((i : Nat) : Int)) (b := (((n : Nat) : Int) - 4)) hx hb dX5_word_11 (by decide) (nI_toInt (by omega)) (zi_sub (nI_toInt (by omega)) (by decide) (by omega) (by omega)) (fun c11 => ?_) (fun c11 => ?_)
    · refine lv_aload_n hx hb dX5_word_16 rfl (lv_at hl 0 rfl) ?_
      refine va_get (D := (dC, dI)) (ci := 5) (v := .ref a1) (C := RX5) (T := TX5) (N := 2) hx hb hts (by decide +kernel) hown hK hP 0 rfl rfl 0 (by decide) (hts (.fieldLink RX5 15 "SequenceFrames$Row" "bytes" "[B") (by decide +kernel)) (fun _ h9 => h9) rfl dX5_word_17 ?_
      refine lv_iload_n hx hb dX5_word_20 rfl (lv_at hl 1 rfl) ?_
      refine va_bald hx hb hK hP 1 0 rfl rfl (zin rfl (by omega) (by omega)) dX5_word_21 ?_
      refine lv_is (y := (f i)) (zld f rfl (by omega)) ?_
      refine lv_sipush (v := 255) hx hb dX5_word_22 (by decide) ?_
      refine lv_iand hx hb dX5_word_25 ?_
      refine lv_aload_n hx hb dX5_word_26 rfl (lv_at hl 0 rfl) ?_
      refine va_get (D := (dC, dI)) (ci := 5) (v := .ref a1) (C := RX5) (T := TX5) (N := 2) hx hb hts (by decide +kernel) hown hK hP 0 rfl rfl 0 (by decide) (hts (.fieldLink RX5 15 "SequenceFrames$Row" "bytes" "[B") (by decide +kernel)) (fun _ h9 => h9) rfl dX5_word_27 ?_
      refine lv_iload_n hx hb dX5_word_30 rfl (lv_at hl 1 rfl) ?_
      refine lv_iconst (v := 1) hx hb dX5_word_31 (by decide) ?_
      refine lv_iadd hx hb dX5_word_32 ?_
      refine lv_is (y := (nI (i + 1))) ((zn_add rfl rfl)) ?_
      refine va_bald hx hb hK hP 1 0 rfl rfl (zin rfl (by omega) (by omega)) dX5_word_33 ?_
      refine lv_is (y := (f (i + 1))) (zld f rfl (by omega)) ?_
      refine lv_sipush (v := 255) hx hb dX5_word_34 (by decide) ?_
      refine lv_iand hx hb dX5_word_37 ?_
      refine lv_bipush (v := 8) hx hb dX5_word_38 (by decide) ?_
      refine z_ishl hx hb dX5_word_40 ?_
      refine lv_ior hx hb dX5_word_41 ?_
      refine lv_aload_n hx hb dX5_word_42 rfl (lv_at hl 0 rfl) ?_
      refine va_get (D := (dC, dI)) (ci := 5) (v := .ref a1) (C := RX5) (T := TX5) (N := 2) hx hb hts (by decide +kernel) hown hK hP 0 rfl rfl 0 (by decide) (hts (.fieldLink RX5 15 "SequenceFrames$Row" "bytes" "[B") (by decide +kernel)) (fun _ h9 => h9) rfl dX5_word_43 ?_
      refine lv_iload_n hx hb dX5_word_46 rfl (lv_at hl 1 rfl) ?_
      refine lv_iconst (v := 2) hx hb dX5_word_47 (by decide) ?_
      refine lv_iadd hx hb dX5_word_48 ?_
      refine lv_is (y := (nI (i + 2))) ((zn_add rfl rfl)) ?_
      refine va_bald hx hb hK hP 1 0 rfl rfl (zin rfl (by omega) (by omega)) dX5_word_49 ?_
      refine lv_is (y := (f (i + 2))) (zld f rfl (by omega)) ?_
      refine lv_sipush (v := 255) hx hb dX5_word_50 (by decide) ?_
      refine lv_iand hx hb dX5_word_53 ?_
      refine lv_bipush (v := 16) hx hb dX5_word_54 (by decide) ?_
      refine z_ishl hx hb dX5_word_56 ?_
      refine lv_ior hx hb dX5_word_57 ?_
      refine lv_aload_n hx hb dX5_word_58 rfl (lv_at hl 0 rfl) ?_
      refine va_get (D := (dC, dI)) (ci := 5) (v := .ref a1) (C := RX5) (T := TX5) (N := 2) hx hb hts (by decide +kernel) hown hK hP 0 rfl rfl 0 (by decide) (hts (.fieldLink RX5 15 "SequenceFrames$Row" "bytes" "[B") (by decide +kernel)) (fun _ h9 => h9) rfl dX5_word_59 ?_
      refine lv_iload_n hx hb dX5_word_62 rfl (lv_at hl 1 rfl) ?_
      refine lv_iconst (v := 3) hx hb dX5_word_63 (by decide) ?_
      refine lv_iadd hx hb dX5_word_64 ?_
      refine lv_is (y := (nI (i + 3))) ((zn_add rfl rfl)) ?_
      refine va_bald hx hb hK hP 1 0 rfl rfl (zin rfl (by omega) (by omega)) dX5_word_65 ?_
      refine lv_is (y := (f (i + 3))) (zld f rfl (by omega)) ?_
      refine lv_sipush (v := 255) hx hb dX5_word_66 (by decide) ?_
      refine lv_iand hx hb dX5_word_69 ?_
      refine lv_bipush (v := 24) hx hb dX5_word_70 (by decide) ?_
      refine z_ishl hx hb dX5_word_72 ?_
      refine lv_ior hx hb dX5_word_73 ?_
      have hP9 := hP.sub (ws' := [(a0, .inr (5, [.ref a1, .int (nI n)])), (a1, .inl (kB, cap, .inl f))]) [0, 1] rfl
      have hD9 := hD.sub (ws' := [(a0, .inr (5, [.ref a1, .int (nI n)])), (a1, .inl (kB, cap, .inl f))]) [0, 1] (by decide) rfl
      exact W.iret (v := (((((f i) &&& 255) ||| (shl ((f (i + 1)) &&& 255) 8)) ||| (shl ((f (i + 2)) &&& 255) 16)) ||| (shl ((f (i + 3)) &&& 255) 24))) hx hb hr (fun t9 ht9 hW9 => ⟨⟨(((((f i) &&& 255) ||| (shl ((f (i + 1)) &&& 255) 8)) ||| (shl ((f (i + 2)) &&& 255) 16)) ||| (shl ((f (i + 3)) &&& 255) 24)), (), rfl, (by unfold wdG; rw [if_pos (by omega)]; rfl), by rw [ht9]; exact hP9, va_K.moved hW9.alike hK, hD9⟩, hS.F ht9⟩) hS.2.2 dX5_word_74
    · refine lv_iconst (v := 0) hx hb dX5_word_14 (by decide) ?_
      have hP9 := hP.sub (ws' := [(a0, .inr (5, [.ref a1, .int (nI n)])), (a1, .inl (kB, cap, .inl f))]) [0, 1] rfl
      have hD9 := hD.sub (ws' := [(a0, .inr (5, [.ref a1, .int (nI n)])), (a1, .inl (kB, cap, .inl f))]) [0, 1] (by decide) rfl
      exact W.iret (v := 0) hx hb hr (fun t9 ht9 hW9 => ⟨⟨0, (), rfl, (by unfold wdG; rw [if_neg (by omega)]), by rw [ht9]; exact hP9, va_K.moved hW9.alike hK, hD9⟩, hS.F ht9⟩) hS.2.2 dX5_word_15

set_option maxHeartbeats 4000000 in
set_option maxRecDepth 100000 in
theorem c_Row_numberAt (l : Launch) (dC : Nat → ClassId) (dI : Nat → Nat → Nat) (kB kI : ClassId) (a0 : Nat) (a1 : Nat) (cap : Nat) (n : Nat) (f : Nat → Int32) (i : Nat) (k : Nat) (hn : n ≤ cap) (hc : cap ≤ 150000) (hi : i + k ≤ n) (hk : k ≤ 8) : zMl l yX5_numberAt wsX5_numberAt ({ frames := 1, cells := 0, slots := 0, locals := 22 }) (dC, dI) kB kI [.ref a0, .int (nI i), .int (nI k)] [(a0, .inr (5, [.ref a1, .int (nI n)])), (a1, .inl (kB, cap, .inl f))] 0 0 (fun (r : Int64) => fun _ : Unit => r = numL f i k) (fun _ : Unit => [(a0, .inr (5, [.ref a1, .int (nI n)])), (a1, .inl (kB, cap, .inl f))]) := by
  intro sz
  refine Met.ofW (cc := cX5_numberAt) (maxL := 6) (ret := (some .long)) (by decide) rfl ?_
  intro p e s m args below meth c s₁ B hml hv
  obtain ⟨rfl, hsz, hP, hK, hD0⟩ := hv
  have hx := B.exec
  have hb := B.bytes
  have hr := B.returns
  have hts := atoms_spec (ws := wsX5_numberAt) B.pre
  have hown : s.vm.findClass RX5 = some m.cls := findClass_of_methodNamed B.named
  have hlocks := B.notSynchronized
  subst hsz
  have hD := hD0.self (sz := s.heap.size)
  generalize hAe : va_A [(a0, .inr (5, [.ref a1, .int (nI n)])), (a1, .inl (kB, cap, .inl f))] s.heap.size = A at hD ⊢
  have hA : ∀ q : Nat, s.heap.size ≤ q → A q := fun q h => by rw [← hAe]; exact Or.inr h
  have hS : va_S A s.heap s.heap [] := va_S.rf
  have hP : va_P (dC, dI) vwCl [(a0, .inr (5, [.ref a1, .int (nI n)])), (a1, .inl (kB, cap, .inl f))] s.heap := hP
  have hl := lv_entry ([.ref a0, .int (nI i), .int (nI k)]) (n := 6) (Nat.le_of_ble_eq_true rfl)
  rw [lg_entry_eq]
  generalize (lg_sl ([.ref a0, .int (nI i), .int (nI k)]) ++ List.replicate (6 - (lg_sl ([.ref a0, .int (nI i), .int (nI k)])).length) Slot.unset).toArray = ls at hl ⊢
  have hl : lv_has ls 6 [(0, .ref a0), (1, .int (nI i)), (2, .int (nI k))] := hl
  refine zG (fun GG hG1 hG2 => ?_)
  refine lv_lconst (v := 0) hx hb dX5_numberAt_0 (by decide) ?_
  refine lv_lstore_n (lv' := [(3, .long 0), (0, .ref a0), (1, .int (nI i)), (2, .int (nI k))]) hx hb dX5_numberAt_1 rfl hl (by decide) rfl (fun ls hl => ?_)
  refine lv_aload_n hx hb dX5_numberAt_2 rfl (lv_at hl 1 rfl) ?_
  refine lv_iload_n hx hb dX5_numberAt_3 rfl (lv_at hl 2 rfl) ?_
  refine lv_iload_n hx hb dX5_numberAt_4 rfl (lv_at hl 3 rfl) ?_
  refine z_calli (wr := []) (va_runV (As := [.int (nI i), .int (nI k)]) (rest := []) ⟨hx, hb, hml, hown, hts⟩ (c_Row_hasPiece l dC dI kB kI a0 a1 cap n f (nI i) ((i : Nat) : Int) (nI k) ((k : Nat) : Int) (by omega) (by omega) (nI_toInt (by omega)) (nI_toInt (by omega)) s.heap.size) (cwV 2 hts gX5_numberAt_X5_hasPiece rfl rfl rfl (by decide +kernel) ⟨Nat.le_of_ble_eq_true rfl, Nat.le_of_ble_eq_true rfl⟩) (z_preV hK (hP.sub [0, 1] rfl) (hD.sub [0, 1] (by decide) rfl) (va_recv hK hP (ci := 5) (q0 := 0) rfl rfl)) rfl rfl hl.1 rfl (lv_room (Nat.le_of_ble_eq_true rfl)) dX5_numberAt_5 ⟨Nat.le_of_ble_eq_true rfl, Nat.le_of_ble_eq_true rfl⟩) hK hP hD hS hA [0, 1] [] rfl rfl (by decide) (by decide) (fun r1 u2 H locs hw hP hD hS => ?_)
  have hw : (r1 = 1 ∧ 0 ≤ ((i : Nat) : Int) ∧ 0 ≤ ((k : Nat) : Int) ∧ ((i : Nat) : Int) + ((k : Nat) : Int) ≤ n) ∨ (r1 = 0 ∧ (((i : Nat) : Int) < 0 ∨ ((k : Nat) : Int) < 0 ∨ (n : Int) < ((i : Nat) : Int) + ((k : Nat) : Int))) := hw
  have hP : va_P (dC, dI) vwCl [(a0, .inr (5, [.ref a1, .int (nI n)])), (a1, .inl (kB, cap, .inl f))] H := hP
  have hD : va_D A [(a0, .inr (5, [.ref a1, .int (nI n)])), (a1, .inl (kB, cap, .inl f))] := hD
  rcases hw with ⟨r1e, hw⟩ | ⟨r1e, hw⟩ <;> subst r1e
  · refine lv_if_eq (tgt := 49) hx hb dX5_numberAt_8 (by decide) (fun c => absurd c (by decide)) (fun _ => ?_)
    refine lv_iconst (v := 0) hx hb dX5_numberAt_11 (by decide) ?_
    refine lv_istore (lv' := [(5, .int 0), (3, .long 0), (0, .ref a0), (1, .int (nI i)), (2, .int (nI k))]) hx hb dX5_numberAt_12 hl (by decide) rfl (fun ls hl => ?_)
    have lp : ∀ (kf : Nat) (t : Nat) (ht : t ≤ k), k - t < kf → ∀ (H : Heap) (locs : List Loc), va_P (dC, dI) vwCl [(a0, .inr (5, [.ref a1, .int (nI n)])), (a1, .inl (kB, cap, .inl f))] H → va_D A [(a0, .inr (5, [.ref a1, .int (nI n)])), (a1, .inl (kB, cap, .inl f))] → va_S A s.heap H locs → ∀ (ls : Array Slot), lv_has ls 6 [(0, .ref a0), (1, .int (nI i)), (2, .int (nI k)), (3, .long (numL f i t)), (5, .int (nI t))] → GG H locs (F0 m 14 ls []) := by
      intro kf
      induction kf with
      | zero => intro t ht hm; exact absurd hm (Nat.not_lt_zero _)
      | succ kf ih =>
        intro t ht hm H locs hP hD hS ls hl
        apply hG1
        refine lv_iload hx hb dX5_numberAt_14 (lv_at hl 4 rfl) ?_
        refine lv_iload_n hx hb dX5_numberAt_16 rfl (lv_at hl 2 rfl) ?_
        refine zb_icmp_ge (tgt := 49) (a := ((t : Nat) : Int)) (b := ((k : Nat) : Int)) hx hb dX5_numberAt_17 (by decide) (nI_toInt (by omega)) (nI_toInt (by omega)) (fun c17 => ?_) (fun c17 => ?_)
        · have et9 : k = t := by omega
          subst et9
          refine lv_lload_n hx hb dX5_numberAt_49 rfl (lv_at hl 3 rfl) ?_
          have hP9 := hP.sub (ws' := [(a0, .inr (5, [.ref a1, .int (nI n)])), (a1, .inl (kB, cap, .inl f))]) [0, 1] rfl
          have hD9 := hD.sub (ws' := [(a0, .inr (5, [.ref a1, .int (nI n)])), (a1, .inl (kB, cap, .inl f))]) [0, 1] (by decide) rfl
          exact W.lret (v := (numL f i k)) hx hb hr (fun t9 ht9 hW9 => ⟨⟨(numL f i k), (), rfl, rfl, by rw [ht9]; exact hP9, va_K.moved hW9.alike hK, hD9⟩, hS.F ht9⟩) hS.2.2 dX5_numberAt_50
        · refine lv_lload_n hx hb dX5_numberAt_20 rfl (lv_at hl 3 rfl) ?_
          refine lv_aload_n hx hb dX5_numberAt_21 rfl (lv_at hl 0 rfl) ?_
          refine va_get (D := (dC, dI)) (ci := 5) (v := .ref a1) (C := RX5) (T := TX5) (N := 2) hx hb hts (by decide +kernel) hown hK hP 0 rfl rfl 0 (by decide) (hts (.fieldLink RX5 15 "SequenceFrames$Row" "bytes" "[B") (by decide +kernel)) (fun _ h9 => h9) rfl dX5_numberAt_22 ?_
          refine lv_iload_n hx hb dX5_numberAt_25 rfl (lv_at hl 1 rfl) ?_
          refine lv_iload hx hb dX5_numberAt_26 (lv_at hl 4 rfl) ?_
          refine lv_iadd hx hb dX5_numberAt_28 ?_
          refine lv_is (y := (nI (i + t))) ((zn_add rfl rfl)) ?_
          refine va_bald hx hb hK hP 1 0 rfl rfl (zin rfl (by omega) (by omega)) dX5_numberAt_29 ?_
          refine lv_is (y := (f (i + t))) (zld f rfl (by omega)) ?_
          refine lv_i2l (v := ((f (i + t)).toInt64)) hx hb dX5_numberAt_30 rfl ?_
          refine lv_ldc2 (v := 255) hx hb hown (hts (.constantLong RX5 47 255) (by decide +kernel)) dX5_numberAt_31 ?_
          refine lv_land hx hb dX5_numberAt_34 ?_
          refine lv_bipush (v := 8) hx hb dX5_numberAt_35 (by decide) ?_
          refine lv_iload hx hb dX5_numberAt_37 (lv_at hl 4 rfl) ?_
          refine lv_imul hx hb dX5_numberAt_39 ?_
          refine lv_is (y := (nI (8 * t))) ((zn_mul rfl rfl)) ?_
          refine lv_lshl (v := (lshl (((f (i + t)).toInt64) &&& 255) (nI (8 * t)))) hx hb dX5_numberAt_40 rfl ?_
          refine lv_lor hx hb dX5_numberAt_41 ?_
          refine lv_lstore_n (lv' := [(3, .long ((numL f i t) ||| (lshl (((f (i + t)).toInt64) &&& 255) (nI (8 * t))))), (0, .ref a0), (1, .int (nI i)), (2, .int (nI k)), (5, .int (nI t))]) hx hb dX5_numberAt_42 rfl hl (by decide) rfl (fun ls hl => ?_)
          refine lv_iinc (v := (nI (t + 1))) (lv' := [(5, .int (nI (t + 1))), (3, .long ((numL f i t) ||| (lshl (((f (i + t)).toInt64) &&& 255) (nI (8 * t))))), (0, .ref a0), (1, .int (nI i)), (2, .int (nI k))]) hx hb dX5_numberAt_43 hl (k := 4) rfl (zn_inc t 1 (by decide)) (by decide) rfl (fun ls hl => ?_)
          refine lv_goto (tgt := 14) hx hb dX5_numberAt_46 (by decide) ?_
          exact hG2 _ _ _ (ih (t + 1) (by omega) (by omega) _ _ (hP.sub [0, 1] rfl) (hD.sub [0, 1] (by decide) rfl) hS ls (lv_sub hl [2, 3, 4, 1, 0] rfl))
    exact hG2 _ _ _ (lp (k - 0 + 1) 0 (by omega) (Nat.lt_succ_self _) _ _ (hP.sub [0, 1] rfl) (hD.sub [0, 1] (by decide) rfl) hS ls (lv_sub hl [2, 3, 4, 1, 0] rfl))
  · omega

set_option maxHeartbeats 4000000 in
set_option maxRecDepth 100000 in
theorem c_Row_withWord (l : Launch) (dC : Nat → ClassId) (dI : Nat → Nat → Nat) (kB kI : ClassId) (x : Int32) (y : Int32)  : zMi l yX5_withWord wsX5_withWord ({ frames := 0, cells := 0, slots := 0, locals := 0 }) (dC, dI) kB kI [.int x, .int y] [] 0 0 (fun (r : Int32) => fun _ : Unit => r = rndF x y) (fun _ : Unit => []) := by
  intro sz
  refine Met.ofW (cc := cX5_withWord) (maxL := 3) (ret := (some .int)) (by decide) rfl ?_
  intro p e s m args below meth c s₁ B hml hv
  obtain ⟨rfl, hsz, hP, hK, hD0⟩ := hv
  have hx := B.exec
  have hb := B.bytes
  have hr := B.returns
  have hts := atoms_spec (ws := wsX5_withWord) B.pre
  have hown : s.vm.findClass RX5 = some m.cls := findClass_of_methodNamed B.named
  have hlocks := B.notSynchronized
  subst hsz
  have hD := hD0.self (sz := s.heap.size)
  generalize hAe : va_A [] s.heap.size = A at hD ⊢
  have hA : ∀ q : Nat, s.heap.size ≤ q → A q := fun q h => by rw [← hAe]; exact Or.inr h
  have hS : va_S A s.heap s.heap [] := va_S.rf
  have hP : va_P (dC, dI) vwCl [] s.heap := hP
  have hl := lv_entry ([.int x, .int y]) (n := 3) (Nat.le_of_ble_eq_true rfl)
  rw [lg_entry_eq]
  generalize (lg_sl ([.int x, .int y]) ++ List.replicate (3 - (lg_sl ([.int x, .int y])).length) Slot.unset).toArray = ls at hl ⊢
  have hl : lv_has ls 3 [(0, .int x), (1, .int y)] := hl
  refine zG (fun GG hG1 hG2 => ?_)
  refine lv_iload_n hx hb dX5_withWord_0 rfl (lv_at hl 0 rfl) ?_
  refine lv_ldc (v := (-2048144777)) hx hb hown (hts (.constant RX5 60 (-2048144777)) (by decide +kernel)) dX5_withWord_1 ?_
  refine lv_iload_n hx hb dX5_withWord_3 rfl (lv_at hl 1 rfl) ?_
  refine lv_imul hx hb dX5_withWord_4 ?_
  refine lv_iadd hx hb dX5_withWord_5 ?_
  refine lv_istore_n (lv' := [(2, .int (x + ((-2048144777) * y))), (0, .int x), (1, .int y)]) hx hb dX5_withWord_6 rfl hl (by decide) rfl (fun ls hl => ?_)
  refine lv_iload_n hx hb dX5_withWord_7 rfl (lv_at hl 0 rfl) ?_
  refine lv_bipush (v := 13) hx hb dX5_withWord_8 (by decide) ?_
  refine z_ishl hx hb dX5_withWord_10 ?_
  refine lv_iload_n hx hb dX5_withWord_11 rfl (lv_at hl 0 rfl) ?_
  refine lv_bipush (v := 19) hx hb dX5_withWord_12 (by decide) ?_
  refine lv_iushr (v := (ushr (x + ((-2048144777) * y)) 19)) hx hb dX5_withWord_14 rfl ?_
  refine lv_ior hx hb dX5_withWord_15 ?_
  refine lv_ldc (v := (-1640531535)) hx hb hown (hts (.constant RX5 59 (-1640531535)) (by decide +kernel)) dX5_withWord_16 ?_
  refine lv_imul hx hb dX5_withWord_18 ?_
  have hP9 := hP.sub (ws' := []) [] rfl
  have hD9 := hD.sub (ws' := []) [] (by decide) rfl
  exact W.iret (v := (((shl (x + ((-2048144777) * y)) 13) ||| (ushr (x + ((-2048144777) * y)) 19)) * (-1640531535))) hx hb hr (fun t9 ht9 hW9 => ⟨⟨(((shl (x + ((-2048144777) * y)) 13) ||| (ushr (x + ((-2048144777) * y)) 19)) * (-1640531535)), (), rfl, rfl, by rw [ht9]; exact hP9, va_K.moved hW9.alike hK, hD9⟩, hS.F ht9⟩) hS.2.2 dX5_withWord_19

set_option maxHeartbeats 4000000 in
set_option maxRecDepth 100000 in
theorem c_Row_sixteens (l : Launch) (dC : Nat → ClassId) (dI : Nat → Nat → Nat) (kB kI : ClassId) (a0 : Nat) (a1 : Nat) (cap : Nat) (n : Nat) (f : Nat → Int32) (i : Nat) (q : Nat) (sd : Int32) (ee : Nat) (hn : n ≤ cap) (hc : cap ≤ 150000) (he : ee = i + 16 * q) (hq : ee ≤ n) : zMi l yX5_sixteens wsX5_sixteens ({ frames := 1, cells := 0, slots := 0, locals := 22 }) (dC, dI) kB kI [.ref a0, .int (nI i), .int (nI ee), .int sd] [(a0, .inr (5, [.ref a1, .int (nI n)])), (a1, .inl (kB, cap, .inl f))] 0 0 (fun (r : Int32) => fun _ : Unit => r = sixF (six f i sd q)) (fun _ : Unit => [(a0, .inr (5, [.ref a1, .int (nI n)])), (a1, .inl (kB, cap, .inl f))]) := by
  intro sz
  refine Met.ofW (cc := cX5_sixteens) (maxL := 9) (ret := (some .int)) (by decide) rfl ?_
  intro p e s m args below meth c s₁ B hml hv
  obtain ⟨rfl, hsz, hP, hK, hD0⟩ := hv
  have hx := B.exec
  have hb := B.bytes
  have hr := B.returns
  have hts := atoms_spec (ws := wsX5_sixteens) B.pre
  have hown : s.vm.findClass RX5 = some m.cls := findClass_of_methodNamed B.named
  have hlocks := B.notSynchronized
  subst hsz
  have hD := hD0.self (sz := s.heap.size)
  generalize hAe : va_A [(a0, .inr (5, [.ref a1, .int (nI n)])), (a1, .inl (kB, cap, .inl f))] s.heap.size = A at hD ⊢
  have hA : ∀ q : Nat, s.heap.size ≤ q → A q := fun q h => by rw [← hAe]; exact Or.inr h
  have hS : va_S A s.heap s.heap [] := va_S.rf
  have hP : va_P (dC, dI) vwCl [(a0, .inr (5, [.ref a1, .int (nI n)])), (a1, .inl (kB, cap, .inl f))] s.heap := hP
  have hl := lv_entry ([.ref a0, .int (nI i), .int (nI ee), .int sd]) (n := 9) (Nat.le_of_ble_eq_true rfl)
  rw [lg_entry_eq]
  generalize (lg_sl ([.ref a0, .int (nI i), .int (nI ee), .int sd]) ++ List.replicate (9 - (lg_sl ([.ref a0, .int (nI i), .int (nI ee), .int sd])).length) Slot.unset).toArray = ls at hl ⊢
  have hl : lv_has ls 9 [(0, .ref a0), (1, .int (nI i)), (2, .int (nI ee)), (3, .int sd)] := hl
  refine zG (fun GG hG1 hG2 => ?_)
  refine lv_iload_n hx hb dX5_sixteens_0 rfl (lv_at hl 3 rfl) ?_
  refine lv_ldc (v := (-1640531535)) hx hb hown (hts (.constant RX5 59 (-1640531535)) (by decide +kernel)) dX5_sixteens_1 ?_
  refine lv_iadd hx hb dX5_sixteens_3 ?_
  refine lv_ldc (v := (-2048144777)) hx hb hown (hts (.constant RX5 60 (-2048144777)) (by decide +kernel)) dX5_sixteens_4 ?_
  refine lv_iadd hx hb dX5_sixteens_6 ?_
  refine lv_istore (lv' := [(4, .int ((sd + (-1640531535)) + (-2048144777))), (0, .ref a0), (1, .int (nI i)), (2, .int (nI ee)), (3, .int sd)]) hx hb dX5_sixteens_7 hl (by decide) rfl (fun ls hl => ?_)
  refine lv_iload_n hx hb dX5_sixteens_9 rfl (lv_at hl 4 rfl) ?_
  refine lv_ldc (v := (-2048144777)) hx hb hown (hts (.constant RX5 60 (-2048144777)) (by decide +kernel)) dX5_sixteens_10 ?_
  refine lv_iadd hx hb dX5_sixteens_12 ?_
  refine lv_istore (lv' := [(5, .int (sd + (-2048144777))), (4, .int ((sd + (-1640531535)) + (-2048144777))), (0, .ref a0), (1, .int (nI i)), (2, .int (nI ee)), (3, .int sd)]) hx hb dX5_sixteens_13 hl (by decide) rfl (fun ls hl => ?_)
  refine lv_iload_n hx hb dX5_sixteens_15 rfl (lv_at hl 5 rfl) ?_
  refine lv_istore (lv' := [(6, .int sd), (5, .int (sd + (-2048144777))), (4, .int ((sd + (-1640531535)) + (-2048144777))), (0, .ref a0), (1, .int (nI i)), (2, .int (nI ee)), (3, .int sd)]) hx hb dX5_sixteens_16 hl (by decide) rfl (fun ls hl => ?_)
  refine lv_iload_n hx hb dX5_sixteens_18 rfl (lv_at hl 6 rfl) ?_
  refine lv_ldc (v := (-1640531535)) hx hb hown (hts (.constant RX5 59 (-1640531535)) (by decide +kernel)) dX5_sixteens_19 ?_
  refine lv_isub hx hb dX5_sixteens_21 ?_
  refine lv_istore (lv' := [(7, .int (sd - (-1640531535))), (6, .int sd), (5, .int (sd + (-2048144777))), (4, .int ((sd + (-1640531535)) + (-2048144777))), (0, .ref a0), (1, .int (nI i)), (2, .int (nI ee)), (3, .int sd)]) hx hb dX5_sixteens_22 hl (by decide) rfl (fun ls hl => ?_)
  refine lv_iload_n hx hb dX5_sixteens_24 rfl (lv_at hl 5 rfl) ?_
  refine lv_istore (lv' := [(8, .int (nI i)), (7, .int (sd - (-1640531535))), (6, .int sd), (5, .int (sd + (-2048144777))), (4, .int ((sd + (-1640531535)) + (-2048144777))), (0, .ref a0), (1, .int (nI i)), (2, .int (nI ee)), (3, .int sd)]) hx hb dX5_sixteens_25 hl (by decide) rfl (fun ls hl => ?_)
  have lp : ∀ (kf : Nat) (t : Nat) (ht : t ≤ q), q - t < kf → ∀ (H : Heap) (locs : List Loc), va_P (dC, dI) vwCl [(a0, .inr (5, [.ref a1, .int (nI n)])), (a1, .inl (kB, cap, .inl f))] H → va_D A [(a0, .inr (5, [.ref a1, .int (nI n)])), (a1, .inl (kB, cap, .inl f))] → va_S A s.heap H locs → ∀ (ls : Array Slot), lv_has ls 9 [(0, .ref a0), (1, .int (nI i)), (2, .int (nI ee)), (4, .int ((six f i sd t).1)), (5, .int ((six f i sd t).2.1)), (6, .int ((six f i sd t).2.2.1)), (7, .int ((six f i sd t).2.2.2)), (8, .int (nI (i + 16 * t)))] → GG H locs (F0 m 27 ls []) := by
    intro kf
    induction kf with
    | zero => intro t ht hm; exact absurd hm (Nat.not_lt_zero _)
    | succ kf ih =>
      intro t ht hm H locs hP hD hS ls hl
      apply hG1
      refine lv_iload hx hb dX5_sixteens_27 (lv_at hl 7 rfl) ?_
      refine lv_iload_n hx hb dX5_sixteens_29 rfl (lv_at hl 2 rfl) ?_
      refine zb_icmp_ge (tgt := 99) (a := ((i + 16 * t : Nat) : Int)) (b := ((ee : Nat) : Int)) hx hb dX5_sixteens_30 (by decide) (nI_toInt (by omega)) (nI_toInt (by omega)) (fun c30 => ?_) (fun c30 => ?_)
      · have et9 : q = t := by omega
        subst et9
        refine lv_iload hx hb dX5_sixteens_99 (lv_at hl 3 rfl) ?_
        refine lv_iconst (v := 1) hx hb dX5_sixteens_101 (by decide) ?_
        refine z_ishl hx hb dX5_sixteens_102 ?_
        refine lv_iload hx hb dX5_sixteens_103 (lv_at hl 3 rfl) ?_
        refine lv_bipush (v := 31) hx hb dX5_sixteens_105 (by decide) ?_
        refine lv_iushr (v := (ushr ((six f i sd q).1) 31)) hx hb dX5_sixteens_107 rfl ?_
        refine lv_ior hx hb dX5_sixteens_108 ?_
        refine lv_iload hx hb dX5_sixteens_109 (lv_at hl 4 rfl) ?_
        refine lv_bipush (v := 7) hx hb dX5_sixteens_111 (by decide) ?_
        refine z_ishl hx hb dX5_sixteens_113 ?_
        refine lv_iload hx hb dX5_sixteens_114 (lv_at hl 4 rfl) ?_
        refine lv_bipush (v := 25) hx hb dX5_sixteens_116 (by decide) ?_
        refine lv_iushr (v := (ushr ((six f i sd q).2.1) 25)) hx hb dX5_sixteens_118 rfl ?_
        refine lv_ior hx hb dX5_sixteens_119 ?_
        refine lv_iadd hx hb dX5_sixteens_120 ?_
        refine lv_iload hx hb dX5_sixteens_121 (lv_at hl 5 rfl) ?_
        refine lv_bipush (v := 12) hx hb dX5_sixteens_123 (by decide) ?_
        refine z_ishl hx hb dX5_sixteens_125 ?_
        refine lv_iload hx hb dX5_sixteens_126 (lv_at hl 5 rfl) ?_
        refine lv_bipush (v := 20) hx hb dX5_sixteens_128 (by decide) ?_
        refine lv_iushr (v := (ushr ((six f i sd q).2.2.1) 20)) hx hb dX5_sixteens_130 rfl ?_
        refine lv_ior hx hb dX5_sixteens_131 ?_
        refine lv_iadd hx hb dX5_sixteens_132 ?_
        refine lv_iload hx hb dX5_sixteens_133 (lv_at hl 6 rfl) ?_
        refine lv_bipush (v := 18) hx hb dX5_sixteens_135 (by decide) ?_
        refine z_ishl hx hb dX5_sixteens_137 ?_
        refine lv_iload hx hb dX5_sixteens_138 (lv_at hl 6 rfl) ?_
        refine lv_bipush (v := 14) hx hb dX5_sixteens_140 (by decide) ?_
        refine lv_iushr (v := (ushr ((six f i sd q).2.2.2) 14)) hx hb dX5_sixteens_142 rfl ?_
        refine lv_ior hx hb dX5_sixteens_143 ?_
        refine lv_iadd hx hb dX5_sixteens_144 ?_
        have hP9 := hP.sub (ws' := [(a0, .inr (5, [.ref a1, .int (nI n)])), (a1, .inl (kB, cap, .inl f))]) [0, 1] rfl
        have hD9 := hD.sub (ws' := [(a0, .inr (5, [.ref a1, .int (nI n)])), (a1, .inl (kB, cap, .inl f))]) [0, 1] (by decide) rfl
        exact W.iret (v := (((((shl ((six f i sd q).1) 1) ||| (ushr ((six f i sd q).1) 31)) + ((shl ((six f i sd q).2.1) 7) ||| (ushr ((six f i sd q).2.1) 25))) + ((shl ((six f i sd q).2.2.1) 12) ||| (ushr ((six f i sd q).2.2.1) 20))) + ((shl ((six f i sd q).2.2.2) 18) ||| (ushr ((six f i sd q).2.2.2) 14)))) hx hb hr (fun t9 ht9 hW9 => ⟨⟨(((((shl ((six f i sd q).1) 1) ||| (ushr ((six f i sd q).1) 31)) + ((shl ((six f i sd q).2.1) 7) ||| (ushr ((six f i sd q).2.1) 25))) + ((shl ((six f i sd q).2.2.1) 12) ||| (ushr ((six f i sd q).2.2.1) 20))) + ((shl ((six f i sd q).2.2.2) 18) ||| (ushr ((six f i sd q).2.2.2) 14))), (), rfl, rfl, by rw [ht9]; exact hP9, va_K.moved hW9.alike hK, hD9⟩, hS.F ht9⟩) hS.2.2 dX5_sixteens_145
      · refine lv_iload hx hb dX5_sixteens_33 (lv_at hl 3 rfl) ?_
        refine lv_aload_n hx hb dX5_sixteens_35 rfl (lv_at hl 0 rfl) ?_
        refine lv_iload hx hb dX5_sixteens_36 (lv_at hl 7 rfl) ?_
        refine z_calli (wr := []) (va_runV (As := [.int (nI (i + 16 * t))]) (rest := [.int ((six f i sd t).1)]) ⟨hx, hb, hml, hown, hts⟩ (c_Row_word l dC dI kB kI a0 a1 cap n f (i + 16 * t) (by omega) (by omega) (by omega) H.size) (cwV 1 hts gX5_sixteens_X5_word rfl rfl rfl (by decide +kernel) ⟨Nat.le_of_ble_eq_true rfl, Nat.le_of_ble_eq_true rfl⟩) (z_preV hK (hP.sub [0, 1] rfl) (hD.sub [0, 1] (by decide) rfl) (va_recv hK hP (ci := 5) (q0 := 0) rfl rfl)) rfl rfl hl.1 rfl (lv_room (Nat.le_of_ble_eq_true rfl)) dX5_sixteens_38 ⟨Nat.le_of_ble_eq_true rfl, Nat.le_of_ble_eq_true rfl⟩) hK hP hD hS hA [0, 1] [] rfl rfl (by decide) (by decide) (fun r1 u2 H locs hw hP hD hS => ?_)
        have hw : r1 = wdG f n (i + 16 * t) := hw
        have hP : va_P (dC, dI) vwCl [(a0, .inr (5, [.ref a1, .int (nI n)])), (a1, .inl (kB, cap, .inl f))] H := hP
        have hD : va_D A [(a0, .inr (5, [.ref a1, .int (nI n)])), (a1, .inl (kB, cap, .inl f))] := hD
        unfold wdG at hw; rw [if_pos (by omega)] at hw; subst hw
        refine z_calli (wr := [(a0, .inr (5, [.ref a1, .int (nI n)])), (a1, .inl (kB, cap, .inl f))]) (va_runS (As := [.int ((six f i sd t).1), .int (wd f (i + 16 * t))]) (rest := []) ⟨hx, hb, hml, hown, hts⟩ (c_Row_withWord l dC dI kB kI ((six f i sd t).1) (wd f (i + 16 * t))  H.size) (va_cwS 2 hts gX5_sixteens_X5_withWord rfl rfl rfl (by decide +kernel) ⟨Nat.le_of_ble_eq_true rfl, Nat.le_of_ble_eq_true rfl⟩) (z_preS hK (hP.sub [] rfl) (hD.sub [] (by decide) rfl)) rfl rfl hl.1 rfl (lv_room (Nat.le_of_ble_eq_true rfl)) dX5_sixteens_41 ⟨Nat.le_of_ble_eq_true rfl, Nat.le_of_ble_eq_true rfl⟩) hK hP hD hS hA [] [0, 1] rfl rfl (by decide) (by decide) (fun r3 u4 H locs hw hP hD hS => ?_)
        have hw : r3 = rndF ((six f i sd t).1) (wd f (i + 16 * t)) := hw
        have hP : va_P (dC, dI) vwCl [(a0, .inr (5, [.ref a1, .int (nI n)])), (a1, .inl (kB, cap, .inl f))] H := hP
        have hD : va_D A [(a0, .inr (5, [.ref a1, .int (nI n)])), (a1, .inl (kB, cap, .inl f))] := hD
        subst hw
        refine lv_istore (lv' := [(4, .int (rndF ((six f i sd t).1) (wd f (i + 16 * t)))), (0, .ref a0), (1, .int (nI i)), (2, .int (nI ee)), (5, .int ((six f i sd t).2.1)), (6, .int ((six f i sd t).2.2.1)), (7, .int ((six f i sd t).2.2.2)), (8, .int (nI (i + 16 * t)))]) hx hb dX5_sixteens_44 hl (by decide) rfl (fun ls hl => ?_)
        refine lv_iload hx hb dX5_sixteens_46 (lv_at hl 4 rfl) ?_
        refine lv_aload_n hx hb dX5_sixteens_48 rfl (lv_at hl 1 rfl) ?_
        refine lv_iload hx hb dX5_sixteens_49 (lv_at hl 7 rfl) ?_
        refine lv_iconst (v := 4) hx hb dX5_sixteens_51 (by decide) ?_
        refine lv_iadd hx hb dX5_sixteens_52 ?_
        refine lv_is (y := (nI ((i + 16 * t) + 4))) ((zn_add rfl rfl)) ?_
        refine z_calli (wr := []) (va_runV (As := [.int (nI ((i + 16 * t) + 4))]) (rest := [.int ((six f i sd t).2.1)]) ⟨hx, hb, hml, hown, hts⟩ (c_Row_word l dC dI kB kI a0 a1 cap n f ((i + 16 * t) + 4) (by omega) (by omega) (by omega) H.size) (cwV 1 hts gX5_sixteens_X5_word rfl rfl rfl (by decide +kernel) ⟨Nat.le_of_ble_eq_true rfl, Nat.le_of_ble_eq_true rfl⟩) (z_preV hK (hP.sub [0, 1] rfl) (hD.sub [0, 1] (by decide) rfl) (va_recv hK hP (ci := 5) (q0 := 0) rfl rfl)) rfl rfl hl.1 rfl (lv_room (Nat.le_of_ble_eq_true rfl)) dX5_sixteens_53 ⟨Nat.le_of_ble_eq_true rfl, Nat.le_of_ble_eq_true rfl⟩) hK hP hD hS hA [0, 1] [] rfl rfl (by decide) (by decide) (fun r5 u6 H locs hw hP hD hS => ?_)
        have hw : r5 = wdG f n ((i + 16 * t) + 4) := hw
        have hP : va_P (dC, dI) vwCl [(a0, .inr (5, [.ref a1, .int (nI n)])), (a1, .inl (kB, cap, .inl f))] H := hP
        have hD : va_D A [(a0, .inr (5, [.ref a1, .int (nI n)])), (a1, .inl (kB, cap, .inl f))] := hD
        unfold wdG at hw; rw [if_pos (by omega)] at hw; subst hw
        refine z_calli (wr := [(a0, .inr (5, [.ref a1, .int (nI n)])), (a1, .inl (kB, cap, .inl f))]) (va_runS (As := [.int ((six f i sd t).2.1), .int (wd f (i + 16 * t + 4))]) (rest := []) ⟨hx, hb, hml, hown, hts⟩ (c_Row_withWord l dC dI kB kI ((six f i sd t).2.1) (wd f (i + 16 * t + 4))  H.size) (va_cwS 2 hts gX5_sixteens_X5_withWord rfl rfl rfl (by decide +kernel) ⟨Nat.le_of_ble_eq_true rfl, Nat.le_of_ble_eq_true rfl⟩) (z_preS hK (hP.sub [] rfl) (hD.sub [] (by decide) rfl)) rfl rfl hl.1 rfl (lv_room (Nat.le_of_ble_eq_true rfl)) dX5_sixteens_56 ⟨Nat.le_of_ble_eq_true rfl, Nat.le_of_ble_eq_true rfl⟩) hK hP hD hS hA [] [0, 1] rfl rfl (by decide) (by decide) (fun r7 u8 H locs hw hP hD hS => ?_)
        have hw : r7 = rndF ((six f i sd t).2.1) (wd f (i + 16 * t + 4)) := hw
        have hP : va_P (dC, dI) vwCl [(a0, .inr (5, [.ref a1, .int (nI n)])), (a1, .inl (kB, cap, .inl f))] H := hP
        have hD : va_D A [(a0, .inr (5, [.ref a1, .int (nI n)])), (a1, .inl (kB, cap, .inl f))] := hD
        subst hw
        refine lv_istore (lv' := [(5, .int (rndF ((six f i sd t).2.1) (wd f (i + 16 * t + 4)))), (4, .int (rndF ((six f i sd t).1) (wd f (i + 16 * t)))), (0, .ref a0), (1, .int (nI i)), (2, .int (nI ee)), (6, .int ((six f i sd t).2.2.1)), (7, .int ((six f i sd t).2.2.2)), (8, .int (nI (i + 16 * t)))]) hx hb dX5_sixteens_59 hl (by decide) rfl (fun ls hl => ?_)
        refine lv_iload hx hb dX5_sixteens_61 (lv_at hl 5 rfl) ?_
        refine lv_aload_n hx hb dX5_sixteens_63 rfl (lv_at hl 2 rfl) ?_
        refine lv_iload hx hb dX5_sixteens_64 (lv_at hl 7 rfl) ?_
        refine lv_bipush (v := 8) hx hb dX5_sixteens_66 (by decide) ?_
        refine lv_iadd hx hb dX5_sixteens_68 ?_
        refine lv_is (y := (nI ((i + 16 * t) + 8))) ((zn_add rfl rfl)) ?_
        refine z_calli (wr := []) (va_runV (As := [.int (nI ((i + 16 * t) + 8))]) (rest := [.int ((six f i sd t).2.2.1)]) ⟨hx, hb, hml, hown, hts⟩ (c_Row_word l dC dI kB kI a0 a1 cap n f ((i + 16 * t) + 8) (by omega) (by omega) (by omega) H.size) (cwV 1 hts gX5_sixteens_X5_word rfl rfl rfl (by decide +kernel) ⟨Nat.le_of_ble_eq_true rfl, Nat.le_of_ble_eq_true rfl⟩) (z_preV hK (hP.sub [0, 1] rfl) (hD.sub [0, 1] (by decide) rfl) (va_recv hK hP (ci := 5) (q0 := 0) rfl rfl)) rfl rfl hl.1 rfl (lv_room (Nat.le_of_ble_eq_true rfl)) dX5_sixteens_69 ⟨Nat.le_of_ble_eq_true rfl, Nat.le_of_ble_eq_true rfl⟩) hK hP hD hS hA [0, 1] [] rfl rfl (by decide) (by decide) (fun r9 u10 H locs hw hP hD hS => ?_)
        have hw : r9 = wdG f n ((i + 16 * t) + 8) := hw
        have hP : va_P (dC, dI) vwCl [(a0, .inr (5, [.ref a1, .int (nI n)])), (a1, .inl (kB, cap, .inl f))] H := hP
        have hD : va_D A [(a0, .inr (5, [.ref a1, .int (nI n)])), (a1, .inl (kB, cap, .inl f))] := hD
        unfold wdG at hw; rw [if_pos (by omega)] at hw; subst hw
        refine z_calli (wr := [(a0, .inr (5, [.ref a1, .int (nI n)])), (a1, .inl (kB, cap, .inl f))]) (va_runS (As := [.int ((six f i sd t).2.2.1), .int (wd f (i + 16 * t + 8))]) (rest := []) ⟨hx, hb, hml, hown, hts⟩ (c_Row_withWord l dC dI kB kI ((six f i sd t).2.2.1) (wd f (i + 16 * t + 8))  H.size) (va_cwS 2 hts gX5_sixteens_X5_withWord rfl rfl rfl (by decide +kernel) ⟨Nat.le_of_ble_eq_true rfl, Nat.le_of_ble_eq_true rfl⟩) (z_preS hK (hP.sub [] rfl) (hD.sub [] (by decide) rfl)) rfl rfl hl.1 rfl (lv_room (Nat.le_of_ble_eq_true rfl)) dX5_sixteens_72 ⟨Nat.le_of_ble_eq_true rfl, Nat.le_of_ble_eq_true rfl⟩) hK hP hD hS hA [] [0, 1] rfl rfl (by decide) (by decide) (fun r11 u12 H locs hw hP hD hS => ?_)
        have hw : r11 = rndF ((six f i sd t).2.2.1) (wd f (i + 16 * t + 8)) := hw
        have hP : va_P (dC, dI) vwCl [(a0, .inr (5, [.ref a1, .int (nI n)])), (a1, .inl (kB, cap, .inl f))] H := hP
        have hD : va_D A [(a0, .inr (5, [.ref a1, .int (nI n)])), (a1, .inl (kB, cap, .inl f))] := hD
        subst hw
        refine lv_istore (lv' := [(6, .int (rndF ((six f i sd t).2.2.1) (wd f (i + 16 * t + 8)))), (5, .int (rndF ((six f i sd t).2.1) (wd f (i + 16 * t + 4)))), (4, .int (rndF ((six f i sd t).1) (wd f (i + 16 * t)))), (0, .ref a0), (1, .int (nI i)), (2, .int (nI ee)), (7, .int ((six f i sd t).2.2.2)), (8, .int (nI (i + 16 * t)))]) hx hb dX5_sixteens_75 hl (by decide) rfl (fun ls hl => ?_)
        refine lv_iload hx hb dX5_sixteens_77 (lv_at hl 6 rfl) ?_
        refine lv_aload_n hx hb dX5_sixteens_79 rfl (lv_at hl 3 rfl) ?_
        refine lv_iload hx hb dX5_sixteens_80 (lv_at hl 7 rfl) ?_
        refine lv_bipush (v := 12) hx hb dX5_sixteens_82 (by decide) ?_
        refine lv_iadd hx hb dX5_sixteens_84 ?_
        refine lv_is (y := (nI ((i + 16 * t) + 12))) ((zn_add rfl rfl)) ?_
        refine z_calli (wr := []) (va_runV (As := [.int (nI ((i + 16 * t) + 12))]) (rest := [.int ((six f i sd t).2.2.2)]) ⟨hx, hb, hml, hown, hts⟩ (c_Row_word l dC dI kB kI a0 a1 cap n f ((i + 16 * t) + 12) (by omega) (by omega) (by omega) H.size) (cwV 1 hts gX5_sixteens_X5_word rfl rfl rfl (by decide +kernel) ⟨Nat.le_of_ble_eq_true rfl, Nat.le_of_ble_eq_true rfl⟩) (z_preV hK (hP.sub [0, 1] rfl) (hD.sub [0, 1] (by decide) rfl) (va_recv hK hP (ci := 5) (q0 := 0) rfl rfl)) rfl rfl hl.1 rfl (lv_room (Nat.le_of_ble_eq_true rfl)) dX5_sixteens_85 ⟨Nat.le_of_ble_eq_true rfl, Nat.le_of_ble_eq_true rfl⟩) hK hP hD hS hA [0, 1] [] rfl rfl (by decide) (by decide) (fun r13 u14 H locs hw hP hD hS => ?_)
        have hw : r13 = wdG f n ((i + 16 * t) + 12) := hw
        have hP : va_P (dC, dI) vwCl [(a0, .inr (5, [.ref a1, .int (nI n)])), (a1, .inl (kB, cap, .inl f))] H := hP
        have hD : va_D A [(a0, .inr (5, [.ref a1, .int (nI n)])), (a1, .inl (kB, cap, .inl f))] := hD
        unfold wdG at hw; rw [if_pos (by omega)] at hw; subst hw
        refine z_calli (wr := [(a0, .inr (5, [.ref a1, .int (nI n)])), (a1, .inl (kB, cap, .inl f))]) (va_runS (As := [.int ((six f i sd t).2.2.2), .int (wd f (i + 16 * t + 12))]) (rest := []) ⟨hx, hb, hml, hown, hts⟩ (c_Row_withWord l dC dI kB kI ((six f i sd t).2.2.2) (wd f (i + 16 * t + 12))  H.size) (va_cwS 2 hts gX5_sixteens_X5_withWord rfl rfl rfl (by decide +kernel) ⟨Nat.le_of_ble_eq_true rfl, Nat.le_of_ble_eq_true rfl⟩) (z_preS hK (hP.sub [] rfl) (hD.sub [] (by decide) rfl)) rfl rfl hl.1 rfl (lv_room (Nat.le_of_ble_eq_true rfl)) dX5_sixteens_88 ⟨Nat.le_of_ble_eq_true rfl, Nat.le_of_ble_eq_true rfl⟩) hK hP hD hS hA [] [0, 1] rfl rfl (by decide) (by decide) (fun r15 u16 H locs hw hP hD hS => ?_)
        have hw : r15 = rndF ((six f i sd t).2.2.2) (wd f (i + 16 * t + 12)) := hw
        have hP : va_P (dC, dI) vwCl [(a0, .inr (5, [.ref a1, .int (nI n)])), (a1, .inl (kB, cap, .inl f))] H := hP
        have hD : va_D A [(a0, .inr (5, [.ref a1, .int (nI n)])), (a1, .inl (kB, cap, .inl f))] := hD
        subst hw
        refine lv_istore (lv' := [(7, .int (rndF ((six f i sd t).2.2.2) (wd f (i + 16 * t + 12)))), (6, .int (rndF ((six f i sd t).2.2.1) (wd f (i + 16 * t + 8)))), (5, .int (rndF ((six f i sd t).2.1) (wd f (i + 16 * t + 4)))), (4, .int (rndF ((six f i sd t).1) (wd f (i + 16 * t)))), (0, .ref a0), (1, .int (nI i)), (2, .int (nI ee)), (8, .int (nI (i + 16 * t)))]) hx hb dX5_sixteens_91 hl (by decide) rfl (fun ls hl => ?_)
        refine lv_iinc (v := (nI ((i + 16 * t) + 16))) (lv' := [(8, .int (nI ((i + 16 * t) + 16))), (7, .int (rndF ((six f i sd t).2.2.2) (wd f (i + 16 * t + 12)))), (6, .int (rndF ((six f i sd t).2.2.1) (wd f (i + 16 * t + 8)))), (5, .int (rndF ((six f i sd t).2.1) (wd f (i + 16 * t + 4)))), (4, .int (rndF ((six f i sd t).1) (wd f (i + 16 * t)))), (0, .ref a0), (1, .int (nI i)), (2, .int (nI ee))]) hx hb dX5_sixteens_93 hl (k := 7) rfl (zn_inc (i + 16 * t) 16 (by decide)) (by decide) rfl (fun ls hl => ?_)
        refine lv_goto (tgt := 27) hx hb dX5_sixteens_96 (by decide) ?_
        exact hG2 _ _ _ (ih (t + 1) (by omega) (by omega) _ _ (hP.sub [0, 1] rfl) (hD.sub [0, 1] (by decide) rfl) hS ls (lv_sub hl [5, 6, 7, 4, 3, 2, 1, 0] rfl))
  exact hG2 _ _ _ (lp (q - 0 + 1) 0 (by omega) (Nat.lt_succ_self _) _ _ (hP.sub [0, 1] rfl) (hD.sub [0, 1] (by decide) rfl) hS ls (lv_sub hl [5, 6, 7, 4, 3, 2, 1, 0] rfl))

set_option maxHeartbeats 4000000 in
set_option maxRecDepth 100000 in
theorem c_Row_hashOf (l : Launch) (dC : Nat → ClassId) (dI : Nat → Nat → Nat) (kB kI : ClassId) (a0 : Nat) (a1 : Nat) (cap : Nat) (n : Nat) (f : Nat → Int32) (i : Nat) (k : Nat) (sd : Int32) (hn : n ≤ cap) (hc : cap ≤ 150000) (hi : i + k ≤ n) : zMi l yX5_hashOf wsX5_hashOf ({ frames := 2, cells := 0, slots := 0, locals := 50 }) (dC, dI) kB kI [.ref a0, .int (nI i), .int (nI k), .int sd] [(a0, .inr (5, [.ref a1, .int (nI n)])), (a1, .inl (kB, cap, .inl f))] 0 0 (fun (r : Int32) => fun _ : Unit => r = hashF f i k sd) (fun _ : Unit => [(a0, .inr (5, [.ref a1, .int (nI n)])), (a1, .inl (kB, cap, .inl f))]) := by
  intro sz
  refine Met.ofW (cc := cX5_hashOf) (maxL := 10) (ret := (some .int)) (by decide) rfl ?_
  intro p e s m args below meth c s₁ B hml hv
  obtain ⟨rfl, hsz, hP, hK, hD0⟩ := hv
  have hx := B.exec
  have hb := B.bytes
  have hr := B.returns
  have hts := atoms_spec (ws := wsX5_hashOf) B.pre
  have hown : s.vm.findClass RX5 = some m.cls := findClass_of_methodNamed B.named
  have hlocks := B.notSynchronized
  subst hsz
  have hD := hD0.self (sz := s.heap.size)
  generalize hAe : va_A [(a0, .inr (5, [.ref a1, .int (nI n)])), (a1, .inl (kB, cap, .inl f))] s.heap.size = A at hD ⊢
  have hA : ∀ q : Nat, s.heap.size ≤ q → A q := fun q h => by rw [← hAe]; exact Or.inr h
  have hS : va_S A s.heap s.heap [] := va_S.rf
  have hP : va_P (dC, dI) vwCl [(a0, .inr (5, [.ref a1, .int (nI n)])), (a1, .inl (kB, cap, .inl f))] s.heap := hP
  have hl := lv_entry ([.ref a0, .int (nI i), .int (nI k), .int sd]) (n := 10) (Nat.le_of_ble_eq_true rfl)
  rw [lg_entry_eq]
  generalize (lg_sl ([.ref a0, .int (nI i), .int (nI k), .int sd]) ++ List.replicate (10 - (lg_sl ([.ref a0, .int (nI i), .int (nI k), .int sd])).length) Slot.unset).toArray = ls at hl ⊢
  have hl : lv_has ls 10 [(0, .ref a0), (1, .int (nI i)), (2, .int (nI k)), (3, .int sd)] := hl
  refine zG (fun GG hG1 hG2 => ?_)
  refine lv_aload_n hx hb dX5_hashOf_0 rfl (lv_at hl 0 rfl) ?_
  refine lv_iload_n hx hb dX5_hashOf_1 rfl (lv_at hl 1 rfl) ?_
  refine lv_iload_n hx hb dX5_hashOf_2 rfl (lv_at hl 2 rfl) ?_
  refine z_calli (wr := []) (va_runV (As := [.int (nI i), .int (nI k)]) (rest := []) ⟨hx, hb, hml, hown, hts⟩ (c_Row_hasPiece l dC dI kB kI a0 a1 cap n f (nI i) ((i : Nat) : Int) (nI k) ((k : Nat) : Int) (by omega) (by omega) (nI_toInt (by omega)) (nI_toInt (by omega)) s.heap.size) (cwV 2 hts gX5_hashOf_X5_hasPiece rfl rfl rfl (by decide +kernel) ⟨Nat.le_of_ble_eq_true rfl, Nat.le_of_ble_eq_true rfl⟩) (z_preV hK (hP.sub [0, 1] rfl) (hD.sub [0, 1] (by decide) rfl) (va_recv hK hP (ci := 5) (q0 := 0) rfl rfl)) rfl rfl hl.1 rfl (lv_room (Nat.le_of_ble_eq_true rfl)) dX5_hashOf_3 ⟨Nat.le_of_ble_eq_true rfl, Nat.le_of_ble_eq_true rfl⟩) hK hP hD hS hA [0, 1] [] rfl rfl (by decide) (by decide) (fun r1 u2 H locs hw hP hD hS => ?_)
  have hw : (r1 = 1 ∧ 0 ≤ ((i : Nat) : Int) ∧ 0 ≤ ((k : Nat) : Int) ∧ ((i : Nat) : Int) + ((k : Nat) : Int) ≤ n) ∨ (r1 = 0 ∧ (((i : Nat) : Int) < 0 ∨ ((k : Nat) : Int) < 0 ∨ (n : Int) < ((i : Nat) : Int) + ((k : Nat) : Int))) := hw
  have hP : va_P (dC, dI) vwCl [(a0, .inr (5, [.ref a1, .int (nI n)])), (a1, .inl (kB, cap, .inl f))] H := hP
  have hD : va_D A [(a0, .inr (5, [.ref a1, .int (nI n)])), (a1, .inl (kB, cap, .inl f))] := hD
  rcases hw with ⟨r1e, hw⟩ | ⟨r1e, hw⟩ <;> subst r1e
  · refine lv_if_ne (tgt := 11) hx hb dX5_hashOf_6 (by decide) (fun _ => ?_) (fun c => absurd c (by decide))
    refine lv_iload_n hx hb dX5_hashOf_11 rfl (lv_at hl 1 rfl) ?_
    refine lv_iload_n hx hb dX5_hashOf_12 rfl (lv_at hl 2 rfl) ?_
    refine lv_iadd hx hb dX5_hashOf_13 ?_
    refine lv_is (y := (nI (i + k))) ((zn_add rfl rfl)) ?_
    refine lv_istore (lv' := [(4, .int (nI (i + k))), (0, .ref a0), (1, .int (nI i)), (2, .int (nI k)), (3, .int sd)]) hx hb dX5_hashOf_14 hl (by decide) rfl (fun ls hl => ?_)
    refine lv_iload_n hx hb dX5_hashOf_16 rfl (lv_at hl 2 rfl) ?_
    refine lv_iload_n hx hb dX5_hashOf_17 rfl (lv_at hl 3 rfl) ?_
    refine lv_bipush (v := 16) hx hb dX5_hashOf_18 (by decide) ?_
    have jn : ∀   (H : Heap) (locs : List Loc), va_P (dC, dI) vwCl [(a0, .inr (5, [.ref a1, .int (nI n)])), (a1, .inl (kB, cap, .inl f))] H → va_D A [(a0, .inr (5, [.ref a1, .int (nI n)])), (a1, .inl (kB, cap, .inl f))] → va_S A s.heap H locs → ∀ (ls : Array Slot), lv_has ls 10 [(0, .ref a0), (1, .int (nI i)), (2, .int (nI k)), (3, .int sd), (4, .int (nI (i + k))), (5, .int (nI (i + k / 16 * 16)))] → GG H locs (F0 m 55 ls [.int (hbase f i k sd)]) := by
      intro  H locs hP hD hS ls hl
      apply hG1
      refine lv_iload_n hx hb dX5_hashOf_55 rfl (lv_at hl 2 rfl) ?_
      refine lv_iadd hx hb dX5_hashOf_56 ?_
      refine lv_istore (lv' := [(6, .int ((hbase f i k sd) + (nI k))), (0, .ref a0), (1, .int (nI i)), (2, .int (nI k)), (3, .int sd), (4, .int (nI (i + k))), (5, .int (nI (i + k / 16 * 16)))]) hx hb dX5_hashOf_57 hl (by decide) rfl (fun ls hl => ?_)
      refine lv_iload hx hb dX5_hashOf_59 (lv_at hl 5 rfl) ?_
      refine lv_iload_n hx hb dX5_hashOf_61 rfl (lv_at hl 3 rfl) ?_
      refine lv_iconst (v := 3) hx hb dX5_hashOf_62 (by decide) ?_
      refine lv_iand hx hb dX5_hashOf_63 ?_
      refine lv_is (y := (nI (k % 4))) (pk_andN (by omega) 2 (by decide)) ?_
      refine lv_isub hx hb dX5_hashOf_64 ?_
      refine lv_is (y := (nI (i + k / 4 * 4))) ((zn_sub rfl rfl (by omega)).trans (congrArg nI (by omega))) ?_
      refine lv_istore (lv' := [(7, .int (nI (i + k / 4 * 4))), (6, .int ((hbase f i k sd) + (nI k))), (0, .ref a0), (1, .int (nI i)), (2, .int (nI k)), (3, .int sd), (4, .int (nI (i + k))), (5, .int (nI (i + k / 16 * 16)))]) hx hb dX5_hashOf_65 hl (by decide) rfl (fun ls hl => ?_)
      refine lv_iload hx hb dX5_hashOf_67 (lv_at hl 7 rfl) ?_
      refine lv_istore (lv' := [(8, .int (nI (i + k / 16 * 16))), (7, .int (nI (i + k / 4 * 4))), (6, .int ((hbase f i k sd) + (nI k))), (0, .ref a0), (1, .int (nI i)), (2, .int (nI k)), (3, .int sd), (4, .int (nI (i + k))), (5, .int (nI (i + k / 16 * 16)))]) hx hb dX5_hashOf_69 hl (by decide) rfl (fun ls hl => ?_)
      have lp : ∀ (kf : Nat) (t : Nat) (ht : t ≤ k % 16 / 4), k % 16 / 4 - t < kf → ∀ (H : Heap) (locs : List Loc), va_P (dC, dI) vwCl [(a0, .inr (5, [.ref a1, .int (nI n)])), (a1, .inl (kB, cap, .inl f))] H → va_D A [(a0, .inr (5, [.ref a1, .int (nI n)])), (a1, .inl (kB, cap, .inl f))] → va_S A s.heap H locs → ∀ (ls : Array Slot), lv_has ls 10 [(0, .ref a0), (4, .int (nI (i + k))), (7, .int (nI (i + k / 4 * 4))), (6, .int (hw4 f (i + k / 16 * 16) (hbase f i k sd + nI k) t)), (8, .int (nI (i + k / 16 * 16 + 4 * t)))] → GG H locs (F0 m 71 ls []) := by
        intro kf
        induction kf with
        | zero => intro t ht hm; exact absurd hm (Nat.not_lt_zero _)
        | succ kf ih =>
          intro t ht hm H locs hP hD hS ls hl
          apply hG1
          refine lv_iload hx hb dX5_hashOf_71 (lv_at hl 4 rfl) ?_
          refine lv_iload hx hb dX5_hashOf_73 (lv_at hl 2 rfl) ?_
          refine zb_icmp_ge (tgt := 114) (a := ((i + k / 16 * 16 + 4 * t : Nat) : Int)) (b := ((i + k / 4 * 4 : Nat) : Int)) hx hb dX5_hashOf_75 (by decide) (nI_toInt (by omega)) (nI_toInt (by omega)) (fun c75 => ?_) (fun c75 => ?_)
          · have et9 : k % 16 / 4 = t := by omega
            subst et9
            refine lv_iload hx hb dX5_hashOf_114 (lv_at hl 2 rfl) ?_
            refine lv_istore (lv' := [(8, .int (nI (i + k / 4 * 4))), (0, .ref a0), (4, .int (nI (i + k))), (7, .int (nI (i + k / 4 * 4))), (6, .int (hw4 f (i + k / 16 * 16) (hbase f i k sd + nI k) (k % 16 / 4)))]) hx hb dX5_hashOf_116 hl (by decide) rfl (fun ls hl => ?_)
            have lq : ∀ (kf : Nat) (t : Nat) (ht : t ≤ k % 4), k % 4 - t < kf → ∀ (H : Heap) (locs : List Loc), va_P (dC, dI) vwCl [(a0, .inr (5, [.ref a1, .int (nI n)])), (a1, .inl (kB, cap, .inl f))] H → va_D A [(a0, .inr (5, [.ref a1, .int (nI n)])), (a1, .inl (kB, cap, .inl f))] → va_S A s.heap H locs → ∀ (ls : Array Slot), lv_has ls 10 [(0, .ref a0), (4, .int (nI (i + k))), (6, .int (hb1 f (i + k / 4 * 4) (hw4 f (i + k / 16 * 16) (hbase f i k sd + nI k) (k % 16 / 4)) t)), (8, .int (nI (i + k / 4 * 4 + t)))] → GG H locs (F0 m 118 ls []) := by
              intro kf
              induction kf with
              | zero => intro t ht hm; exact absurd hm (Nat.not_lt_zero _)
              | succ kf ih =>
                intro t ht hm H locs hP hD hS ls hl
                apply hG1
                refine lv_iload hx hb dX5_hashOf_118 (lv_at hl 3 rfl) ?_
                refine lv_iload hx hb dX5_hashOf_120 (lv_at hl 1 rfl) ?_
                refine zb_icmp_ge (tgt := 166) (a := ((i + k / 4 * 4 + t : Nat) : Int)) (b := ((i + k : Nat) : Int)) hx hb dX5_hashOf_122 (by decide) (nI_toInt (by omega)) (nI_toInt (by omega)) (fun c122 => ?_) (fun c122 => ?_)
                · have et9 : k % 4 = t := by omega
                  subst et9
                  refine lv_iload hx hb dX5_hashOf_166 (lv_at hl 2 rfl) ?_
                  refine lv_iload hx hb dX5_hashOf_168 (lv_at hl 2 rfl) ?_
                  refine lv_bipush (v := 15) hx hb dX5_hashOf_170 (by decide) ?_
                  refine lv_iushr (v := (ushr (hb1 f (i + k / 4 * 4) (hw4 f (i + k / 16 * 16) (hbase f i k sd + nI k) (k % 16 / 4)) (k % 4)) 15)) hx hb dX5_hashOf_172 rfl ?_
                  refine lv_ixor hx hb dX5_hashOf_173 ?_
                  refine lv_ldc (v := (-2048144777)) hx hb hown (hts (.constant RX5 60 (-2048144777)) (by decide +kernel)) dX5_hashOf_174 ?_
                  refine lv_imul hx hb dX5_hashOf_176 ?_
                  refine lv_istore (lv' := [(6, .int (((hb1 f (i + k / 4 * 4) (hw4 f (i + k / 16 * 16) (hbase f i k sd + nI k) (k % 16 / 4)) (k % 4)) ^^^ (ushr (hb1 f (i + k / 4 * 4) (hw4 f (i + k / 16 * 16) (hbase f i k sd + nI k) (k % 16 / 4)) (k % 4)) 15)) * (-2048144777))), (0, .ref a0), (4, .int (nI (i + k))), (8, .int (nI (i + k / 4 * 4 + (k % 4))))]) hx hb dX5_hashOf_177 hl (by decide) rfl (fun ls hl => ?_)
                  refine lv_iload hx hb dX5_hashOf_179 (lv_at hl 0 rfl) ?_
                  refine lv_iload hx hb dX5_hashOf_181 (lv_at hl 0 rfl) ?_
                  refine lv_bipush (v := 13) hx hb dX5_hashOf_183 (by decide) ?_
                  refine lv_iushr (v := (ushr (((hb1 f (i + k / 4 * 4) (hw4 f (i + k / 16 * 16) (hbase f i k sd + nI k) (k % 16 / 4)) (k % 4)) ^^^ (ushr (hb1 f (i + k / 4 * 4) (hw4 f (i + k / 16 * 16) (hbase f i k sd + nI k) (k % 16 / 4)) (k % 4)) 15)) * (-2048144777)) 13)) hx hb dX5_hashOf_185 rfl ?_
                  refine lv_ixor hx hb dX5_hashOf_186 ?_
                  refine lv_ldc (v := (-1028477379)) hx hb hown (hts (.constant RX5 54 (-1028477379)) (by decide +kernel)) dX5_hashOf_187 ?_
                  refine lv_imul hx hb dX5_hashOf_189 ?_
                  refine lv_istore (lv' := [(6, .int (((((hb1 f (i + k / 4 * 4) (hw4 f (i + k / 16 * 16) (hbase f i k sd + nI k) (k % 16 / 4)) (k % 4)) ^^^ (ushr (hb1 f (i + k / 4 * 4) (hw4 f (i + k / 16 * 16) (hbase f i k sd + nI k) (k % 16 / 4)) (k % 4)) 15)) * (-2048144777)) ^^^ (ushr (((hb1 f (i + k / 4 * 4) (hw4 f (i + k / 16 * 16) (hbase f i k sd + nI k) (k % 16 / 4)) (k % 4)) ^^^ (ushr (hb1 f (i + k / 4 * 4) (hw4 f (i + k / 16 * 16) (hbase f i k sd + nI k) (k % 16 / 4)) (k % 4)) 15)) * (-2048144777)) 13)) * (-1028477379))), (0, .ref a0), (4, .int (nI (i + k))), (8, .int (nI (i + k / 4 * 4 + (k % 4))))]) hx hb dX5_hashOf_190 hl (by decide) rfl (fun ls hl => ?_)
                  refine lv_iload hx hb dX5_hashOf_192 (lv_at hl 0 rfl) ?_
                  refine lv_iload hx hb dX5_hashOf_194 (lv_at hl 0 rfl) ?_
                  refine lv_bipush (v := 16) hx hb dX5_hashOf_196 (by decide) ?_
                  refine lv_iushr (v := (ushr (((((hb1 f (i + k / 4 * 4) (hw4 f (i + k / 16 * 16) (hbase f i k sd + nI k) (k % 16 / 4)) (k % 4)) ^^^ (ushr (hb1 f (i + k / 4 * 4) (hw4 f (i + k / 16 * 16) (hbase f i k sd + nI k) (k % 16 / 4)) (k % 4)) 15)) * (-2048144777)) ^^^ (ushr (((hb1 f (i + k / 4 * 4) (hw4 f (i + k / 16 * 16) (hbase f i k sd + nI k) (k % 16 / 4)) (k % 4)) ^^^ (ushr (hb1 f (i + k / 4 * 4) (hw4 f (i + k / 16 * 16) (hbase f i k sd + nI k) (k % 16 / 4)) (k % 4)) 15)) * (-2048144777)) 13)) * (-1028477379)) 16)) hx hb dX5_hashOf_198 rfl ?_
                  refine lv_ixor hx hb dX5_hashOf_199 ?_
                  have hP9 := hP.sub (ws' := [(a0, .inr (5, [.ref a1, .int (nI n)])), (a1, .inl (kB, cap, .inl f))]) [0, 1] rfl
                  have hD9 := hD.sub (ws' := [(a0, .inr (5, [.ref a1, .int (nI n)])), (a1, .inl (kB, cap, .inl f))]) [0, 1] (by decide) rfl
                  exact W.iret (v := ((((((hb1 f (i + k / 4 * 4) (hw4 f (i + k / 16 * 16) (hbase f i k sd + nI k) (k % 16 / 4)) (k % 4)) ^^^ (ushr (hb1 f (i + k / 4 * 4) (hw4 f (i + k / 16 * 16) (hbase f i k sd + nI k) (k % 16 / 4)) (k % 4)) 15)) * (-2048144777)) ^^^ (ushr (((hb1 f (i + k / 4 * 4) (hw4 f (i + k / 16 * 16) (hbase f i k sd + nI k) (k % 16 / 4)) (k % 4)) ^^^ (ushr (hb1 f (i + k / 4 * 4) (hw4 f (i + k / 16 * 16) (hbase f i k sd + nI k) (k % 16 / 4)) (k % 4)) 15)) * (-2048144777)) 13)) * (-1028477379)) ^^^ (ushr (((((hb1 f (i + k / 4 * 4) (hw4 f (i + k / 16 * 16) (hbase f i k sd + nI k) (k % 16 / 4)) (k % 4)) ^^^ (ushr (hb1 f (i + k / 4 * 4) (hw4 f (i + k / 16 * 16) (hbase f i k sd + nI k) (k % 16 / 4)) (k % 4)) 15)) * (-2048144777)) ^^^ (ushr (((hb1 f (i + k / 4 * 4) (hw4 f (i + k / 16 * 16) (hbase f i k sd + nI k) (k % 16 / 4)) (k % 4)) ^^^ (ushr (hb1 f (i + k / 4 * 4) (hw4 f (i + k / 16 * 16) (hbase f i k sd + nI k) (k % 16 / 4)) (k % 4)) 15)) * (-2048144777)) 13)) * (-1028477379)) 16))) hx hb hr (fun t9 ht9 hW9 => ⟨⟨((((((hb1 f (i + k / 4 * 4) (hw4 f (i + k / 16 * 16) (hbase f i k sd + nI k) (k % 16 / 4)) (k % 4)) ^^^ (ushr (hb1 f (i + k / 4 * 4) (hw4 f (i + k / 16 * 16) (hbase f i k sd + nI k) (k % 16 / 4)) (k % 4)) 15)) * (-2048144777)) ^^^ (ushr (((hb1 f (i + k / 4 * 4) (hw4 f (i + k / 16 * 16) (hbase f i k sd + nI k) (k % 16 / 4)) (k % 4)) ^^^ (ushr (hb1 f (i + k / 4 * 4) (hw4 f (i + k / 16 * 16) (hbase f i k sd + nI k) (k % 16 / 4)) (k % 4)) 15)) * (-2048144777)) 13)) * (-1028477379)) ^^^ (ushr (((((hb1 f (i + k / 4 * 4) (hw4 f (i + k / 16 * 16) (hbase f i k sd + nI k) (k % 16 / 4)) (k % 4)) ^^^ (ushr (hb1 f (i + k / 4 * 4) (hw4 f (i + k / 16 * 16) (hbase f i k sd + nI k) (k % 16 / 4)) (k % 4)) 15)) * (-2048144777)) ^^^ (ushr (((hb1 f (i + k / 4 * 4) (hw4 f (i + k / 16 * 16) (hbase f i k sd + nI k) (k % 16 / 4)) (k % 4)) ^^^ (ushr (hb1 f (i + k / 4 * 4) (hw4 f (i + k / 16 * 16) (hbase f i k sd + nI k) (k % 16 / 4)) (k % 4)) 15)) * (-2048144777)) 13)) * (-1028477379)) 16)), (), rfl, rfl, by rw [ht9]; exact hP9, va_K.moved hW9.alike hK, hD9⟩, hS.F ht9⟩) hS.2.2 dX5_hashOf_200
                · refine lv_iload hx hb dX5_hashOf_125 (lv_at hl 2 rfl) ?_
                  refine lv_ldc (v := 374761393) hx hb hown (hts (.constant RX5 53 374761393) (by decide +kernel)) dX5_hashOf_127 ?_
                  refine lv_aload_n hx hb dX5_hashOf_129 rfl (lv_at hl 0 rfl) ?_
                  refine va_get (D := (dC, dI)) (ci := 5) (v := .ref a1) (C := RX5) (T := TX5) (N := 2) hx hb hts (by decide +kernel) hown hK hP 0 rfl rfl 0 (by decide) (hts (.fieldLink RX5 15 "SequenceFrames$Row" "bytes" "[B") (by decide +kernel)) (fun _ h9 => h9) rfl dX5_hashOf_130 ?_
                  refine lv_iload hx hb dX5_hashOf_133 (lv_at hl 3 rfl) ?_
                  refine va_bald hx hb hK hP 1 0 rfl rfl (zin rfl (by omega) (by omega)) dX5_hashOf_135 ?_
                  refine lv_is (y := (f (i + k / 4 * 4 + t))) (zld f rfl (by omega)) ?_
                  refine lv_sipush (v := 255) hx hb dX5_hashOf_136 (by decide) ?_
                  refine lv_iand hx hb dX5_hashOf_139 ?_
                  refine lv_imul hx hb dX5_hashOf_140 ?_
                  refine lv_iadd hx hb dX5_hashOf_141 ?_
                  refine lv_istore (lv' := [(9, .int ((hb1 f (i + k / 4 * 4) (hw4 f (i + k / 16 * 16) (hbase f i k sd + nI k) (k % 16 / 4)) t) + (374761393 * ((f (i + k / 4 * 4 + t)) &&& 255)))), (0, .ref a0), (4, .int (nI (i + k))), (6, .int (hb1 f (i + k / 4 * 4) (hw4 f (i + k / 16 * 16) (hbase f i k sd + nI k) (k % 16 / 4)) t)), (8, .int (nI (i + k / 4 * 4 + t)))]) hx hb dX5_hashOf_142 hl (by decide) rfl (fun ls hl => ?_)
                  refine lv_iload hx hb dX5_hashOf_144 (lv_at hl 0 rfl) ?_
                  refine lv_bipush (v := 11) hx hb dX5_hashOf_146 (by decide) ?_
                  refine z_ishl hx hb dX5_hashOf_148 ?_
                  refine lv_iload hx hb dX5_hashOf_149 (lv_at hl 0 rfl) ?_
                  refine lv_bipush (v := 21) hx hb dX5_hashOf_151 (by decide) ?_
                  refine lv_iushr (v := (ushr ((hb1 f (i + k / 4 * 4) (hw4 f (i + k / 16 * 16) (hbase f i k sd + nI k) (k % 16 / 4)) t) + (374761393 * ((f (i + k / 4 * 4 + t)) &&& 255))) 21)) hx hb dX5_hashOf_153 rfl ?_
                  refine lv_ior hx hb dX5_hashOf_154 ?_
                  refine lv_ldc (v := (-1640531535)) hx hb hown (hts (.constant RX5 59 (-1640531535)) (by decide +kernel)) dX5_hashOf_155 ?_
                  refine lv_imul hx hb dX5_hashOf_157 ?_
                  refine lv_istore (lv' := [(6, .int (((shl ((hb1 f (i + k / 4 * 4) (hw4 f (i + k / 16 * 16) (hbase f i k sd + nI k) (k % 16 / 4)) t) + (374761393 * ((f (i + k / 4 * 4 + t)) &&& 255))) 11) ||| (ushr ((hb1 f (i + k / 4 * 4) (hw4 f (i + k / 16 * 16) (hbase f i k sd + nI k) (k % 16 / 4)) t) + (374761393 * ((f (i + k / 4 * 4 + t)) &&& 255))) 21)) * (-1640531535))), (9, .int ((hb1 f (i + k / 4 * 4) (hw4 f (i + k / 16 * 16) (hbase f i k sd + nI k) (k % 16 / 4)) t) + (374761393 * ((f (i + k / 4 * 4 + t)) &&& 255)))), (0, .ref a0), (4, .int (nI (i + k))), (8, .int (nI (i + k / 4 * 4 + t)))]) hx hb dX5_hashOf_158 hl (by decide) rfl (fun ls hl => ?_)
                  refine lv_iinc (v := (nI ((i + k / 4 * 4 + t) + 1))) (lv' := [(8, .int (nI ((i + k / 4 * 4 + t) + 1))), (6, .int (((shl ((hb1 f (i + k / 4 * 4) (hw4 f (i + k / 16 * 16) (hbase f i k sd + nI k) (k % 16 / 4)) t) + (374761393 * ((f (i + k / 4 * 4 + t)) &&& 255))) 11) ||| (ushr ((hb1 f (i + k / 4 * 4) (hw4 f (i + k / 16 * 16) (hbase f i k sd + nI k) (k % 16 / 4)) t) + (374761393 * ((f (i + k / 4 * 4 + t)) &&& 255))) 21)) * (-1640531535))), (9, .int ((hb1 f (i + k / 4 * 4) (hw4 f (i + k / 16 * 16) (hbase f i k sd + nI k) (k % 16 / 4)) t) + (374761393 * ((f (i + k / 4 * 4 + t)) &&& 255)))), (0, .ref a0), (4, .int (nI (i + k)))]) hx hb dX5_hashOf_160 hl (k := 4) rfl (zn_inc (i + k / 4 * 4 + t) 1 (by decide)) (by decide) rfl (fun ls hl => ?_)
                  refine lv_goto (tgt := 118) hx hb dX5_hashOf_163 (by decide) ?_
                  exact hG2 _ _ _ (ih (t + 1) (by omega) (by omega) _ _ (hP.sub [0, 1] rfl) (hD.sub [0, 1] (by decide) rfl) hS ls (lv_sub hl [3, 4, 1, 0] rfl))
            exact hG2 _ _ _ (lq (k % 4 - 0 + 1) 0 (by omega) (Nat.lt_succ_self _) _ _ (hP.sub [0, 1] rfl) (hD.sub [0, 1] (by decide) rfl) hS ls (lv_sub hl [1, 2, 4, 0] rfl))
          · refine lv_iload hx hb dX5_hashOf_78 (lv_at hl 3 rfl) ?_
            refine lv_ldc (v := (-1028477379)) hx hb hown (hts (.constant RX5 54 (-1028477379)) (by decide +kernel)) dX5_hashOf_80 ?_
            refine lv_aload_n hx hb dX5_hashOf_82 rfl (lv_at hl 0 rfl) ?_
            refine lv_iload hx hb dX5_hashOf_83 (lv_at hl 4 rfl) ?_
            refine z_calli (wr := []) (va_runV (As := [.int (nI (i + k / 16 * 16 + 4 * t))]) (rest := [.int (-1028477379), .int (hw4 f (i + k / 16 * 16) (hbase f i k sd + nI k) t)]) ⟨hx, hb, hml, hown, hts⟩ (c_Row_word l dC dI kB kI a0 a1 cap n f (i + k / 16 * 16 + 4 * t) (by omega) (by omega) (by omega) H.size) (cwV 1 hts gX5_hashOf_X5_word rfl rfl rfl (by decide +kernel) ⟨Nat.le_of_ble_eq_true rfl, Nat.le_of_ble_eq_true rfl⟩) (z_preV hK (hP.sub [0, 1] rfl) (hD.sub [0, 1] (by decide) rfl) (va_recv hK hP (ci := 5) (q0 := 0) rfl rfl)) rfl rfl hl.1 rfl (lv_room (Nat.le_of_ble_eq_true rfl)) dX5_hashOf_85 ⟨Nat.le_of_ble_eq_true rfl, Nat.le_of_ble_eq_true rfl⟩) hK hP hD hS hA [0, 1] [] rfl rfl (by decide) (by decide) (fun r3 u4 H locs hw hP hD hS => ?_)
            have hw : r3 = wdG f n (i + k / 16 * 16 + 4 * t) := hw
            have hP : va_P (dC, dI) vwCl [(a0, .inr (5, [.ref a1, .int (nI n)])), (a1, .inl (kB, cap, .inl f))] H := hP
            have hD : va_D A [(a0, .inr (5, [.ref a1, .int (nI n)])), (a1, .inl (kB, cap, .inl f))] := hD
            unfold wdG at hw; rw [if_pos (by omega)] at hw; subst hw
            refine lv_imul hx hb dX5_hashOf_88 ?_
            refine lv_iadd hx hb dX5_hashOf_89 ?_
            refine lv_istore (lv' := [(9, .int ((hw4 f (i + k / 16 * 16) (hbase f i k sd + nI k) t) + ((-1028477379) * (wd f (i + k / 16 * 16 + 4 * t))))), (0, .ref a0), (4, .int (nI (i + k))), (7, .int (nI (i + k / 4 * 4))), (6, .int (hw4 f (i + k / 16 * 16) (hbase f i k sd + nI k) t)), (8, .int (nI (i + k / 16 * 16 + 4 * t)))]) hx hb dX5_hashOf_90 hl (by decide) rfl (fun ls hl => ?_)
            refine lv_iload hx hb dX5_hashOf_92 (lv_at hl 0 rfl) ?_
            refine lv_bipush (v := 17) hx hb dX5_hashOf_94 (by decide) ?_
            refine z_ishl hx hb dX5_hashOf_96 ?_
            refine lv_iload hx hb dX5_hashOf_97 (lv_at hl 0 rfl) ?_
            refine lv_bipush (v := 15) hx hb dX5_hashOf_99 (by decide) ?_
            refine lv_iushr (v := (ushr ((hw4 f (i + k / 16 * 16) (hbase f i k sd + nI k) t) + ((-1028477379) * (wd f (i + k / 16 * 16 + 4 * t)))) 15)) hx hb dX5_hashOf_101 rfl ?_
            refine lv_ior hx hb dX5_hashOf_102 ?_
            refine lv_ldc (v := 668265263) hx hb hown (hts (.constant RX5 58 668265263) (by decide +kernel)) dX5_hashOf_103 ?_
            refine lv_imul hx hb dX5_hashOf_105 ?_
            refine lv_istore (lv' := [(6, .int (((shl ((hw4 f (i + k / 16 * 16) (hbase f i k sd + nI k) t) + ((-1028477379) * (wd f (i + k / 16 * 16 + 4 * t)))) 17) ||| (ushr ((hw4 f (i + k / 16 * 16) (hbase f i k sd + nI k) t) + ((-1028477379) * (wd f (i + k / 16 * 16 + 4 * t)))) 15)) * 668265263)), (9, .int ((hw4 f (i + k / 16 * 16) (hbase f i k sd + nI k) t) + ((-1028477379) * (wd f (i + k / 16 * 16 + 4 * t))))), (0, .ref a0), (4, .int (nI (i + k))), (7, .int (nI (i + k / 4 * 4))), (8, .int (nI (i + k / 16 * 16 + 4 * t)))]) hx hb dX5_hashOf_106 hl (by decide) rfl (fun ls hl => ?_)
            refine lv_iinc (v := (nI ((i + k / 16 * 16 + 4 * t) + 4))) (lv' := [(8, .int (nI ((i + k / 16 * 16 + 4 * t) + 4))), (6, .int (((shl ((hw4 f (i + k / 16 * 16) (hbase f i k sd + nI k) t) + ((-1028477379) * (wd f (i + k / 16 * 16 + 4 * t)))) 17) ||| (ushr ((hw4 f (i + k / 16 * 16) (hbase f i k sd + nI k) t) + ((-1028477379) * (wd f (i + k / 16 * 16 + 4 * t)))) 15)) * 668265263)), (9, .int ((hw4 f (i + k / 16 * 16) (hbase f i k sd + nI k) t) + ((-1028477379) * (wd f (i + k / 16 * 16 + 4 * t))))), (0, .ref a0), (4, .int (nI (i + k))), (7, .int (nI (i + k / 4 * 4)))]) hx hb dX5_hashOf_108 hl (k := 5) rfl (zn_inc (i + k / 16 * 16 + 4 * t) 4 (by decide)) (by decide) rfl (fun ls hl => ?_)
            refine lv_goto (tgt := 71) hx hb dX5_hashOf_111 (by decide) ?_
            exact hG2 _ _ _ (ih (t + 1) (by omega) (by omega) _ _ (hP.sub [0, 1] rfl) (hD.sub [0, 1] (by decide) rfl) hS ls (lv_sub hl [3, 4, 5, 1, 0] rfl))
      exact hG2 _ _ _ (lp (k % 16 / 4 - 0 + 1) 0 (by omega) (Nat.lt_succ_self _) _ _ (hP.sub [0, 1] rfl) (hD.sub [0, 1] (by decide) rfl) hS ls (lv_sub hl [3, 7, 1, 2, 0] rfl))
    refine zb_icmp_lt (tgt := 30) (a := ((k : Nat) : Int)) (b := 16) hx hb dX5_hashOf_20 (by decide) (nI_toInt (by omega)) (by decide) (fun c20 => ?_) (fun c20 => ?_)
    · refine lv_iconst (v := 0) hx hb dX5_hashOf_30 (by decide) ?_
      refine lv_iadd hx hb dX5_hashOf_31 ?_
      refine lv_is (y := (nI (i + 0))) ((zn_add rfl rfl)) ?_
      refine lv_is (y := (nI (i + k / 16 * 16))) (congrArg nI (by omega)) ?_
      refine lv_istore (lv' := [(5, .int (nI (i + k / 16 * 16))), (4, .int (nI (i + k))), (0, .ref a0), (1, .int (nI i)), (2, .int (nI k)), (3, .int sd)]) hx hb dX5_hashOf_32 hl (by decide) rfl (fun ls hl => ?_)
      refine lv_iload_n hx hb dX5_hashOf_34 rfl (lv_at hl 4 rfl) ?_
      refine lv_bipush (v := 16) hx hb dX5_hashOf_35 (by decide) ?_
      refine zb_icmp_lt (tgt := 51) (a := ((k : Nat) : Int)) (b := 16) hx hb dX5_hashOf_37 (by decide) (nI_toInt (by omega)) (by decide) (fun c37 => ?_) (fun c37 => ?_)
      · refine lv_iload_n hx hb dX5_hashOf_51 rfl (lv_at hl 5 rfl) ?_
        refine lv_ldc (v := 374761393) hx hb hown (hts (.constant RX5 53 374761393) (by decide +kernel)) dX5_hashOf_52 ?_
        refine lv_iadd hx hb dX5_hashOf_54 ?_
        refine lv_is (y := (hbase f i k sd)) (by unfold hbase; rw [if_neg (by omega)]) ?_
        exact hG2 _ _ _ (jn    _ _ (hP.sub [0, 1] rfl) (hD.sub [0, 1] (by decide) rfl) hS ls (lv_sub hl [2, 3, 4, 5, 1, 0] rfl))
      · omega
    · refine lv_iload_n hx hb dX5_hashOf_23 rfl (lv_at hl 3 rfl) ?_
      refine lv_bipush (v := (-16)) hx hb dX5_hashOf_24 (by decide) ?_
      refine lv_iand hx hb dX5_hashOf_26 ?_
      refine lv_is (y := (nI (k / 16 * 16))) (z_and15 (by omega)) ?_
      refine lv_goto (tgt := 31) hx hb dX5_hashOf_27 (by decide) ?_
      refine lv_iadd hx hb dX5_hashOf_31 ?_
      refine lv_is (y := (nI (i + (k / 16 * 16)))) ((zn_add rfl rfl)) ?_
      refine lv_istore (lv' := [(5, .int (nI (i + (k / 16 * 16)))), (4, .int (nI (i + k))), (0, .ref a0), (1, .int (nI i)), (2, .int (nI k)), (3, .int sd)]) hx hb dX5_hashOf_32 hl (by decide) rfl (fun ls hl => ?_)
      refine lv_iload_n hx hb dX5_hashOf_34 rfl (lv_at hl 4 rfl) ?_
      refine lv_bipush (v := 16) hx hb dX5_hashOf_35 (by decide) ?_
      refine zb_icmp_lt (tgt := 51) (a := ((k : Nat) : Int)) (b := 16) hx hb dX5_hashOf_37 (by decide) (nI_toInt (by omega)) (by decide) (fun c37 => ?_) (fun c37 => ?_)
      · omega
      · refine lv_aload_n hx hb dX5_hashOf_40 rfl (lv_at hl 2 rfl) ?_
        refine lv_iload_n hx hb dX5_hashOf_41 rfl (lv_at hl 3 rfl) ?_
        refine lv_iload hx hb dX5_hashOf_42 (lv_at hl 0 rfl) ?_
        refine lv_iload_n hx hb dX5_hashOf_44 rfl (lv_at hl 5 rfl) ?_
        refine z_calli (wr := []) (va_runV (As := [.int (nI i), .int (nI (i + (k / 16 * 16))), .int sd]) (rest := []) ⟨hx, hb, hml, hown, hts⟩ (c_Row_sixteens l dC dI kB kI a0 a1 cap n f i (k / 16) sd (i + (k / 16 * 16)) (by omega) (by omega) (by omega) (by omega) H.size) (cwV 3 hts gX5_hashOf_X5_sixteens rfl rfl rfl (by decide +kernel) ⟨Nat.le_of_ble_eq_true rfl, Nat.le_of_ble_eq_true rfl⟩) (z_preV hK (hP.sub [0, 1] rfl) (hD.sub [0, 1] (by decide) rfl) (va_recv hK hP (ci := 5) (q0 := 0) rfl rfl)) rfl rfl hl.1 rfl (lv_room (Nat.le_of_ble_eq_true rfl)) dX5_hashOf_45 ⟨Nat.le_of_ble_eq_true rfl, Nat.le_of_ble_eq_true rfl⟩) hK hP hD hS hA [0, 1] [] rfl rfl (by decide) (by decide) (fun r5 u6 H locs hw hP hD hS => ?_)
        have hw : r5 = sixF (six f i sd (k / 16)) := hw
        have hP : va_P (dC, dI) vwCl [(a0, .inr (5, [.ref a1, .int (nI n)])), (a1, .inl (kB, cap, .inl f))] H := hP
        have hD : va_D A [(a0, .inr (5, [.ref a1, .int (nI n)])), (a1, .inl (kB, cap, .inl f))] := hD
        subst hw
        refine lv_goto (tgt := 55) hx hb dX5_hashOf_48 (by decide) ?_
        refine lv_is (y := (hbase f i k sd)) (by unfold hbase; rw [if_pos (by omega)]) ?_
        exact hG2 _ _ _ (jn    _ _ (hP.sub [0, 1] rfl) (hD.sub [0, 1] (by decide) rfl) hS ls (lv_sub hl [2, 3, 4, 5, 1, 0] rfl))
  · omega
