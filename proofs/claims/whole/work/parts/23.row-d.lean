set_option maxHeartbeats 4000000 in
set_option maxRecDepth 100000 in
theorem c_Row_addPiece (l : Launch) (dC : Nat → ClassId) (dI : Nat → Nat → Nat) (kB kI : ClassId) (a0 : Nat) (a1 : Nat) (cap : Nat) (n : Nat) (f : Nat → Int32) (b0 : Nat) (b1 : Nat) (cap2 : Nat) (n3 : Nat) (g : Nat → Int32) (i : Nat) (k : Nat) (hn : n + k ≤ cap) (hc : cap ≤ 150000) (hn3 : n3 ≤ cap2) (hc2 : cap2 ≤ 150000) (hi : i + k ≤ n3) (hg : bytF g) : zMv l yX5_addPiece wsX5_addPiece ({ frames := 1, cells := 0, slots := 0, locals := 40 }) (dC, dI) kB kI [.ref a0, .ref b0, .int (nI i), .int (nI k)] [(a0, .inr (5, [.ref a1, .int (nI n)])), (a1, .inl (kB, cap, .inl f)), (b0, .inr (5, [.ref b1, .int (nI n3)])), (b1, .inl (kB, cap2, .inl g))] 0 0 (fun _ : Unit => True) (fun _ : Unit => [(a0, .inr (5, [.ref a1, .int (nI (n + k))])), (a1, .inl (kB, cap, .inl (apF f n k (fun j => g (i + j))))), (b0, .inr (5, [.ref b1, .int (nI n3)])), (b1, .inl (kB, cap2, .inl g))]) := by
  intro sz
  refine Met.ofW (cc := cX5_addPiece) (maxL := 4) (ret := none) (by decide) rfl ?_
  intro p e s m args below meth c s₁ B hml hv
  obtain ⟨rfl, hsz, hP, hK, hD0⟩ := hv
  have hx := B.exec
  have hb := B.bytes
  have hr := B.returns
  have hts := atoms_spec (ws := wsX5_addPiece) B.pre
  have hown : s.vm.findClass RX5 = some m.cls := findClass_of_methodNamed B.named
  have hlocks := B.notSynchronized
  subst hsz
  have hD := hD0.self (sz := s.heap.size)
  generalize hAe : va_A [(a0, .inr (5, [.ref a1, .int (nI n)])), (a1, .inl (kB, cap, .inl f)), (b0, .inr (5, [.ref b1, .int (nI n3)])), (b1, .inl (kB, cap2, .inl g))] s.heap.size = A at hD ⊢
  have hA : ∀ q : Nat, s.heap.size ≤ q → A q := fun q h => by rw [← hAe]; exact Or.inr h
  have hS : va_S A s.heap s.heap [] := va_S.rf
  have hP : va_P (dC, dI) vwCl [(a0, .inr (5, [.ref a1, .int (nI n)])), (a1, .inl (kB, cap, .inl f)), (b0, .inr (5, [.ref b1, .int (nI n3)])), (b1, .inl (kB, cap2, .inl g))] s.heap := hP
  have hl := lv_entry ([.ref a0, .ref b0, .int (nI i), .int (nI k)]) (n := 4) (Nat.le_of_ble_eq_true rfl)
  rw [lg_entry_eq]
  generalize (lg_sl ([.ref a0, .ref b0, .int (nI i), .int (nI k)]) ++ List.replicate (4 - (lg_sl ([.ref a0, .ref b0, .int (nI i), .int (nI k)])).length) Slot.unset).toArray = ls at hl ⊢
  have hl : lv_has ls 4 [(0, .ref a0), (1, .ref b0), (2, .int (nI i)), (3, .int (nI k))] := hl
  refine zG (fun GG hG1 hG2 => ?_)
  refine lv_aload_n hx hb dX5_addPiece_0 rfl (lv_at hl 1 rfl) ?_
  refine lv_iload_n hx hb dX5_addPiece_1 rfl (lv_at hl 2 rfl) ?_
  refine lv_iload_n hx hb dX5_addPiece_2 rfl (lv_at hl 3 rfl) ?_
  refine z_calli (wr := [(a0, .inr (5, [.ref a1, .int (nI n)])), (a1, .inl (kB, cap, .inl f))]) (va_runV (As := [.int (nI i), .int (nI k)]) (rest := []) ⟨hx, hb, hml, hown, hts⟩ (c_Row_hasPiece l dC dI kB kI b0 b1 cap2 n3 g (nI i) ((i : Nat) : Int) (nI k) ((k : Nat) : Int) (by omega) (by omega) (nI_toInt (by omega)) (nI_toInt (by omega)) s.heap.size) (cwV 2 hts gX5_addPiece_X5_hasPiece rfl rfl rfl (by decide +kernel) ⟨Nat.le_of_ble_eq_true rfl, Nat.le_of_ble_eq_true rfl⟩) (z_preV hK (hP.sub [2, 3] rfl) (hD.sub [2, 3] (by decide) rfl) (va_recv hK hP (ci := 5) (q0 := 2) rfl rfl)) rfl rfl hl.1 rfl (lv_room (Nat.le_of_ble_eq_true rfl)) dX5_addPiece_3 ⟨Nat.le_of_ble_eq_true rfl, Nat.le_of_ble_eq_true rfl⟩) hK hP hD hS hA [2, 3] [0, 1] rfl rfl (by decide) (by decide) (fun r1 u2 H locs hw hP hD hS => ?_)
  have hw : (r1 = 1 ∧ 0 ≤ ((i : Nat) : Int) ∧ 0 ≤ ((k : Nat) : Int) ∧ ((i : Nat) : Int) + ((k : Nat) : Int) ≤ n3) ∨ (r1 = 0 ∧ (((i : Nat) : Int) < 0 ∨ ((k : Nat) : Int) < 0 ∨ (n3 : Int) < ((i : Nat) : Int) + ((k : Nat) : Int))) := hw
  have hP : va_P (dC, dI) vwCl [(a0, .inr (5, [.ref a1, .int (nI n)])), (a1, .inl (kB, cap, .inl f)), (b0, .inr (5, [.ref b1, .int (nI n3)])), (b1, .inl (kB, cap2, .inl g))] H := hP
  have hD : va_D A [(a0, .inr (5, [.ref a1, .int (nI n)])), (a1, .inl (kB, cap, .inl f)), (b0, .inr (5, [.ref b1, .int (nI n3)])), (b1, .inl (kB, cap2, .inl g))] := hD
  rcases hw with ⟨r1e, hw⟩ | ⟨r1e, hw⟩ <;> subst r1e
  · refine lv_if_eq (tgt := 44) hx hb dX5_addPiece_6 (by decide) (fun c => absurd c (by decide)) (fun _ => ?_)
    refine lv_iload_n hx hb dX5_addPiece_9 rfl (lv_at hl 3 rfl) ?_
    refine lv_aload_n hx hb dX5_addPiece_10 rfl (lv_at hl 0 rfl) ?_
    refine z_calli (wr := [(b0, .inr (5, [.ref b1, .int (nI n3)])), (b1, .inl (kB, cap2, .inl g))]) (va_runV (As := []) (rest := [.int (nI k)]) ⟨hx, hb, hml, hown, hts⟩ (c_Row_room l dC dI kB kI a0 a1 cap n f (by omega) (by omega) H.size) (cwV 0 hts gX5_addPiece_X5_room rfl rfl rfl (by decide +kernel) ⟨Nat.le_of_ble_eq_true rfl, Nat.le_of_ble_eq_true rfl⟩) (z_preV hK (hP.sub [0, 1] rfl) (hD.sub [0, 1] (by decide) rfl) (va_recv hK hP (ci := 5) (q0 := 0) rfl rfl)) rfl rfl hl.1 rfl (lv_room (Nat.le_of_ble_eq_true rfl)) dX5_addPiece_11 ⟨Nat.le_of_ble_eq_true rfl, Nat.le_of_ble_eq_true rfl⟩) hK hP hD hS hA [0, 1] [2, 3] rfl rfl (by decide) (by decide) (fun r3 u4 H locs hw hP hD hS => ?_)
    have hw : r3 = nI (cap - n) := hw
    have hP : va_P (dC, dI) vwCl [(b0, .inr (5, [.ref b1, .int (nI n3)])), (b1, .inl (kB, cap2, .inl g)), (a0, .inr (5, [.ref a1, .int (nI n)])), (a1, .inl (kB, cap, .inl f))] H := hP
    have hD : va_D A [(b0, .inr (5, [.ref b1, .int (nI n3)])), (b1, .inl (kB, cap2, .inl g)), (a0, .inr (5, [.ref a1, .int (nI n)])), (a1, .inl (kB, cap, .inl f))] := hD
    subst hw
    refine zb_icmp_gt (tgt := 44) (a := ((k : Nat) : Int)) (b := ((cap - n : Nat) : Int)) hx hb dX5_addPiece_14 (by decide) (nI_toInt (by omega)) (nI_toInt (by omega)) (fun c14 => ?_) (fun c14 => ?_)
    · omega
    · refine lv_aload_n hx hb dX5_addPiece_17 rfl (lv_at hl 1 rfl) ?_
      refine va_get (D := (dC, dI)) (ci := 5) (v := .ref b1) (C := RX5) (T := TX5) (N := 2) hx hb hts (by decide +kernel) hown hK hP 0 rfl rfl 0 (by decide) (hts (.fieldLink RX5 15 "SequenceFrames$Row" "bytes" "[B") (by decide +kernel)) (fun _ h9 => h9) rfl dX5_addPiece_18 ?_
      refine lv_iload_n hx hb dX5_addPiece_21 rfl (lv_at hl 2 rfl) ?_
      refine lv_aload_n hx hb dX5_addPiece_22 rfl (lv_at hl 0 rfl) ?_
      refine va_get (D := (dC, dI)) (ci := 5) (v := .ref a1) (C := RX5) (T := TX5) (N := 2) hx hb hts (by decide +kernel) hown hK hP 2 rfl rfl 0 (by decide) (hts (.fieldLink RX5 15 "SequenceFrames$Row" "bytes" "[B") (by decide +kernel)) (fun _ h9 => h9) rfl dX5_addPiece_23 ?_
      refine lv_aload_n hx hb dX5_addPiece_26 rfl (lv_at hl 0 rfl) ?_
      refine va_get (D := (dC, dI)) (ci := 5) (v := .int (nI n)) (C := RX5) (T := TX5) (N := 2) hx hb hts (by decide +kernel) hown hK hP 2 rfl rfl 1 (by decide) (hts (.fieldLink RX5 21 "SequenceFrames$Row" "size" "I") (by decide +kernel)) (fun _ h9 => h9) rfl dX5_addPiece_27 ?_
      refine lv_iload_n hx hb dX5_addPiece_30 rfl (lv_at hl 3 rfl) ?_
      refine z_copyb hx hb (hml.trans hl.1.symm) hown (hts (.methodLink RX5 41 arraycopyName) (by decide +kernel)) (hts (.native arraycopyName) (by decide +kernel)) (hts (.static arraycopyName) (by decide +kernel)) (hts (.initialized "java/lang/System") (by decide +kernel)) hK hP hD hS 1 3 0 0 rfl rfl rfl rfl (by omega) (by omega) (by omega) (by omega) (by omega) hg (Nat.le_of_ble_eq_true rfl) (Nat.le_of_ble_eq_true rfl) dX5_addPiece_31 (fun H locs hP hD hS => ?_)
      have hP : va_P (dC, dI) vwCl [(b0, .inr (5, [.ref b1, .int (nI n3)])), (b1, .inl (kB, cap2, .inl g)), (a0, .inr (5, [.ref a1, .int (nI n)])), (a1, .inl (kB, cap, .inl (apF f n k (fun j => g (i + j)))))] H := hP
      have hD : va_D A [(b0, .inr (5, [.ref b1, .int (nI n3)])), (b1, .inl (kB, cap2, .inl g)), (a0, .inr (5, [.ref a1, .int (nI n)])), (a1, .inl (kB, cap, .inl (apF f n k (fun j => g (i + j)))))] := hD
      refine lv_aload_n hx hb dX5_addPiece_34 rfl (lv_at hl 0 rfl) ?_
      refine lv_dup hx hb dX5_addPiece_35 rfl ?_
      refine va_get (D := (dC, dI)) (ci := 5) (v := .int (nI n)) (C := RX5) (T := TX5) (N := 2) hx hb hts (by decide +kernel) hown hK hP 2 rfl rfl 1 (by decide) (hts (.fieldLink RX5 21 "SequenceFrames$Row" "size" "I") (by decide +kernel)) (fun _ h9 => h9) rfl dX5_addPiece_36 ?_
      refine lv_iload_n hx hb dX5_addPiece_39 rfl (lv_at hl 3 rfl) ?_
      refine lv_iadd hx hb dX5_addPiece_40 ?_
      refine lv_is (y := (nI (n + k))) ((zn_add rfl rfl)) ?_
      refine va_put (D := (dC, dI)) (ci := 5) (v := .int (nI (n + k))) (ty := .int) (C := RX5) (T := TX5) (N := 2) hx hb hts (by decide +kernel) tyX5 tyX5_ok nmX5 hown hK hP hD hS 2 rfl rfl 1 (by decide) (hts (.fieldLink RX5 21 "SequenceFrames$Row" "size" "I") (by decide +kernel)) (fun _ h9 => h9) rfl (by decide +kernel) rfl rfl (Nat.le_of_ble_eq_true rfl) dX5_addPiece_41 (fun H locs hP hD hS => ?_)
      have hP : va_P (dC, dI) vwCl [(b0, .inr (5, [.ref b1, .int (nI n3)])), (b1, .inl (kB, cap2, .inl g)), (a0, .inr (5, [.ref a1, .int (nI (n + k))])), (a1, .inl (kB, cap, .inl (apF f n k (fun j => g (i + j)))))] H := hP
      have hD : va_D A [(b0, .inr (5, [.ref b1, .int (nI n3)])), (b1, .inl (kB, cap2, .inl g)), (a0, .inr (5, [.ref a1, .int (nI (n + k))])), (a1, .inl (kB, cap, .inl (apF f n k (fun j => g (i + j)))))] := hD
      have hP9 := hP.sub (ws' := [(a0, .inr (5, [.ref a1, .int (nI (n + k))])), (a1, .inl (kB, cap, .inl (apF f n k (fun j => g (i + j))))), (b0, .inr (5, [.ref b1, .int (nI n3)])), (b1, .inl (kB, cap2, .inl g))]) [2, 3, 0, 1] rfl
      have hD9 := hD.sub (ws' := [(a0, .inr (5, [.ref a1, .int (nI (n + k))])), (a1, .inl (kB, cap, .inl (apF f n k (fun j => g (i + j))))), (b0, .inr (5, [.ref b1, .int (nI n3)])), (b1, .inl (kB, cap2, .inl g))]) [2, 3, 0, 1] (by decide) rfl
      exact W.vret hx hb hr (fun t9 ht9 hW9 => ⟨⟨(), rfl, trivial, by rw [ht9]; exact hP9, va_K.moved hW9.alike hK, hD9⟩, hS.F ht9⟩) hS.2.2 dX5_addPiece_44
  · omega
