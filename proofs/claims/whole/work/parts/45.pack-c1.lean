set_option maxHeartbeats 4000000 in
set_option maxRecDepth 100000 in
theorem c_Opt_flags (l : Launch) (dC : Nat → ClassId) (dI : Nat → Nat → Nat) (kB kI : ClassId) (o0 : Nat) (o1 : Nat) (v : Nat → Int32) (lk : Bool) (ck : Bool) (sz : Bool) (ca : Bool) (cd : Nat) (pt : Nat) (hv : optV v lk ck sz ca cd pt) : zMi l yX3_flags wsX3_flags ({ frames := 0, cells := 0, slots := 0, locals := 0 }) (dC, dI) kB kI [.ref o0] [(o0, .inr (3, [.ref o1])), (o1, .inl (kI, 6, .inl v))] 0 0 (fun (r : Int32) => fun _ : Unit => r = nI (flN lk ck sz ca)) (fun _ : Unit => [(o0, .inr (3, [.ref o1])), (o1, .inl (kI, 6, .inl v))]) := by
  intro sz
  refine Met.ofW (cc := cX3_flags) (maxL := 1) (ret := (some .int)) (by decide) rfl ?_
  intro p e s m args below meth c s₁ B hml hv
  obtain ⟨rfl, hsz, hP, hK, hD0⟩ := hv
  have hx := B.exec
  have hb := B.bytes
  have hr := B.returns
  have hts := atoms_spec (ws := wsX3_flags) B.pre
  have hown : s.vm.findClass RX3 = some m.cls := findClass_of_methodNamed B.named
  have hlocks := B.notSynchronized
  subst hsz
  have hD := hD0.self (sz := s.heap.size)
  generalize hAe : va_A [(o0, .inr (3, [.ref o1])), (o1, .inl (kI, 6, .inl v))] s.heap.size = A at hD ⊢
  have hA : ∀ q : Nat, s.heap.size ≤ q → A q := fun q h => by rw [← hAe]; exact Or.inr h
  have hS : va_S A s.heap s.heap [] := va_S.rf
  have hP : va_P (dC, dI) vwCl [(o0, .inr (3, [.ref o1])), (o1, .inl (kI, 6, .inl v))] s.heap := hP
  have hl := lv_entry ([.ref o0]) (n := 1) (Nat.le_of_ble_eq_true rfl)
  rw [lg_entry_eq]
  generalize (lg_sl ([.ref o0]) ++ List.replicate (1 - (lg_sl ([.ref o0])).length) Slot.unset).toArray = ls at hl ⊢
  have hl : lv_has ls 1 [(0, .ref o0)] := hl
  refine zG (fun GG hG1 hG2 => ?_)
  obtain ⟨hv0, hv1, hv2, hv3, hv4, hv5, hv6, hv7, hv8, hv9⟩ := hv
  have bk := Bool.toNat_le lk; have bc := Bool.toNat_le ck; have bz := Bool.toNat_le sz; have ba := Bool.toNat_le ca
  have jn0 : ∀   (H : Heap) (locs : List Loc), va_P (dC, dI) vwCl [(o0, .inr (3, [.ref o1])), (o1, .inl (kI, 6, .inl v))] H → va_D A [(o0, .inr (3, [.ref o1])), (o1, .inl (kI, 6, .inl v))] → va_S A s.heap H locs → ∀ (ls : Array Slot), lv_has ls 1 [(0, .ref o0)] → GG H locs (F0 m 18 ls [.int (nI (32 - 32 * lk.toNat)), .int 64]) := by
    intro  H locs hP hD hS ls hl
    apply hG1
    refine lv_iadd hx hb dX3_flags_18 ?_
    refine lv_is (y := (nI (64 + (32 - 32 * lk.toNat)))) ((zn_add (show (64 : Int32) = nI 64 from rfl) rfl)) ?_
    have jn1 : ∀   (H : Heap) (locs : List Loc), va_P (dC, dI) vwCl [(o0, .inr (3, [.ref o1])), (o1, .inl (kI, 6, .inl v))] H → va_D A [(o0, .inr (3, [.ref o1])), (o1, .inl (kI, 6, .inl v))] → va_S A s.heap H locs → ∀ (ls : Array Slot), lv_has ls 1 [(0, .ref o0)] → GG H locs (F0 m 35 ls [.int (nI (16 * ck.toNat)), .int (nI (64 + (32 - 32 * lk.toNat)))]) := by
      intro  H locs hP hD hS ls hl
      apply hG1
      refine lv_iadd hx hb dX3_flags_35 ?_
      refine lv_is (y := (nI ((64 + (32 - 32 * lk.toNat)) + (16 * ck.toNat)))) ((zn_add rfl rfl)) ?_
      have jn2 : ∀   (H : Heap) (locs : List Loc), va_P (dC, dI) vwCl [(o0, .inr (3, [.ref o1])), (o1, .inl (kI, 6, .inl v))] H → va_D A [(o0, .inr (3, [.ref o1])), (o1, .inl (kI, 6, .inl v))] → va_S A s.heap H locs → ∀ (ls : Array Slot), lv_has ls 1 [(0, .ref o0)] → GG H locs (F0 m 52 ls [.int (nI (8 * sz.toNat)), .int (nI (64 + (32 - 32 * lk.toNat) + 16 * ck.toNat))]) := by
        intro  H locs hP hD hS ls hl
        apply hG1
        refine lv_iadd hx hb dX3_flags_52 ?_
        refine lv_is (y := (nI ((64 + (32 - 32 * lk.toNat) + 16 * ck.toNat) + (8 * sz.toNat)))) ((zn_add rfl rfl)) ?_
        have jn3 : ∀   (H : Heap) (locs : List Loc), va_P (dC, dI) vwCl [(o0, .inr (3, [.ref o1])), (o1, .inl (kI, 6, .inl v))] H → va_D A [(o0, .inr (3, [.ref o1])), (o1, .inl (kI, 6, .inl v))] → va_S A s.heap H locs → ∀ (ls : Array Slot), lv_has ls 1 [(0, .ref o0)] → GG H locs (F0 m 68 ls [.int (nI (4 * ca.toNat)), .int (nI (64 + (32 - 32 * lk.toNat) + 16 * ck.toNat + 8 * sz.toNat))]) := by
          intro  H locs hP hD hS ls hl
          apply hG1
          refine lv_iadd hx hb dX3_flags_68 ?_
          refine lv_is (y := (nI ((64 + (32 - 32 * lk.toNat) + 16 * ck.toNat + 8 * sz.toNat) + (4 * ca.toNat)))) ((zn_add rfl rfl)) ?_
          have hP9 := hP.sub (ws' := [(o0, .inr (3, [.ref o1])), (o1, .inl (kI, 6, .inl v))]) [0, 1] rfl
          have hD9 := hD.sub (ws' := [(o0, .inr (3, [.ref o1])), (o1, .inl (kI, 6, .inl v))]) [0, 1] (by decide) rfl
          exact W.iret (v := (nI ((64 + (32 - 32 * lk.toNat) + 16 * ck.toNat + 8 * sz.toNat) + (4 * ca.toNat)))) hx hb hr (fun t9 ht9 hW9 => ⟨⟨(nI ((64 + (32 - 32 * lk.toNat) + 16 * ck.toNat + 8 * sz.toNat) + (4 * ca.toNat))), (), rfl, rfl, by rw [ht9]; exact hP9, va_K.moved hW9.alike hK, hD9⟩, hS.F ht9⟩) hS.2.2 dX3_flags_69
        refine lv_aload_n hx hb dX3_flags_53 rfl (lv_at hl 0 rfl) ?_
        refine va_get (D := (dC, dI)) (ci := 3) (v := .ref o1) (C := RX3) (T := TX3) (N := 1) hx hb hts (by decide +kernel) hown hK hP 0 rfl rfl 0 (by decide) (hts (.fieldLink RX3 10 "SequenceFrames$Options" "values" "[I") (by decide +kernel)) (fun _ h9 => h9) rfl dX3_flags_54 ?_
        refine lv_iconst (v := 3) hx hb dX3_flags_57 (by decide) ?_
        refine va_iald hx hb hK hP 1 1 rfl rfl (zin (show (3 : Int32) = nI 3 from rfl) (by omega) (by omega)) dX3_flags_58 ?_
        refine lv_is (y := (v 3)) (zld v (show (3 : Int32) = nI 3 from rfl) (by omega)) ?_
        refine lv_is (y := (nI ca.toNat)) (hv3) ?_
        refine lv_iconst (v := 1) hx hb dX3_flags_59 (by decide) ?_
        refine zb_icmp_ne (tgt := 67) (a := ((ca.toNat : Nat) : Int)) (b := 1) hx hb dX3_flags_60 (by decide) (nI_toInt (by omega)) (by decide) (fun c60 => ?_) (fun c60 => ?_)
        · refine lv_iconst (v := 0) hx hb dX3_flags_67 (by decide) ?_
          refine lv_is (y := (nI (4 * ca.toNat))) ((by rw [show ca.toNat = 0 by omega]; rfl)) ?_
          exact hG2 _ _ _ (jn3    _ _ (hP.sub [0, 1] rfl) (hD.sub [0, 1] (by decide) rfl) hS ls (lv_sub hl [0] rfl))
        · refine lv_iconst (v := 4) hx hb dX3_flags_63 (by decide) ?_
          refine lv_goto (tgt := 68) hx hb dX3_flags_64 (by decide) ?_
          refine lv_is (y := (nI (4 * ca.toNat))) ((by rw [show ca.toNat = 1 by omega]; rfl)) ?_
          exact hG2 _ _ _ (jn3    _ _ (hP.sub [0, 1] rfl) (hD.sub [0, 1] (by decide) rfl) hS ls (lv_sub hl [0] rfl))
      refine lv_aload_n hx hb dX3_flags_36 rfl (lv_at hl 0 rfl) ?_
      refine va_get (D := (dC, dI)) (ci := 3) (v := .ref o1) (C := RX3) (T := TX3) (N := 1) hx hb hts (by decide +kernel) hown hK hP 0 rfl rfl 0 (by decide) (hts (.fieldLink RX3 10 "SequenceFrames$Options" "values" "[I") (by decide +kernel)) (fun _ h9 => h9) rfl dX3_flags_37 ?_
      refine lv_iconst (v := 2) hx hb dX3_flags_40 (by decide) ?_
      refine va_iald hx hb hK hP 1 1 rfl rfl (zin (show (2 : Int32) = nI 2 from rfl) (by omega) (by omega)) dX3_flags_41 ?_
      refine lv_is (y := (v 2)) (zld v (show (2 : Int32) = nI 2 from rfl) (by omega)) ?_
      refine lv_is (y := (nI sz.toNat)) (hv2) ?_
      refine lv_iconst (v := 1) hx hb dX3_flags_42 (by decide) ?_
      refine zb_icmp_ne (tgt := 51) (a := ((sz.toNat : Nat) : Int)) (b := 1) hx hb dX3_flags_43 (by decide) (nI_toInt (by omega)) (by decide) (fun c43 => ?_) (fun c43 => ?_)
      · refine lv_iconst (v := 0) hx hb dX3_flags_51 (by decide) ?_
        refine lv_is (y := (nI (8 * sz.toNat))) ((by rw [show sz.toNat = 0 by omega]; rfl)) ?_
        exact hG2 _ _ _ (jn2    _ _ (hP.sub [0, 1] rfl) (hD.sub [0, 1] (by decide) rfl) hS ls (lv_sub hl [0] rfl))
      · refine lv_bipush (v := 8) hx hb dX3_flags_46 (by decide) ?_
        refine lv_goto (tgt := 52) hx hb dX3_flags_48 (by decide) ?_
        refine lv_is (y := (nI (8 * sz.toNat))) ((by rw [show sz.toNat = 1 by omega]; rfl)) ?_
        exact hG2 _ _ _ (jn2    _ _ (hP.sub [0, 1] rfl) (hD.sub [0, 1] (by decide) rfl) hS ls (lv_sub hl [0] rfl))
    refine lv_aload_n hx hb dX3_flags_19 rfl (lv_at hl 0 rfl) ?_
    refine va_get (D := (dC, dI)) (ci := 3) (v := .ref o1) (C := RX3) (T := TX3) (N := 1) hx hb hts (by decide +kernel) hown hK hP 0 rfl rfl 0 (by decide) (hts (.fieldLink RX3 10 "SequenceFrames$Options" "values" "[I") (by decide +kernel)) (fun _ h9 => h9) rfl dX3_flags_20 ?_
    refine lv_iconst (v := 1) hx hb dX3_flags_23 (by decide) ?_
    refine va_iald hx hb hK hP 1 1 rfl rfl (zin (show (1 : Int32) = nI 1 from rfl) (by omega) (by omega)) dX3_flags_24 ?_
    refine lv_is (y := (v 1)) (zld v (show (1 : Int32) = nI 1 from rfl) (by omega)) ?_
    refine lv_is (y := (nI ck.toNat)) (hv1) ?_
    refine lv_iconst (v := 1) hx hb dX3_flags_25 (by decide) ?_
    refine zb_icmp_ne (tgt := 34) (a := ((ck.toNat : Nat) : Int)) (b := 1) hx hb dX3_flags_26 (by decide) (nI_toInt (by omega)) (by decide) (fun c26 => ?_) (fun c26 => ?_)
    · refine lv_iconst (v := 0) hx hb dX3_flags_34 (by decide) ?_
      refine lv_is (y := (nI (16 * ck.toNat))) ((by rw [show ck.toNat = 0 by omega]; rfl)) ?_
      exact hG2 _ _ _ (jn1    _ _ (hP.sub [0, 1] rfl) (hD.sub [0, 1] (by decide) rfl) hS ls (lv_sub hl [0] rfl))
    · refine lv_bipush (v := 16) hx hb dX3_flags_29 (by decide) ?_
      refine lv_goto (tgt := 35) hx hb dX3_flags_31 (by decide) ?_
      refine lv_is (y := (nI (16 * ck.toNat))) ((by rw [show ck.toNat = 1 by omega]; rfl)) ?_
      exact hG2 _ _ _ (jn1    _ _ (hP.sub [0, 1] rfl) (hD.sub [0, 1] (by decide) rfl) hS ls (lv_sub hl [0] rfl))
  refine lv_bipush (v := 64) hx hb dX3_flags_0 (by decide) ?_
  refine lv_aload_n hx hb dX3_flags_2 rfl (lv_at hl 0 rfl) ?_
  refine va_get (D := (dC, dI)) (ci := 3) (v := .ref o1) (C := RX3) (T := TX3) (N := 1) hx hb hts (by decide +kernel) hown hK hP 0 rfl rfl 0 (by decide) (hts (.fieldLink RX3 10 "SequenceFrames$Options" "values" "[I") (by decide +kernel)) (fun _ h9 => h9) rfl dX3_flags_3 ?_
  refine lv_iconst (v := 0) hx hb dX3_flags_6 (by decide) ?_
  refine va_iald hx hb hK hP 1 1 rfl rfl (zin (show (0 : Int32) = nI 0 from rfl) (by omega) (by omega)) dX3_flags_7 ?_
  refine lv_is (y := (v 0)) (zld v (show (0 : Int32) = nI 0 from rfl) (by omega)) ?_
  refine lv_is (y := (nI lk.toNat)) (hv0) ?_
  refine lv_iconst (v := 1) hx hb dX3_flags_8 (by decide) ?_
  refine zb_icmp_ne (tgt := 16) (a := ((lk.toNat : Nat) : Int)) (b := 1) hx hb dX3_flags_9 (by decide) (nI_toInt (by omega)) (by decide) (fun c9 => ?_) (fun c9 => ?_)
  · refine lv_bipush (v := 32) hx hb dX3_flags_16 (by decide) ?_
    refine lv_is (y := (nI (32 - 32 * lk.toNat))) ((by rw [show lk.toNat = 0 by omega]; rfl)) ?_
    exact hG2 _ _ _ (jn0    _ _ (hP.sub [0, 1] rfl) (hD.sub [0, 1] (by decide) rfl) hS ls (lv_sub hl [0] rfl))
  · refine lv_iconst (v := 0) hx hb dX3_flags_12 (by decide) ?_
    refine lv_goto (tgt := 18) hx hb dX3_flags_13 (by decide) ?_
    refine lv_is (y := (nI (32 - 32 * lk.toNat))) ((by rw [show lk.toNat = 1 by omega]; rfl)) ?_
    exact hG2 _ _ _ (jn0    _ _ (hP.sub [0, 1] rfl) (hD.sub [0, 1] (by decide) rfl) hS ls (lv_sub hl [0] rfl))
