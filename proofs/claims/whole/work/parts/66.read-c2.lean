set_option maxHeartbeats 4000000 in
set_option maxRecDepth 100000 in
theorem c_Blk_readNumber (l : Launch) (dC : Nat → ClassId) (dI : Nat → Nat → Nat) (kB kI : ClassId) (k0 : Nat) (g0 : Nat) (e0 : Nat) (f0 : Nat) (k3 : Int32) (k6 : Int32) (k7 : Int32) (k8 : Int32) (k9 : Int32) (k10 : Int32) (k11 : Int32) (k12 : Int32) (aa : Nat) (ee : Nat) (g1 : Nat) (f : Nat → Int32) (n : Nat) (nib : Nat) (hn : n ≤ 150000) (hee : ee ≤ n) (ha : aa ≤ ee) (hnib : nib ≤ 15) : zMi l yX0_readNumber wsX0_readNumber ({ frames := 1, cells := 0, slots := 0, locals := 21 }) (dC, dI) kB kI [.ref k0, .int (nI nib)] [(k0, .inr (0, [.ref g0, .ref e0, .ref f0, .int k3, .int (nI aa), .int (nI ee), .int k6, .int k7, .int k8, .int k9, .int k10, .int k11, .int k12])), (g0, .inr (5, [.ref g1, .int (nI n)])), (g1, .inl (kB, 150000, .inl f))] 0 0 (fun (r : Int32) => fun a2 : Nat => (∃ w : Nat, lenRd f ee aa nib = some (w, a2) ∧ r = nI w) ∨ (lenRd f ee aa nib = none ∧ r = -1)) (fun a2 : Nat => [(k0, .inr (0, [.ref g0, .ref e0, .ref f0, .int k3, .int (nI a2), .int (nI ee), .int k6, .int k7, .int k8, .int k9, .int k10, .int k11, .int k12])), (g0, .inr (5, [.ref g1, .int (nI n)])), (g1, .inl (kB, 150000, .inl f))]) := by
  intro sz
  refine Met.ofW (cc := cX0_readNumber) (maxL := 4) (ret := (some .int)) (by decide) rfl ?_
  intro p e s m args below meth c s₁ B hml hv
  obtain ⟨rfl, hsz, hP, hK, hD0⟩ := hv
  have hx := B.exec
  have hb := B.bytes
  have hr := B.returns
  have hts := atoms_spec (ws := wsX0_readNumber) B.pre
  have hown : s.vm.findClass RX0 = some m.cls := findClass_of_methodNamed B.named
  have hlocks := B.notSynchronized
  subst hsz
  have hD := hD0.self (sz := s.heap.size)
  generalize hAe : va_A [(k0, .inr (0, [.ref g0, .ref e0, .ref f0, .int k3, .int (nI aa), .int (nI ee), .int k6, .int k7, .int k8, .int k9, .int k10, .int k11, .int k12])), (g0, .inr (5, [.ref g1, .int (nI n)])), (g1, .inl (kB, 150000, .inl f))] s.heap.size = A at hD ⊢
  have hA : ∀ q : Nat, s.heap.size ≤ q → A q := fun q h => by rw [← hAe]; exact Or.inr h
  have hS : va_S A s.heap s.heap [] := va_S.rf
  have hP : va_P (dC, dI) vwCl [(k0, .inr (0, [.ref g0, .ref e0, .ref f0, .int k3, .int (nI aa), .int (nI ee), .int k6, .int k7, .int k8, .int k9, .int k10, .int k11, .int k12])), (g0, .inr (5, [.ref g1, .int (nI n)])), (g1, .inl (kB, 150000, .inl f))] s.heap := hP
  have hl := lv_entry ([.ref k0, .int (nI nib)]) (n := 4) (Nat.le_of_ble_eq_true rfl)
  rw [lg_entry_eq]
  generalize (lg_sl ([.ref k0, .int (nI nib)]) ++ List.replicate (4 - (lg_sl ([.ref k0, .int (nI nib)])).length) Slot.unset).toArray = ls at hl ⊢
  have hl : lv_has ls 4 [(0, .ref k0), (1, .int (nI nib))] := hl
  refine zG (fun GG hG1 hG2 => ?_)
  refine lv_iload_n hx hb dX0_readNumber_0 rfl (lv_at hl 1 rfl) ?_
  refine lv_bipush (v := 15) hx hb dX0_readNumber_1 (by decide) ?_
  refine zb_icmp_eq (tgt := 8) (a := ((nib : Nat) : Int)) (b := 15) hx hb dX0_readNumber_3 (by decide) (nI_toInt (by omega)) (by decide) (fun c3 => ?_) (fun c3 => ?_)
  · have hR : lenRd f ee aa nib = lenLoop f ee (ee - aa + 1) aa 15 := if_pos (by omega)
    refine lv_iload_n hx hb dX0_readNumber_8 rfl (lv_at hl 1 rfl) ?_
    refine lv_istore_n (lv' := [(2, .int (nI nib)), (0, .ref k0), (1, .int (nI nib))]) hx hb dX0_readNumber_9 rfl hl (by decide) rfl (fun ls hl => ?_)
    have eq9 : ((nI nib) : Int32) = (nI 15) := congrArg nI (by omega)
    have hl : lv_has ls 4 [(2, .int (nI 15)), (0, .ref k0), (1, .int (nI nib))] := by rw [← eq9]; exact hl
    have lp : ∀ (kf : Nat) (kq : Nat) (aq : Nat) (cq : Nat) (hI : lenLoop f ee (ee - aa + 1) aa 15 = lenLoop f ee kq aq cq) (hkq : ee + 1 ≤ aq + kq) (haq : aq ≤ ee) (hcq : cq ≤ 15 + 255 * (aq - aa)) (ha8 : aa ≤ aq), ee - aq < kf → ∀ (H : Heap) (locs : List Loc), va_P (dC, dI) vwCl [(k0, .inr (0, [.ref g0, .ref e0, .ref f0, .int k3, .int (nI aq), .int (nI ee), .int k6, .int k7, .int k8, .int k9, .int k10, .int k11, .int k12])), (g0, .inr (5, [.ref g1, .int (nI n)])), (g1, .inl (kB, 150000, .inl f))] H → va_D A [(k0, .inr (0, [.ref g0, .ref e0, .ref f0, .int k3, .int (nI aq), .int (nI ee), .int k6, .int k7, .int k8, .int k9, .int k10, .int k11, .int k12])), (g0, .inr (5, [.ref g1, .int (nI n)])), (g1, .inl (kB, 150000, .inl f))] → va_S A s.heap H locs → ∀ (ls : Array Slot), lv_has ls 4 [(0, .ref k0), (2, .int (nI cq))] → GG H locs (F0 m 10 ls []) := by
      intro kf
      induction kf with
      | zero => intro kq aq cq hI hkq haq hcq ha8 hm; exact absurd hm (Nat.not_lt_zero _)
      | succ kf ih =>
        intro kq aq cq hI hkq haq hcq ha8 hm H locs hP hD hS ls hl
        apply hG1
        refine lv_aload_n hx hb dX0_readNumber_10 rfl (lv_at hl 0 rfl) ?_
        refine va_get (D := (dC, dI)) (ci := 0) (v := .int (nI aq)) (C := RX0) (T := TX0) (N := 13) hx hb hts (by decide +kernel) hown hK hP 0 rfl rfl 4 (by decide) (hts (.fieldLink RX0 26 "SequenceFrames$BlockReader" "at" "I") (by decide +kernel)) (fun _ h9 => h9) rfl dX0_readNumber_11 ?_
        refine lv_aload_n hx hb dX0_readNumber_14 rfl (lv_at hl 0 rfl) ?_
        refine va_get (D := (dC, dI)) (ci := 0) (v := .int (nI ee)) (C := RX0) (T := TX0) (N := 13) hx hb hts (by decide +kernel) hown hK hP 0 rfl rfl 5 (by decide) (hts (.fieldLink RX0 40 "SequenceFrames$BlockReader" "end" "I") (by decide +kernel)) (fun _ h9 => h9) rfl dX0_readNumber_15 ?_
        refine zb_icmp_ge (tgt := 59) (a := ((aq : Nat) : Int)) (b := ((ee : Nat) : Int)) hx hb dX0_readNumber_18 (by decide) (nI_toInt (by omega)) (nI_toInt (by omega)) (fun c18 => ?_) (fun c18 => ?_)
        · refine lv_iconst (v := (-1)) hx hb dX0_readNumber_59 (by decide) ?_
          have hP9 := hP.sub (ws' := [(k0, .inr (0, [.ref g0, .ref e0, .ref f0, .int k3, .int (nI aq), .int (nI ee), .int k6, .int k7, .int k8, .int k9, .int k10, .int k11, .int k12])), (g0, .inr (5, [.ref g1, .int (nI n)])), (g1, .inl (kB, 150000, .inl f))]) [0, 1, 2] rfl
          have hD9 := hD.sub (ws' := [(k0, .inr (0, [.ref g0, .ref e0, .ref f0, .int k3, .int (nI aq), .int (nI ee), .int k6, .int k7, .int k8, .int k9, .int k10, .int k11, .int k12])), (g0, .inr (5, [.ref g1, .int (nI n)])), (g1, .inl (kB, 150000, .inl f))]) [0, 1, 2] (by decide) rfl
          exact W.iret (v := (-1)) hx hb hr (fun t9 ht9 hW9 => ⟨⟨(-1), aq, rfl, (Or.inr ⟨by rw [hR, hI]; exact lenLoop_out _ (by omega), rfl⟩), by rw [ht9]; exact hP9, va_K.moved hW9.alike hK, hD9⟩, hS.F ht9⟩) hS.2.2 dX0_readNumber_60
        · obtain ⟨q, eq⟩ : ∃ q, kq = q + 1 := ⟨kq - 1, by omega⟩
          refine lv_aload_n hx hb dX0_readNumber_21 rfl (lv_at hl 0 rfl) ?_
          refine va_get (D := (dC, dI)) (ci := 0) (v := .ref g0) (C := RX0) (T := TX0) (N := 13) hx hb hts (by decide +kernel) hown hK hP 0 rfl rfl 0 (by decide) (hts (.fieldLink RX0 9 "SequenceFrames$BlockReader" "frames" "LSequenceFrames$Row;") (by decide +kernel)) (fun _ h9 => h9) rfl dX0_readNumber_22 ?_
          refine lv_aload_n hx hb dX0_readNumber_25 rfl (lv_at hl 0 rfl) ?_
          refine va_get (D := (dC, dI)) (ci := 0) (v := .int (nI aq)) (C := RX0) (T := TX0) (N := 13) hx hb hts (by decide +kernel) hown hK hP 0 rfl rfl 4 (by decide) (hts (.fieldLink RX0 26 "SequenceFrames$BlockReader" "at" "I") (by decide +kernel)) (fun _ h9 => h9) rfl dX0_readNumber_26 ?_
          refine z_calli (wr := [(k0, .inr (0, [.ref g0, .ref e0, .ref f0, .int k3, .int (nI aq), .int (nI ee), .int k6, .int k7, .int k8, .int k9, .int k10, .int k11, .int k12]))]) (va_runV (As := [.int (nI aq)]) (rest := []) ⟨hx, hb, hml, hown, hts⟩ (c_Row_get l dC dI kB kI g0 g1 150000 n f (nI aq) ((aq : Nat) : Int) (by omega) (by omega) (nI_toInt (by omega)) H.size) (cwV 1 hts gX0_readNumber_X5_get rfl rfl rfl (by decide +kernel) ⟨Nat.le_of_ble_eq_true rfl, Nat.le_of_ble_eq_true rfl⟩) (z_preV hK (hP.sub [1, 2] rfl) (hD.sub [1, 2] (by decide) rfl) (va_recv hK hP (ci := 5) (q0 := 1) rfl rfl)) rfl rfl hl.1 rfl (lv_room (Nat.le_of_ble_eq_true rfl)) dX0_readNumber_29 ⟨Nat.le_of_ble_eq_true rfl, Nat.le_of_ble_eq_true rfl⟩) hK hP hD hS hA [1, 2] [0] rfl rfl (by decide) (by decide) (fun r1 uq2 H locs hw hP hD hS => ?_)
          replace hw : (∃ j : Nat, ((aq : Nat) : Int) = j ∧ j < n ∧ r1 = f j &&& 255) ∨ ((((aq : Nat) : Int) < 0 ∨ (n : Int) ≤ ((aq : Nat) : Int)) ∧ r1 = -1) := hw
          have hP : va_P (dC, dI) vwCl [(k0, .inr (0, [.ref g0, .ref e0, .ref f0, .int k3, .int (nI aq), .int (nI ee), .int k6, .int k7, .int k8, .int k9, .int k10, .int k11, .int k12])), (g0, .inr (5, [.ref g1, .int (nI n)])), (g1, .inl (kB, 150000, .inl f))] H := hP
          have hD : va_D A [(k0, .inr (0, [.ref g0, .ref e0, .ref f0, .int k3, .int (nI aq), .int (nI ee), .int k6, .int k7, .int k8, .int k9, .int k10, .int k11, .int k12])), (g0, .inr (5, [.ref g1, .int (nI n)])), (g1, .inl (kB, 150000, .inl f))] := hD
          have hw2 : r1 = nI (ub (f aq)) := by
            rcases hw with ⟨j1, ej1, hj1, er⟩ | ⟨hw, er⟩
            · rw [er, show j1 = aq by omega]; exact ub_eq _
            · omega
          clear hw
          subst hw2
          have hub := ub_lt (f aq)
          refine lv_istore_n (lv' := [(3, .int (nI (ub (f aq)))), (0, .ref k0), (2, .int (nI cq))]) hx hb dX0_readNumber_32 rfl hl (by decide) rfl (fun ls hl => ?_)
          refine lv_aload_n hx hb dX0_readNumber_33 rfl (lv_at hl 1 rfl) ?_
          refine lv_dup hx hb dX0_readNumber_34 rfl ?_
          refine va_get (D := (dC, dI)) (ci := 0) (v := .int (nI aq)) (C := RX0) (T := TX0) (N := 13) hx hb hts (by decide +kernel) hown hK hP 0 rfl rfl 4 (by decide) (hts (.fieldLink RX0 26 "SequenceFrames$BlockReader" "at" "I") (by decide +kernel)) (fun _ h9 => h9) rfl dX0_readNumber_35 ?_
          refine lv_iconst (v := 1) hx hb dX0_readNumber_38 (by decide) ?_
          refine lv_iadd hx hb dX0_readNumber_39 ?_
          refine lv_is (y := (nI (aq + 1))) ((zn_add rfl (show (1 : Int32) = nI 1 from rfl))) ?_
          refine va_put (D := (dC, dI)) (ci := 0) (v := .int (nI (aq + 1))) (ty := .int) (C := RX0) (T := TX0) (N := 13) hx hb hts (by decide +kernel) tyX0 tyX0_ok nmX0 hown hK hP hD hS 0 rfl rfl 4 (by decide) (hts (.fieldLink RX0 26 "SequenceFrames$BlockReader" "at" "I") (by decide +kernel)) (fun _ h9 => h9) rfl (by decide +kernel) rfl rfl (Nat.le_of_ble_eq_true rfl) dX0_readNumber_40 (fun H locs hP hD hS => ?_)
          have hP : va_P (dC, dI) vwCl [(k0, .inr (0, [.ref g0, .ref e0, .ref f0, .int k3, .int (nI (aq + 1)), .int (nI ee), .int k6, .int k7, .int k8, .int k9, .int k10, .int k11, .int k12])), (g0, .inr (5, [.ref g1, .int (nI n)])), (g1, .inl (kB, 150000, .inl f))] H := hP
          have hD : va_D A [(k0, .inr (0, [.ref g0, .ref e0, .ref f0, .int k3, .int (nI (aq + 1)), .int (nI ee), .int k6, .int k7, .int k8, .int k9, .int k10, .int k11, .int k12])), (g0, .inr (5, [.ref g1, .int (nI n)])), (g1, .inl (kB, 150000, .inl f))] := hD
          refine lv_iload_n hx hb dX0_readNumber_43 rfl (lv_at hl 2 rfl) ?_
          refine lv_iload_n hx hb dX0_readNumber_44 rfl (lv_at hl 0 rfl) ?_
          refine lv_iadd hx hb dX0_readNumber_45 ?_
          refine lv_is (y := (nI (cq + (ub (f aq))))) ((zn_add rfl rfl)) ?_
          refine lv_istore_n (lv' := [(2, .int (nI (cq + (ub (f aq))))), (3, .int (nI (ub (f aq)))), (0, .ref k0)]) hx hb dX0_readNumber_46 rfl hl (by decide) rfl (fun ls hl => ?_)
          refine lv_iload_n hx hb dX0_readNumber_47 rfl (lv_at hl 1 rfl) ?_
          refine lv_sipush (v := 255) hx hb dX0_readNumber_48 (by decide) ?_
          refine zb_icmp_eq (tgt := 56) (a := ((ub (f aq) : Nat) : Int)) (b := 255) hx hb dX0_readNumber_51 (by decide) (nI_toInt (by omega)) (by decide) (fun c51 => ?_) (fun c51 => ?_)
          · refine lv_goto (tgt := 10) hx hb dX0_readNumber_56 (by decide) ?_
            exact hG2 _ _ _ (ih q (aq + 1) (cq + ub (f aq)) (by rw [hI, eq, lenLoop_255 (by omega) (by omega), show ub (f aq) = 255 by omega]) (by omega) (by omega) (by omega) (by omega) (by omega) _ _ (hP.sub [0, 1, 2] rfl) (hD.sub [0, 1, 2] (by decide) rfl) hS ls (lv_sub hl [2, 0] rfl))
          · refine lv_iload_n hx hb dX0_readNumber_54 rfl (lv_at hl 0 rfl) ?_
            have hP9 := hP.sub (ws' := [(k0, .inr (0, [.ref g0, .ref e0, .ref f0, .int k3, .int (nI (aq + 1)), .int (nI ee), .int k6, .int k7, .int k8, .int k9, .int k10, .int k11, .int k12])), (g0, .inr (5, [.ref g1, .int (nI n)])), (g1, .inl (kB, 150000, .inl f))]) [0, 1, 2] rfl
            have hD9 := hD.sub (ws' := [(k0, .inr (0, [.ref g0, .ref e0, .ref f0, .int k3, .int (nI (aq + 1)), .int (nI ee), .int k6, .int k7, .int k8, .int k9, .int k10, .int k11, .int k12])), (g0, .inr (5, [.ref g1, .int (nI n)])), (g1, .inl (kB, 150000, .inl f))]) [0, 1, 2] (by decide) rfl
            exact W.iret (v := (nI (cq + (ub (f aq))))) hx hb hr (fun t9 ht9 hW9 => ⟨⟨(nI (cq + (ub (f aq)))), (aq + 1), rfl, (Or.inl ⟨cq + ub (f aq), by rw [hR, hI, eq]; exact lenLoop_fin (by omega) (by omega), rfl⟩), by rw [ht9]; exact hP9, va_K.moved hW9.alike hK, hD9⟩, hS.F ht9⟩) hS.2.2 dX0_readNumber_55
    exact hG2 _ _ _ (lp (ee - aa + 1) (ee - aa + 1) aa 15 rfl (by omega) (by omega) (by omega) (by omega) (Nat.lt_succ_self _) _ _ (hP.sub [0, 1, 2] rfl) (hD.sub [0, 1, 2] (by decide) rfl) hS ls (lv_sub hl [1, 0] rfl))
  · refine lv_iload_n hx hb dX0_readNumber_6 rfl (lv_at hl 1 rfl) ?_
    have hP9 := hP.sub (ws' := [(k0, .inr (0, [.ref g0, .ref e0, .ref f0, .int k3, .int (nI aa), .int (nI ee), .int k6, .int k7, .int k8, .int k9, .int k10, .int k11, .int k12])), (g0, .inr (5, [.ref g1, .int (nI n)])), (g1, .inl (kB, 150000, .inl f))]) [0, 1, 2] rfl
    have hD9 := hD.sub (ws' := [(k0, .inr (0, [.ref g0, .ref e0, .ref f0, .int k3, .int (nI aa), .int (nI ee), .int k6, .int k7, .int k8, .int k9, .int k10, .int k11, .int k12])), (g0, .inr (5, [.ref g1, .int (nI n)])), (g1, .inl (kB, 150000, .inl f))]) [0, 1, 2] (by decide) rfl
    exact W.iret (v := (nI nib)) hx hb hr (fun t9 ht9 hW9 => ⟨⟨(nI nib), aa, rfl, (Or.inl ⟨nib, if_neg (by omega), rfl⟩), by rw [ht9]; exact hP9, va_K.moved hW9.alike hK, hD9⟩, hS.F ht9⟩) hS.2.2 dX0_readNumber_7
