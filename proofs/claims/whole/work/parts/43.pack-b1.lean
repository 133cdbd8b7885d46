set_option maxHeartbeats 4000000 in
set_option maxRecDepth 100000 in
theorem c_Seq_packedSize (l : Launch) (dC : Nat → ClassId) (dI : Nat → Nat → Nat) (kB kI : ClassId) (s0 : Nat) (s1 : Nat) (s2 : Nat) (s3 : Nat) (st : Nat → Int32) (li : Nat → Int32) (of : Nat → Int32) (pt : Nat) (nu : Nat) (ma : Nat) (LL : List Sq) (en : Nat) (i0 : Nat) (j0 : Nat) (hnu : nu ≤ 140000) (hpt : 1 ≤ pt) (hpt2 : pt ≤ 65536) (hsq : sqC LL en st li of) (hnl : nu = LL.length) (hok : allOK LL) (hij : i0 ≤ j0) (hj0 : j0 ≤ nu) : zMi l yX6_packedSize wsX6_packedSize ({ frames := 2, cells := 0, slots := 0, locals := 42 }) (dC, dI) kB kI [.ref s0, .int (nI i0), .int (nI j0)] [(s0, .inr (6, [.ref s1, .ref s2, .ref s3, .int (nI pt), .int (nI nu), .int (nI ma)])), (s1, .inl (kI, 140001, .inl st)), (s2, .inl (kI, 140000, .inl li)), (s3, .inl (kI, 140000, .inl of))] 0 0 (fun (r : Int32) => fun _ : Unit => r = nI (pkR LL i0 (j0 - i0))) (fun _ : Unit => [(s0, .inr (6, [.ref s1, .ref s2, .ref s3, .int (nI pt), .int (nI nu), .int (nI ma)])), (s1, .inl (kI, 140001, .inl st)), (s2, .inl (kI, 140000, .inl li)), (s3, .inl (kI, 140000, .inl of))]) := by
  intro sz
  refine Met.ofW (cc := cX6_packedSize) (maxL := 5) (ret := (some .int)) (by decide) rfl ?_
  intro p e s m args below meth c s₁ B hml hv
  obtain ⟨rfl, hsz, hP, hK, hD0⟩ := hv
  have hx := B.exec
  have hb := B.bytes
  have hr := B.returns
  have hts := atoms_spec (ws := wsX6_packedSize) B.pre
  have hown : s.vm.findClass RX6 = some m.cls := findClass_of_methodNamed B.named
  have hlocks := B.notSynchronized
  subst hsz
  have hD := hD0.self (sz := s.heap.size)
  generalize hAe : va_A [(s0, .inr (6, [.ref s1, .ref s2, .ref s3, .int (nI pt), .int (nI nu), .int (nI ma)])), (s1, .inl (kI, 140001, .inl st)), (s2, .inl (kI, 140000, .inl li)), (s3, .inl (kI, 140000, .inl of))] s.heap.size = A at hD ⊢
  have hA : ∀ q : Nat, s.heap.size ≤ q → A q := fun q h => by rw [← hAe]; exact Or.inr h
  have hS : va_S A s.heap s.heap [] := va_S.rf
  have hP : va_P (dC, dI) vwCl [(s0, .inr (6, [.ref s1, .ref s2, .ref s3, .int (nI pt), .int (nI nu), .int (nI ma)])), (s1, .inl (kI, 140001, .inl st)), (s2, .inl (kI, 140000, .inl li)), (s3, .inl (kI, 140000, .inl of))] s.heap := hP
  have hl := lv_entry ([.ref s0, .int (nI i0), .int (nI j0)]) (n := 5) (Nat.le_of_ble_eq_true rfl)
  rw [lg_entry_eq]
  generalize (lg_sl ([.ref s0, .int (nI i0), .int (nI j0)]) ++ List.replicate (5 - (lg_sl ([.ref s0, .int (nI i0), .int (nI j0)])).length) Slot.unset).toArray = ls at hl ⊢
  have hl : lv_has ls 5 [(0, .ref s0), (1, .int (nI i0)), (2, .int (nI j0))] := hl
  refine zG (fun GG hG1 hG2 => ?_)
  refine lv_iconst (v := 0) hx hb dX6_packedSize_0 (by decide) ?_
  refine lv_istore_n (lv' := [(3, .int 0), (0, .ref s0), (1, .int (nI i0)), (2, .int (nI j0))]) hx hb dX6_packedSize_1 rfl hl (by decide) rfl (fun ls hl => ?_)
  refine lv_iload_n hx hb dX6_packedSize_2 rfl (lv_at hl 2 rfl) ?_
  refine lv_istore (lv' := [(4, .int (nI i0)), (3, .int 0), (0, .ref s0), (1, .int (nI i0)), (2, .int (nI j0))]) hx hb dX6_packedSize_3 hl (by decide) rfl (fun ls hl => ?_)
  have lp : ∀ (kf : Nat) (u : Nat) (hu : i0 + u ≤ j0), j0 - i0 - u < kf → ∀ (H : Heap) (locs : List Loc), va_P (dC, dI) vwCl [(s0, .inr (6, [.ref s1, .ref s2, .ref s3, .int (nI pt), .int (nI nu), .int (nI ma)])), (s1, .inl (kI, 140001, .inl st)), (s2, .inl (kI, 140000, .inl li)), (s3, .inl (kI, 140000, .inl of))] H → va_D A [(s0, .inr (6, [.ref s1, .ref s2, .ref s3, .int (nI pt), .int (nI nu), .int (nI ma)])), (s1, .inl (kI, 140001, .inl st)), (s2, .inl (kI, 140000, .inl li)), (s3, .inl (kI, 140000, .inl of))] → va_S A s.heap H locs → ∀ (ls : Array Slot), lv_has ls 5 [(0, .ref s0), (2, .int (nI j0)), (3, .int (nI (pkR LL i0 u))), (4, .int (nI (i0 + u)))] → GG H locs (F0 m 5 ls []) := by
    intro kf
    induction kf with
    | zero => intro u hu hm; exact absurd hm (Nat.not_lt_zero _)
    | succ kf ih =>
      intro u hu hm H locs hP hD hS ls hl
      apply hG1
      have hlen : LL.length ≤ 140000 := by omega
      refine lv_iload hx hb dX6_packedSize_5 (lv_at hl 3 rfl) ?_
      refine lv_iload_n hx hb dX6_packedSize_7 rfl (lv_at hl 1 rfl) ?_
      refine zb_icmp_ge (tgt := 63) (a := ((i0 + u : Nat) : Int)) (b := ((j0 : Nat) : Int)) hx hb dX6_packedSize_8 (by decide) (nI_toInt (by omega)) (nI_toInt (by omega)) (fun c8 => ?_) (fun c8 => ?_)
      · have et9 : j0 - i0 = u := by omega
        subst et9
        refine lv_iload_n hx hb dX6_packedSize_63 rfl (lv_at hl 2 rfl) ?_
        have hP9 := hP.sub (ws' := [(s0, .inr (6, [.ref s1, .ref s2, .ref s3, .int (nI pt), .int (nI nu), .int (nI ma)])), (s1, .inl (kI, 140001, .inl st)), (s2, .inl (kI, 140000, .inl li)), (s3, .inl (kI, 140000, .inl of))]) [0, 1, 2, 3] rfl
        have hD9 := hD.sub (ws' := [(s0, .inr (6, [.ref s1, .ref s2, .ref s3, .int (nI pt), .int (nI nu), .int (nI ma)])), (s1, .inl (kI, 140001, .inl st)), (s2, .inl (kI, 140000, .inl li)), (s3, .inl (kI, 140000, .inl of))]) [0, 1, 2, 3] (by decide) rfl
        exact W.iret (v := (nI (pkR LL i0 (j0 - i0)))) hx hb hr (fun t9 ht9 hW9 => ⟨⟨(nI (pkR LL i0 (j0 - i0))), (), rfl, rfl, by rw [ht9]; exact hP9, va_K.moved hW9.alike hK, hD9⟩, hS.F ht9⟩) hS.2.2 dX6_packedSize_64
      · obtain ⟨hA1, hA2, hA3, hA4⟩ := hsq.1 (i0 + u) (by omega)
        obtain ⟨hO1, hO2, hO3, hO4⟩ := hok _ (getD_mem (L := LL) (i := i0 + u) (by omega))
        refine lv_iload_n hx hb dX6_packedSize_11 rfl (lv_at hl 2 rfl) ?_
        refine lv_iconst (v := 1) hx hb dX6_packedSize_12 (by decide) ?_
        refine lv_aload_n hx hb dX6_packedSize_13 rfl (lv_at hl 0 rfl) ?_
        refine lv_iload hx hb dX6_packedSize_14 (lv_at hl 3 rfl) ?_
        refine z_calli (wr := []) (va_runV (As := [.int (nI (i0 + u))]) (rest := [.int 1, .int (nI (pkR LL i0 u))]) ⟨hx, hb, hml, hown, hts⟩ (c_Seq_literalsOf l dC dI kB kI s0 s1 s2 s3 st li of pt nu ma (nI (i0 + u)) ((i0 + u : Nat) : Int) (by omega) (by omega) (by omega) (nI_toInt (by omega)) H.size) (cwV 1 hts gX6_packedSize_X6_literalsOf rfl rfl rfl (by decide +kernel) ⟨Nat.le_of_ble_eq_true rfl, Nat.le_of_ble_eq_true rfl⟩) (z_preV hK (hP.sub [0, 1, 2, 3] rfl) (hD.sub [0, 1, 2, 3] (by decide) rfl) (va_recv hK hP (ci := 6) (q0 := 0) rfl rfl)) rfl rfl hl.1 rfl (lv_room (Nat.le_of_ble_eq_true rfl)) dX6_packedSize_16 ⟨Nat.le_of_ble_eq_true rfl, Nat.le_of_ble_eq_true rfl⟩) hK hP hD hS hA [0, 1, 2, 3] [] rfl rfl (by decide) (by decide) (fun r1 uq2 H locs hw hP hD hS => ?_)
        replace hw : (∃ j : Nat, ((i0 + u : Nat) : Int) = j ∧ j < nu ∧ r1 = li j) ∨ ((((i0 + u : Nat) : Int) < 0 ∨ (nu : Int) ≤ ((i0 + u : Nat) : Int)) ∧ r1 = -1) := hw
        have hP : va_P (dC, dI) vwCl [(s0, .inr (6, [.ref s1, .ref s2, .ref s3, .int (nI pt), .int (nI nu), .int (nI ma)])), (s1, .inl (kI, 140001, .inl st)), (s2, .inl (kI, 140000, .inl li)), (s3, .inl (kI, 140000, .inl of))] H := hP
        have hD : va_D A [(s0, .inr (6, [.ref s1, .ref s2, .ref s3, .int (nI pt), .int (nI nu), .int (nI ma)])), (s1, .inl (kI, 140001, .inl st)), (s2, .inl (kI, 140000, .inl li)), (s3, .inl (kI, 140000, .inl of))] := hD
        have hw2 : r1 = (nI (q_l (LL.getD (i0 + u) sq0))) := by
          rcases hw with ⟨j1, ej1, hj1, er⟩ | ⟨hw, er⟩
          · rw [er, show j1 = i0 + u by omega]; exact hA2
          · omega
        clear hw
        subst hw2
        refine z_calli (wr := [(s0, .inr (6, [.ref s1, .ref s2, .ref s3, .int (nI pt), .int (nI nu), .int (nI ma)])), (s1, .inl (kI, 140001, .inl st)), (s2, .inl (kI, 140000, .inl li)), (s3, .inl (kI, 140000, .inl of))]) (va_runS (As := [.int (nI (q_l (LL.getD (i0 + u) sq0)))]) (rest := [.int 1, .int (nI (pkR LL i0 u))]) ⟨hx, hb, hml, hown, hts⟩ (c_Seq_moreBytes l dC dI kB kI (q_l (LL.getD (i0 + u) sq0)) (by omega) H.size) (va_cwS 1 hts gX6_packedSize_X6_moreBytes rfl rfl rfl (by decide +kernel) ⟨Nat.le_of_ble_eq_true rfl, Nat.le_of_ble_eq_true rfl⟩) (z_preS hK (hP.sub [] rfl) (hD.sub [] (by decide) rfl)) rfl rfl hl.1 rfl (lv_room (Nat.le_of_ble_eq_true rfl)) dX6_packedSize_19 ⟨Nat.le_of_ble_eq_true rfl, Nat.le_of_ble_eq_true rfl⟩) hK hP hD hS hA [] [0, 1, 2, 3] rfl rfl (by decide) (by decide) (fun r3 uq4 H locs hw hP hD hS => ?_)
        replace hw : r3 = nI (moreN (q_l (LL.getD (i0 + u) sq0))) := hw
        have hP : va_P (dC, dI) vwCl [(s0, .inr (6, [.ref s1, .ref s2, .ref s3, .int (nI pt), .int (nI nu), .int (nI ma)])), (s1, .inl (kI, 140001, .inl st)), (s2, .inl (kI, 140000, .inl li)), (s3, .inl (kI, 140000, .inl of))] H := hP
        have hD : va_D A [(s0, .inr (6, [.ref s1, .ref s2, .ref s3, .int (nI pt), .int (nI nu), .int (nI ma)])), (s1, .inl (kI, 140001, .inl st)), (s2, .inl (kI, 140000, .inl li)), (s3, .inl (kI, 140000, .inl of))] := hD
        subst hw
        refine lv_iadd hx hb dX6_packedSize_22 ?_
        refine lv_is (y := (nI (1 + (moreN (q_l (LL.getD (i0 + u) sq0)))))) ((zn_add (show (1 : Int32) = nI 1 from rfl) rfl)) ?_
        refine lv_aload_n hx hb dX6_packedSize_23 rfl (lv_at hl 0 rfl) ?_
        refine lv_iload hx hb dX6_packedSize_24 (lv_at hl 3 rfl) ?_
        refine z_calli (wr := []) (va_runV (As := [.int (nI (i0 + u))]) (rest := [.int (nI (1 + (moreN (q_l (LL.getD (i0 + u) sq0))))), .int (nI (pkR LL i0 u))]) ⟨hx, hb, hml, hown, hts⟩ (c_Seq_literalsOf l dC dI kB kI s0 s1 s2 s3 st li of pt nu ma (nI (i0 + u)) ((i0 + u : Nat) : Int) (by omega) (by omega) (by omega) (nI_toInt (by omega)) H.size) (cwV 1 hts gX6_packedSize_X6_literalsOf rfl rfl rfl (by decide +kernel) ⟨Nat.le_of_ble_eq_true rfl, Nat.le_of_ble_eq_true rfl⟩) (z_preV hK (hP.sub [0, 1, 2, 3] rfl) (hD.sub [0, 1, 2, 3] (by decide) rfl) (va_recv hK hP (ci := 6) (q0 := 0) rfl rfl)) rfl rfl hl.1 rfl (lv_room (Nat.le_of_ble_eq_true rfl)) dX6_packedSize_26 ⟨Nat.le_of_ble_eq_true rfl, Nat.le_of_ble_eq_true rfl⟩) hK hP hD hS hA [0, 1, 2, 3] [] rfl rfl (by decide) (by decide) (fun r5 uq6 H locs hw hP hD hS => ?_)
        replace hw : (∃ j : Nat, ((i0 + u : Nat) : Int) = j ∧ j < nu ∧ r5 = li j) ∨ ((((i0 + u : Nat) : Int) < 0 ∨ (nu : Int) ≤ ((i0 + u : Nat) : Int)) ∧ r5 = -1) := hw
        have hP : va_P (dC, dI) vwCl [(s0, .inr (6, [.ref s1, .ref s2, .ref s3, .int (nI pt), .int (nI nu), .int (nI ma)])), (s1, .inl (kI, 140001, .inl st)), (s2, .inl (kI, 140000, .inl li)), (s3, .inl (kI, 140000, .inl of))] H := hP
        have hD : va_D A [(s0, .inr (6, [.ref s1, .ref s2, .ref s3, .int (nI pt), .int (nI nu), .int (nI ma)])), (s1, .inl (kI, 140001, .inl st)), (s2, .inl (kI, 140000, .inl li)), (s3, .inl (kI, 140000, .inl of))] := hD
        have hw2 : r5 = (nI (q_l (LL.getD (i0 + u) sq0))) := by
          rcases hw with ⟨j1, ej1, hj1, er⟩ | ⟨hw, er⟩
          · rw [er, show j1 = i0 + u by omega]; exact hA2
          · omega
        clear hw
        subst hw2
        refine lv_iadd hx hb dX6_packedSize_29 ?_
        refine lv_is (y := (nI ((1 + (moreN (q_l (LL.getD (i0 + u) sq0)))) + (q_l (LL.getD (i0 + u) sq0))))) ((zn_add rfl rfl)) ?_
        refine lv_iadd hx hb dX6_packedSize_30 ?_
        refine lv_is (y := (nI ((pkR LL i0 u) + ((1 + (moreN (q_l (LL.getD (i0 + u) sq0)))) + (q_l (LL.getD (i0 + u) sq0)))))) ((zn_add rfl rfl)) ?_
        refine lv_istore_n (lv' := [(3, .int (nI ((pkR LL i0 u) + ((1 + (moreN (q_l (LL.getD (i0 + u) sq0)))) + (q_l (LL.getD (i0 + u) sq0)))))), (0, .ref s0), (2, .int (nI j0)), (4, .int (nI (i0 + u)))]) hx hb dX6_packedSize_31 rfl hl (by decide) rfl (fun ls hl => ?_)
        refine lv_aload_n hx hb dX6_packedSize_32 rfl (lv_at hl 1 rfl) ?_
        refine lv_iload hx hb dX6_packedSize_33 (lv_at hl 3 rfl) ?_
        refine z_calli (wr := []) (va_runV (As := [.int (nI (i0 + u))]) (rest := []) ⟨hx, hb, hml, hown, hts⟩ (c_Seq_offsetOf l dC dI kB kI s0 s1 s2 s3 st li of pt nu ma (nI (i0 + u)) ((i0 + u : Nat) : Int) (by omega) (by omega) (by omega) (nI_toInt (by omega)) H.size) (cwV 1 hts gX6_packedSize_X6_offsetOf rfl rfl rfl (by decide +kernel) ⟨Nat.le_of_ble_eq_true rfl, Nat.le_of_ble_eq_true rfl⟩) (z_preV hK (hP.sub [0, 1, 2, 3] rfl) (hD.sub [0, 1, 2, 3] (by decide) rfl) (va_recv hK hP (ci := 6) (q0 := 0) rfl rfl)) rfl rfl hl.1 rfl (lv_room (Nat.le_of_ble_eq_true rfl)) dX6_packedSize_35 ⟨Nat.le_of_ble_eq_true rfl, Nat.le_of_ble_eq_true rfl⟩) hK hP hD hS hA [0, 1, 2, 3] [] rfl rfl (by decide) (by decide) (fun r7 uq8 H locs hw hP hD hS => ?_)
        replace hw : (∃ j : Nat, ((i0 + u : Nat) : Int) = j ∧ j < nu ∧ r7 = of j) ∨ ((((i0 + u : Nat) : Int) < 0 ∨ (nu : Int) ≤ ((i0 + u : Nat) : Int)) ∧ r7 = -1) := hw
        have hP : va_P (dC, dI) vwCl [(s0, .inr (6, [.ref s1, .ref s2, .ref s3, .int (nI pt), .int (nI nu), .int (nI ma)])), (s1, .inl (kI, 140001, .inl st)), (s2, .inl (kI, 140000, .inl li)), (s3, .inl (kI, 140000, .inl of))] H := hP
        have hD : va_D A [(s0, .inr (6, [.ref s1, .ref s2, .ref s3, .int (nI pt), .int (nI nu), .int (nI ma)])), (s1, .inl (kI, 140001, .inl st)), (s2, .inl (kI, 140000, .inl li)), (s3, .inl (kI, 140000, .inl of))] := hD
        have hw2 : r7 = (nI (q_o (LL.getD (i0 + u) sq0))) := by
          rcases hw with ⟨j1, ej1, hj1, er⟩ | ⟨hw, er⟩
          · rw [er, show j1 = i0 + u by omega]; exact hA3
          · omega
        clear hw
        subst hw2
        refine zb_if_le (tgt := 57) (a := ((q_o (LL.getD (i0 + u) sq0) : Nat) : Int)) hx hb dX6_packedSize_38 (by decide) (nI_toInt (by omega)) (fun c38 => ?_) (fun c38 => ?_)
        · refine lv_iinc (v := (nI ((i0 + u) + 1))) (lv' := [(4, .int (nI ((i0 + u) + 1))), (3, .int (nI ((pkR LL i0 u) + ((1 + (moreN (q_l (LL.getD (i0 + u) sq0)))) + (q_l (LL.getD (i0 + u) sq0)))))), (0, .ref s0), (2, .int (nI j0))]) hx hb dX6_packedSize_57 hl (k := 3) rfl (zn_inc (i0 + u) 1 (by decide)) (by decide) rfl (fun ls hl => ?_)
          refine lv_goto (tgt := 5) hx hb dX6_packedSize_60 (by decide) ?_
          have eq9 : ((nI ((pkR LL i0 u) + ((1 + (moreN (q_l (LL.getD (i0 + u) sq0)))) + (q_l (LL.getD (i0 + u) sq0))))) : Int32) = (nI (pkR LL i0 (u + 1))) := congrArg nI (by show _ = pkR LL i0 u + seqSz _; unfold seqSz; rw [if_pos (by omega)]; omega)
          have hl : lv_has ls 5 [(4, .int (nI ((i0 + u) + 1))), (3, .int (nI (pkR LL i0 (u + 1)))), (0, .ref s0), (2, .int (nI j0))] := by rw [← eq9]; exact hl
          exact hG2 _ _ _ (ih (u + 1) (by omega) (by omega) _ _ (hP.sub [0, 1, 2, 3] rfl) (hD.sub [0, 1, 2, 3] (by decide) rfl) hS ls (lv_sub hl [2, 3, 1, 0] rfl))
        · refine lv_iload_n hx hb dX6_packedSize_41 rfl (lv_at hl 0 rfl) ?_
          refine lv_iconst (v := 2) hx hb dX6_packedSize_42 (by decide) ?_
          refine lv_aload_n hx hb dX6_packedSize_43 rfl (lv_at hl 1 rfl) ?_
          refine lv_iload hx hb dX6_packedSize_44 (lv_at hl 3 rfl) ?_
          refine z_calli (wr := []) (va_runV (As := [.int (nI (i0 + u))]) (rest := [.int 2, .int (nI ((pkR LL i0 u) + ((1 + (moreN (q_l (LL.getD (i0 + u) sq0)))) + (q_l (LL.getD (i0 + u) sq0)))))]) ⟨hx, hb, hml, hown, hts⟩ (c_Seq_matchOf l dC dI kB kI s0 s1 s2 s3 st li of pt nu ma (nI (i0 + u)) ((i0 + u : Nat) : Int) (by omega) (by omega) (by omega) (nI_toInt (by omega)) H.size) (cwV 1 hts gX6_packedSize_X6_matchOf rfl rfl rfl (by decide +kernel) ⟨Nat.le_of_ble_eq_true rfl, Nat.le_of_ble_eq_true rfl⟩) (z_preV hK (hP.sub [0, 1, 2, 3] rfl) (hD.sub [0, 1, 2, 3] (by decide) rfl) (va_recv hK hP (ci := 6) (q0 := 0) rfl rfl)) rfl rfl hl.1 rfl (lv_room (Nat.le_of_ble_eq_true rfl)) dX6_packedSize_46 ⟨Nat.le_of_ble_eq_true rfl, Nat.le_of_ble_eq_true rfl⟩) hK hP hD hS hA [0, 1, 2, 3] [] rfl rfl (by decide) (by decide) (fun r9 uq10 H locs hw hP hD hS => ?_)
          replace hw : (∃ j : Nat, ((i0 + u : Nat) : Int) = j ∧ j < nu ∧ r9 = (st (j + 1) - st j) - li j) ∨ ((((i0 + u : Nat) : Int) < 0 ∨ (nu : Int) ≤ ((i0 + u : Nat) : Int)) ∧ r9 = -1) := hw
          have hP : va_P (dC, dI) vwCl [(s0, .inr (6, [.ref s1, .ref s2, .ref s3, .int (nI pt), .int (nI nu), .int (nI ma)])), (s1, .inl (kI, 140001, .inl st)), (s2, .inl (kI, 140000, .inl li)), (s3, .inl (kI, 140000, .inl of))] H := hP
          have hD : va_D A [(s0, .inr (6, [.ref s1, .ref s2, .ref s3, .int (nI pt), .int (nI nu), .int (nI ma)])), (s1, .inl (kI, 140001, .inl st)), (s2, .inl (kI, 140000, .inl li)), (s3, .inl (kI, 140000, .inl of))] := hD
          have hw2 : r9 = (nI (q_m (LL.getD (i0 + u) sq0))) := by
            rcases hw with ⟨j1, ej1, hj1, er⟩ | ⟨hw, er⟩
            · rw [er, show j1 = i0 + u by omega]; rw [hA4, hA1, hA2]; exact sub_lem _ _ _
            · omega
          clear hw
          subst hw2
          refine lv_iconst (v := 4) hx hb dX6_packedSize_49 (by decide) ?_
          refine lv_isub hx hb dX6_packedSize_50 ?_
          refine lv_is (y := (nI (q_m (LL.getD (i0 + u) sq0) - 4))) ((zn_sub rfl (show (4 : Int32) = nI 4 from rfl) (by omega)).trans (congrArg nI (by omega))) ?_
          refine z_calli (wr := [(s0, .inr (6, [.ref s1, .ref s2, .ref s3, .int (nI pt), .int (nI nu), .int (nI ma)])), (s1, .inl (kI, 140001, .inl st)), (s2, .inl (kI, 140000, .inl li)), (s3, .inl (kI, 140000, .inl of))]) (va_runS (As := [.int (nI (q_m (LL.getD (i0 + u) sq0) - 4))]) (rest := [.int 2, .int (nI ((pkR LL i0 u) + ((1 + (moreN (q_l (LL.getD (i0 + u) sq0)))) + (q_l (LL.getD (i0 + u) sq0)))))]) ⟨hx, hb, hml, hown, hts⟩ (c_Seq_moreBytes l dC dI kB kI (q_m (LL.getD (i0 + u) sq0) - 4) (by omega) H.size) (va_cwS 1 hts gX6_packedSize_X6_moreBytes rfl rfl rfl (by decide +kernel) ⟨Nat.le_of_ble_eq_true rfl, Nat.le_of_ble_eq_true rfl⟩) (z_preS hK (hP.sub [] rfl) (hD.sub [] (by decide) rfl)) rfl rfl hl.1 rfl (lv_room (Nat.le_of_ble_eq_true rfl)) dX6_packedSize_51 ⟨Nat.le_of_ble_eq_true rfl, Nat.le_of_ble_eq_true rfl⟩) hK hP hD hS hA [] [0, 1, 2, 3] rfl rfl (by decide) (by decide) (fun r11 uq12 H locs hw hP hD hS => ?_)
          replace hw : r11 = nI (moreN (q_m (LL.getD (i0 + u) sq0) - 4)) := hw
          have hP : va_P (dC, dI) vwCl [(s0, .inr (6, [.ref s1, .ref s2, .ref s3, .int (nI pt), .int (nI nu), .int (nI ma)])), (s1, .inl (kI, 140001, .inl st)), (s2, .inl (kI, 140000, .inl li)), (s3, .inl (kI, 140000, .inl of))] H := hP
          have hD : va_D A [(s0, .inr (6, [.ref s1, .ref s2, .ref s3, .int (nI pt), .int (nI nu), .int (nI ma)])), (s1, .inl (kI, 140001, .inl st)), (s2, .inl (kI, 140000, .inl li)), (s3, .inl (kI, 140000, .inl of))] := hD
          subst hw
          refine lv_iadd hx hb dX6_packedSize_54 ?_
          refine lv_is (y := (nI (2 + (moreN (q_m (LL.getD (i0 + u) sq0) - 4))))) ((zn_add (show (2 : Int32) = nI 2 from rfl) rfl)) ?_
          refine lv_iadd hx hb dX6_packedSize_55 ?_
          refine lv_is (y := (nI (((pkR LL i0 u) + ((1 + (moreN (q_l (LL.getD (i0 + u) sq0)))) + (q_l (LL.getD (i0 + u) sq0)))) + (2 + (moreN (q_m (LL.getD (i0 + u) sq0) - 4)))))) ((zn_add rfl rfl)) ?_
          refine lv_istore_n (lv' := [(3, .int (nI (((pkR LL i0 u) + ((1 + (moreN (q_l (LL.getD (i0 + u) sq0)))) + (q_l (LL.getD (i0 + u) sq0)))) + (2 + (moreN (q_m (LL.getD (i0 + u) sq0) - 4)))))), (0, .ref s0), (2, .int (nI j0)), (4, .int (nI (i0 + u)))]) hx hb dX6_packedSize_56 rfl hl (by decide) rfl (fun ls hl => ?_)
          refine lv_iinc (v := (nI ((i0 + u) + 1))) (lv' := [(4, .int (nI ((i0 + u) + 1))), (3, .int (nI (((pkR LL i0 u) + ((1 + (moreN (q_l (LL.getD (i0 + u) sq0)))) + (q_l (LL.getD (i0 + u) sq0)))) + (2 + (moreN (q_m (LL.getD (i0 + u) sq0) - 4)))))), (0, .ref s0), (2, .int (nI j0))]) hx hb dX6_packedSize_57 hl (k := 3) rfl (zn_inc (i0 + u) 1 (by decide)) (by decide) rfl (fun ls hl => ?_)
          refine lv_goto (tgt := 5) hx hb dX6_packedSize_60 (by decide) ?_
          have eq9 : ((nI (((pkR LL i0 u) + ((1 + (moreN (q_l (LL.getD (i0 + u) sq0)))) + (q_l (LL.getD (i0 + u) sq0)))) + (2 + (moreN (q_m (LL.getD (i0 + u) sq0) - 4))))) : Int32) = (nI (pkR LL i0 (u + 1))) := congrArg nI (by show _ = pkR LL i0 u + seqSz _; unfold seqSz; rw [if_neg (by omega)]; omega)
          have hl : lv_has ls 5 [(4, .int (nI ((i0 + u) + 1))), (3, .int (nI (pkR LL i0 (u + 1)))), (0, .ref s0), (2, .int (nI j0))] := by rw [← eq9]; exact hl
          exact hG2 _ _ _ (ih (u + 1) (by omega) (by omega) _ _ (hP.sub [0, 1, 2, 3] rfl) (hD.sub [0, 1, 2, 3] (by decide) rfl) hS ls (lv_sub hl [2, 3, 1, 0] rfl))
  exact hG2 _ _ _ (lp (j0 - i0 - 0 + 1) 0 (by omega) (Nat.lt_succ_self _) _ _ (hP.sub [0, 1, 2, 3] rfl) (hD.sub [0, 1, 2, 3] (by decide) rfl) hS ls (lv_sub hl [2, 4, 1, 0] rfl))
