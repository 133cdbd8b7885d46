set_option maxHeartbeats 4000000 in
set_option maxRecDepth 100000 in
theorem c_Pck_writeMore (l : Launch) (dC : Nat → ClassId) (dI : Nat → Nat → Nat) (kB kI : ClassId) (p0 : Nat) (a0 : Nat) (g0 : Nat) (o0 : Nat) (s0 : Nat) (b0 : Nat) (bl : Nat) (ra : Nat) (g1 : Nat) (fr : Nat → Int32) (m1 : Nat) (k : Nat) (hm : m1 + moreN k ≤ 150000) (hk : k ≤ 200000) : zMv l yX4_writeMore wsX4_writeMore ({ frames := 1, cells := 0, slots := 0, locals := 21 }) (dC, dI) kB kI [.ref p0, .int (nI k)] [(p0, .inr (4, [.ref a0, .ref g0, .ref o0, .ref s0, .ref b0, .int (nI bl), .int (nI ra)])), (g0, .inr (5, [.ref g1, .int (nI m1)])), (g1, .inl (kB, 150000, .inl fr))] 0 0 (fun _ : Unit => True) (fun _ : Unit => [(p0, .inr (4, [.ref a0, .ref g0, .ref o0, .ref s0, .ref b0, .int (nI bl), .int (nI ra)])), (g0, .inr (5, [.ref g1, .int (nI (m1 + moreN k))])), (g1, .inl (kB, 150000, .inl (apL fr m1 (moreB k))))]) := by
  intro sz
  refine Met.ofW (cc := cX4_writeMore) (maxL := 3) (ret := none) (by decide) rfl ?_
  intro p e s m args below meth c s₁ B hml hv
  obtain ⟨rfl, hsz, hP, hK, hD0⟩ := hv
  have hx := B.exec
  have hb := B.bytes
  have hr := B.returns
  have hts := atoms_spec (ws := wsX4_writeMore) B.pre
  have hown : s.vm.findClass RX4 = some m.cls := findClass_of_methodNamed B.named
  have hlocks := B.notSynchronized
  subst hsz
  have hD := hD0.self (sz := s.heap.size)
  generalize hAe : va_A [(p0, .inr (4, [.ref a0, .ref g0, .ref o0, .ref s0, .ref b0, .int (nI bl), .int (nI ra)])), (g0, .inr (5, [.ref g1, .int (nI m1)])), (g1, .inl (kB, 150000, .inl fr))] s.heap.size = A at hD ⊢
  have hA : ∀ q : Nat, s.heap.size ≤ q → A q := fun q h => by rw [← hAe]; exact Or.inr h
  have hS : va_S A s.heap s.heap [] := va_S.rf
  have hP : va_P (dC, dI) vwCl [(p0, .inr (4, [.ref a0, .ref g0, .ref o0, .ref s0, .ref b0, .int (nI bl), .int (nI ra)])), (g0, .inr (5, [.ref g1, .int (nI m1)])), (g1, .inl (kB, 150000, .inl fr))] s.heap := hP
  have hl := lv_entry ([.ref p0, .int (nI k)]) (n := 3) (Nat.le_of_ble_eq_true rfl)
  rw [lg_entry_eq]
  generalize (lg_sl ([.ref p0, .int (nI k)]) ++ List.replicate (3 - (lg_sl ([.ref p0, .int (nI k)])).length) Slot.unset).toArray = ls at hl ⊢
  have hl : lv_has ls 3 [(0, .ref p0), (1, .int (nI k))] := hl
  refine zG (fun GG hG1 hG2 => ?_)
  refine lv_iload_n hx hb dX4_writeMore_0 rfl (lv_at hl 1 rfl) ?_
  refine lv_bipush (v := 15) hx hb dX4_writeMore_1 (by decide) ?_
  refine zb_icmp_ge (tgt := 7) (a := ((k : Nat) : Int)) (b := 15) hx hb dX4_writeMore_3 (by decide) (nI_toInt (by omega)) (by decide) (fun c3 => ?_) (fun c3 => ?_)
  · have hmN : moreN k = (k - 15) / 255 + 1 := by unfold moreN; rw [if_neg (by omega)]
    refine lv_iload_n hx hb dX4_writeMore_7 rfl (lv_at hl 1 rfl) ?_
    refine lv_bipush (v := 15) hx hb dX4_writeMore_8 (by decide) ?_
    refine lv_isub hx hb dX4_writeMore_10 ?_
    refine lv_is (y := (nI (k - 15))) ((zn_sub rfl (show (15 : Int32) = nI 15 from rfl) (by omega)).trans (congrArg nI (by omega))) ?_
    refine lv_istore_n (lv' := [(2, .int (nI (k - 15))), (0, .ref p0), (1, .int (nI k))]) hx hb dX4_writeMore_11 rfl hl (by decide) rfl (fun ls hl => ?_)
    have eq9 : fr = (apL fr m1 (List.replicate 0 (i2b 255))) := (apL_nil fr m1).symm
    have hP : va_P (dC, dI) vwCl [(p0, .inr (4, [.ref a0, .ref g0, .ref o0, .ref s0, .ref b0, .int (nI bl), .int (nI ra)])), (g0, .inr (5, [.ref g1, .int (nI m1)])), (g1, .inl (kB, 150000, .inl (apL fr m1 (List.replicate 0 (i2b 255)))))] s.heap := by rw [← eq9]; exact hP
    have hD : va_D A [(p0, .inr (4, [.ref a0, .ref g0, .ref o0, .ref s0, .ref b0, .int (nI bl), .int (nI ra)])), (g0, .inr (5, [.ref g1, .int (nI m1)])), (g1, .inl (kB, 150000, .inl (apL fr m1 (List.replicate 0 (i2b 255)))))] := by rw [← eq9]; exact hD
    have lp : ∀ (kf : Nat) (j : Nat) (a : Nat) (hj : k - 15 = a + 255 * j) (hk15 : 15 ≤ k), a < kf → ∀ (H : Heap) (locs : List Loc), va_P (dC, dI) vwCl [(p0, .inr (4, [.ref a0, .ref g0, .ref o0, .ref s0, .ref b0, .int (nI bl), .int (nI ra)])), (g0, .inr (5, [.ref g1, .int (nI (m1 + j))])), (g1, .inl (kB, 150000, .inl (apL fr m1 (List.replicate j (i2b 255)))))] H → va_D A [(p0, .inr (4, [.ref a0, .ref g0, .ref o0, .ref s0, .ref b0, .int (nI bl), .int (nI ra)])), (g0, .inr (5, [.ref g1, .int (nI (m1 + j))])), (g1, .inl (kB, 150000, .inl (apL fr m1 (List.replicate j (i2b 255)))))] → va_S A s.heap H locs → ∀ (ls : Array Slot), lv_has ls 3 [(0, .ref p0), (2, .int (nI a))] → GG H locs (F0 m 12 ls []) := by
      intro kf
      induction kf with
      | zero => intro j a hj hk15 hm; exact absurd hm (Nat.not_lt_zero _)
      | succ kf ih =>
        intro j a hj hk15 hm H locs hP hD hS ls hl
        apply hG1
        refine lv_iload_n hx hb dX4_writeMore_12 rfl (lv_at hl 1 rfl) ?_
        refine lv_sipush (v := 255) hx hb dX4_writeMore_13 (by decide) ?_
        refine zb_icmp_lt (tgt := 38) (a := ((a : Nat) : Int)) (b := 255) hx hb dX4_writeMore_16 (by decide) (nI_toInt (by omega)) (by decide) (fun c16 => ?_) (fun c16 => ?_)
        · refine lv_aload_n hx hb dX4_writeMore_38 rfl (lv_at hl 0 rfl) ?_
          refine va_get (D := (dC, dI)) (ci := 4) (v := .ref g0) (C := RX4) (T := TX4) (N := 7) hx hb hts (by decide +kernel) hown hK hP 0 rfl rfl 1 (by decide) (hts (.fieldLink RX4 19 "SequenceFrames$Packer" "frames" "LSequenceFrames$Row;") (by decide +kernel)) (fun _ h9 => h9) rfl dX4_writeMore_39 ?_
          refine lv_iload_n hx hb dX4_writeMore_42 rfl (lv_at hl 1 rfl) ?_
          refine z_callv (wr := [(p0, .inr (4, [.ref a0, .ref g0, .ref o0, .ref s0, .ref b0, .int (nI bl), .int (nI ra)]))]) (va_runV (As := [.int (nI a)]) (rest := []) ⟨hx, hb, hml, hown, hts⟩ (c_Row_add l dC dI kB kI g0 g1 150000 (m1 + j) (apL fr m1 (List.replicate j (i2b 255))) (nI a) (by omega) (by omega) H.size) (cwV 1 hts gX4_writeMore_X5_add rfl rfl rfl (by decide +kernel) ⟨Nat.le_of_ble_eq_true rfl, Nat.le_of_ble_eq_true rfl⟩) (z_preV hK (hP.sub [1, 2] rfl) (hD.sub [1, 2] (by decide) rfl) (va_recv hK hP (ci := 5) (q0 := 1) rfl rfl)) rfl rfl hl.1 rfl (lv_room (Nat.le_of_ble_eq_true rfl)) dX4_writeMore_43 ⟨Nat.le_of_ble_eq_true rfl, Nat.le_of_ble_eq_true rfl⟩) hK hP hD hS hA [1, 2] [0] rfl rfl (by decide) (by decide) (fun uq2 H locs hw hP hD hS => ?_)
          replace hw : True := hw
          have hP : va_P (dC, dI) vwCl [(p0, .inr (4, [.ref a0, .ref g0, .ref o0, .ref s0, .ref b0, .int (nI bl), .int (nI ra)])), (g0, .inr (5, [.ref g1, .int (nI ((m1 + j) + 1))])), (g1, .inl (kB, 150000, .inl (upd (apL fr m1 (List.replicate j (i2b 255))) (m1 + j) (i2b (nI a)))))] H := hP
          have hD : va_D A [(p0, .inr (4, [.ref a0, .ref g0, .ref o0, .ref s0, .ref b0, .int (nI bl), .int (nI ra)])), (g0, .inr (5, [.ref g1, .int (nI ((m1 + j) + 1))])), (g1, .inl (kB, 150000, .inl (upd (apL fr m1 (List.replicate j (i2b 255))) (m1 + j) (i2b (nI a)))))] := hD
          have eq9 : (upd (apL fr m1 (List.replicate j (i2b 255))) (m1 + j) (i2b (nI a))) = (apL fr m1 (moreB k)) := by rw [apL_one, apL_app' _ (by simp)]; unfold moreB; rw [if_neg (by omega), show (k - 15) / 255 = j by omega, show (k - 15) % 255 = a by omega]
          have hP : va_P (dC, dI) vwCl [(p0, .inr (4, [.ref a0, .ref g0, .ref o0, .ref s0, .ref b0, .int (nI bl), .int (nI ra)])), (g0, .inr (5, [.ref g1, .int (nI ((m1 + j) + 1))])), (g1, .inl (kB, 150000, .inl (apL fr m1 (moreB k))))] H := by rw [← eq9]; exact hP
          have hD : va_D A [(p0, .inr (4, [.ref a0, .ref g0, .ref o0, .ref s0, .ref b0, .int (nI bl), .int (nI ra)])), (g0, .inr (5, [.ref g1, .int (nI ((m1 + j) + 1))])), (g1, .inl (kB, 150000, .inl (apL fr m1 (moreB k))))] := by rw [← eq9]; exact hD
          have eq9 : ((nI ((m1 + j) + 1)) : Int32) = (nI (m1 + moreN k)) := congrArg nI (by omega)
          have hP : va_P (dC, dI) vwCl [(p0, .inr (4, [.ref a0, .ref g0, .ref o0, .ref s0, .ref b0, .int (nI bl), .int (nI ra)])), (g0, .inr (5, [.ref g1, .int (nI (m1 + moreN k))])), (g1, .inl (kB, 150000, .inl (apL fr m1 (moreB k))))] H := by rw [← eq9]; exact hP
          have hD : va_D A [(p0, .inr (4, [.ref a0, .ref g0, .ref o0, .ref s0, .ref b0, .int (nI bl), .int (nI ra)])), (g0, .inr (5, [.ref g1, .int (nI (m1 + moreN k))])), (g1, .inl (kB, 150000, .inl (apL fr m1 (moreB k))))] := by rw [← eq9]; exact hD
          have hP9 := hP.sub (ws' := [(p0, .inr (4, [.ref a0, .ref g0, .ref o0, .ref s0, .ref b0, .int (nI bl), .int (nI ra)])), (g0, .inr (5, [.ref g1, .int (nI (m1 + moreN k))])), (g1, .inl (kB, 150000, .inl (apL fr m1 (moreB k))))]) [0, 1, 2] rfl
          have hD9 := hD.sub (ws' := [(p0, .inr (4, [.ref a0, .ref g0, .ref o0, .ref s0, .ref b0, .int (nI bl), .int (nI ra)])), (g0, .inr (5, [.ref g1, .int (nI (m1 + moreN k))])), (g1, .inl (kB, 150000, .inl (apL fr m1 (moreB k))))]) [0, 1, 2] (by decide) rfl
          exact W.vret hx hb hr (fun t9 ht9 hW9 => ⟨⟨(), rfl, trivial, by rw [ht9]; exact hP9, va_K.moved hW9.alike hK, hD9⟩, hS.F ht9⟩) hS.2.2 dX4_writeMore_46
        · refine lv_aload_n hx hb dX4_writeMore_19 rfl (lv_at hl 0 rfl) ?_
          refine va_get (D := (dC, dI)) (ci := 4) (v := .ref g0) (C := RX4) (T := TX4) (N := 7) hx hb hts (by decide +kernel) hown hK hP 0 rfl rfl 1 (by decide) (hts (.fieldLink RX4 19 "SequenceFrames$Packer" "frames" "LSequenceFrames$Row;") (by decide +kernel)) (fun _ h9 => h9) rfl dX4_writeMore_20 ?_
          refine lv_sipush (v := 255) hx hb dX4_writeMore_23 (by decide) ?_
          refine z_callv (wr := [(p0, .inr (4, [.ref a0, .ref g0, .ref o0, .ref s0, .ref b0, .int (nI bl), .int (nI ra)]))]) (va_runV (As := [.int 255]) (rest := []) ⟨hx, hb, hml, hown, hts⟩ (c_Row_add l dC dI kB kI g0 g1 150000 (m1 + j) (apL fr m1 (List.replicate j (i2b 255))) 255 (by omega) (by omega) H.size) (cwV 1 hts gX4_writeMore_X5_add rfl rfl rfl (by decide +kernel) ⟨Nat.le_of_ble_eq_true rfl, Nat.le_of_ble_eq_true rfl⟩) (z_preV hK (hP.sub [1, 2] rfl) (hD.sub [1, 2] (by decide) rfl) (va_recv hK hP (ci := 5) (q0 := 1) rfl rfl)) rfl rfl hl.1 rfl (lv_room (Nat.le_of_ble_eq_true rfl)) dX4_writeMore_26 ⟨Nat.le_of_ble_eq_true rfl, Nat.le_of_ble_eq_true rfl⟩) hK hP hD hS hA [1, 2] [0] rfl rfl (by decide) (by decide) (fun uq4 H locs hw hP hD hS => ?_)
          replace hw : True := hw
          have hP : va_P (dC, dI) vwCl [(p0, .inr (4, [.ref a0, .ref g0, .ref o0, .ref s0, .ref b0, .int (nI bl), .int (nI ra)])), (g0, .inr (5, [.ref g1, .int (nI ((m1 + j) + 1))])), (g1, .inl (kB, 150000, .inl (upd (apL fr m1 (List.replicate j (i2b 255))) (m1 + j) (i2b 255))))] H := hP
          have hD : va_D A [(p0, .inr (4, [.ref a0, .ref g0, .ref o0, .ref s0, .ref b0, .int (nI bl), .int (nI ra)])), (g0, .inr (5, [.ref g1, .int (nI ((m1 + j) + 1))])), (g1, .inl (kB, 150000, .inl (upd (apL fr m1 (List.replicate j (i2b 255))) (m1 + j) (i2b 255))))] := hD
          have eq9 : (upd (apL fr m1 (List.replicate j (i2b 255))) (m1 + j) (i2b 255)) = (apL fr m1 (List.replicate (j + 1) (i2b 255))) := by rw [apL_one, apL_app' _ (by simp), rep_s]
          have hP : va_P (dC, dI) vwCl [(p0, .inr (4, [.ref a0, .ref g0, .ref o0, .ref s0, .ref b0, .int (nI bl), .int (nI ra)])), (g0, .inr (5, [.ref g1, .int (nI ((m1 + j) + 1))])), (g1, .inl (kB, 150000, .inl (apL fr m1 (List.replicate (j + 1) (i2b 255)))))] H := by rw [← eq9]; exact hP
          have hD : va_D A [(p0, .inr (4, [.ref a0, .ref g0, .ref o0, .ref s0, .ref b0, .int (nI bl), .int (nI ra)])), (g0, .inr (5, [.ref g1, .int (nI ((m1 + j) + 1))])), (g1, .inl (kB, 150000, .inl (apL fr m1 (List.replicate (j + 1) (i2b 255)))))] := by rw [← eq9]; exact hD
          refine lv_iincW (v := (nI (a - 255))) (lv' := [(2, .int (nI (a - 255))), (0, .ref p0)]) hx hb dX4_writeMore_29 hl (k := 1) rfl (zn_decN a 255 (by decide) (by omega)) (by decide) rfl (fun ls hl => ?_)
          refine lv_goto (tgt := 12) hx hb dX4_writeMore_35 (by decide) ?_
          exact hG2 _ _ _ (ih (j + 1) (a - 255) (by omega) (by omega) (by omega) _ _ (hP.sub [0, 1, 2] rfl) (hD.sub [0, 1, 2] (by decide) rfl) hS ls (lv_sub hl [1, 0] rfl))
    exact hG2 _ _ _ (lp ((k - 15) + 1) 0 (k - 15) (by omega) (by omega) (Nat.lt_succ_self _) _ _ (hP.sub [0, 1, 2] rfl) (hD.sub [0, 1, 2] (by decide) rfl) hS ls (lv_sub hl [1, 0] rfl))
  · have eq9 : fr = (apL fr m1 (moreB k)) := by unfold moreB; rw [if_pos (by omega)]; exact (apL_nil fr m1).symm
    have hP : va_P (dC, dI) vwCl [(p0, .inr (4, [.ref a0, .ref g0, .ref o0, .ref s0, .ref b0, .int (nI bl), .int (nI ra)])), (g0, .inr (5, [.ref g1, .int (nI m1)])), (g1, .inl (kB, 150000, .inl (apL fr m1 (moreB k))))] s.heap := by rw [← eq9]; exact hP
    have hD : va_D A [(p0, .inr (4, [.ref a0, .ref g0, .ref o0, .ref s0, .ref b0, .int (nI bl), .int (nI ra)])), (g0, .inr (5, [.ref g1, .int (nI m1)])), (g1, .inl (kB, 150000, .inl (apL fr m1 (moreB k))))] := by rw [← eq9]; exact hD
    have eq9 : ((nI m1) : Int32) = (nI (m1 + moreN k)) := congrArg nI (by unfold moreN; rw [if_pos (by omega)]; rfl)
    have hP : va_P (dC, dI) vwCl [(p0, .inr (4, [.ref a0, .ref g0, .ref o0, .ref s0, .ref b0, .int (nI bl), .int (nI ra)])), (g0, .inr (5, [.ref g1, .int (nI (m1 + moreN k))])), (g1, .inl (kB, 150000, .inl (apL fr m1 (moreB k))))] s.heap := by rw [← eq9]; exact hP
    have hD : va_D A [(p0, .inr (4, [.ref a0, .ref g0, .ref o0, .ref s0, .ref b0, .int (nI bl), .int (nI ra)])), (g0, .inr (5, [.ref g1, .int (nI (m1 + moreN k))])), (g1, .inl (kB, 150000, .inl (apL fr m1 (moreB k))))] := by rw [← eq9]; exact hD
    have hP9 := hP.sub (ws' := [(p0, .inr (4, [.ref a0, .ref g0, .ref o0, .ref s0, .ref b0, .int (nI bl), .int (nI ra)])), (g0, .inr (5, [.ref g1, .int (nI (m1 + moreN k))])), (g1, .inl (kB, 150000, .inl (apL fr m1 (moreB k))))]) [0, 1, 2] rfl
    have hD9 := hD.sub (ws' := [(p0, .inr (4, [.ref a0, .ref g0, .ref o0, .ref s0, .ref b0, .int (nI bl), .int (nI ra)])), (g0, .inr (5, [.ref g1, .int (nI (m1 + moreN k))])), (g1, .inl (kB, 150000, .inl (apL fr m1 (moreB k))))]) [0, 1, 2] (by decide) rfl
    exact W.vret hx hb hr (fun t9 ht9 hW9 => ⟨⟨(), rfl, trivial, by rw [ht9]; exact hP9, va_K.moved hW9.alike hK, hD9⟩, hS.F ht9⟩) hS.2.2 dX4_writeMore_6
