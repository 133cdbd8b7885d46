set_option maxHeartbeats 4000000 in
set_option maxRecDepth 100000 in
theorem c_Pck_matchLength (l : Launch) (dC : Nat → ClassId) (dI : Nat → Nat → Nat) (kB kI : ClassId) (p0 : Nat) (a0 : Nat) (g0 : Nat) (o0 : Nat) (s0 : Nat) (b0 : Nat) (bl : Nat) (ra : Nat) (a1 : Nat) (n : Nat) (f : Nat → Int32) (q : Nat) (aa : Nat) (lim : Nat) (hn : n ≤ 140000) (hl : lim ≤ n) (hq : q ≤ aa) (hj : aa ≤ lim) (hf : bytF f) : zMi l yX4_matchLength wsX4_matchLength ({ frames := 1, cells := 0, slots := 0, locals := 21 }) (dC, dI) kB kI [.ref p0, .int (nI q), .int (nI aa), .int (nI lim)] [(p0, .inr (4, [.ref a0, .ref g0, .ref o0, .ref s0, .ref b0, .int (nI bl), .int (nI ra)])), (a0, .inr (5, [.ref a1, .int (nI n)])), (a1, .inl (kB, 140000, .inl f))] 0 0 (fun (r : Int32) => fun _ : Unit => r = nI (mlenC f q aa lim)) (fun _ : Unit => [(p0, .inr (4, [.ref a0, .ref g0, .ref o0, .ref s0, .ref b0, .int (nI bl), .int (nI ra)])), (a0, .inr (5, [.ref a1, .int (nI n)])), (a1, .inl (kB, 140000, .inl f))]) := by
  intro sz
  refine Met.ofW (cc := cX4_matchLength) (maxL := 5) (ret := (some .int)) (by decide) rfl ?_
  intro p e s m args below meth c s₁ B hml hv
  obtain ⟨rfl, hsz, hP, hK, hD0⟩ := hv
  have hx := B.exec
  have hb := B.bytes
  have hr := B.returns
  have hts := atoms_spec (ws := wsX4_matchLength) B.pre
  have hown : s.vm.findClass RX4 = some m.cls := findClass_of_methodNamed B.named
  have hlocks := B.notSynchronized
  subst hsz
  have hD := hD0.self (sz := s.heap.size)
  generalize hAe : va_A [(p0, .inr (4, [.ref a0, .ref g0, .ref o0, .ref s0, .ref b0, .int (nI bl), .int (nI ra)])), (a0, .inr (5, [.ref a1, .int (nI n)])), (a1, .inl (kB, 140000, .inl f))] s.heap.size = A at hD ⊢
  have hA : ∀ q : Nat, s.heap.size ≤ q → A q := fun q h => by rw [← hAe]; exact Or.inr h
  have hS : va_S A s.heap s.heap [] := va_S.rf
  have hP : va_P (dC, dI) vwCl [(p0, .inr (4, [.ref a0, .ref g0, .ref o0, .ref s0, .ref b0, .int (nI bl), .int (nI ra)])), (a0, .inr (5, [.ref a1, .int (nI n)])), (a1, .inl (kB, 140000, .inl f))] s.heap := hP
  have hl := lv_entry ([.ref p0, .int (nI q), .int (nI aa), .int (nI lim)]) (n := 5) (Nat.le_of_ble_eq_true rfl)
  rw [lg_entry_eq]
  generalize (lg_sl ([.ref p0, .int (nI q), .int (nI aa), .int (nI lim)]) ++ List.replicate (5 - (lg_sl ([.ref p0, .int (nI q), .int (nI aa), .int (nI lim)])).length) Slot.unset).toArray = ls at hl ⊢
  have hl : lv_has ls 5 [(0, .ref p0), (1, .int (nI q)), (2, .int (nI aa)), (3, .int (nI lim))] := hl
  refine zG (fun GG hG1 hG2 => ?_)
  refine lv_iload_n hx hb dX4_matchLength_0 rfl (lv_at hl 2 rfl) ?_
  refine lv_istore (lv' := [(4, .int (nI aa)), (0, .ref p0), (1, .int (nI q)), (2, .int (nI aa)), (3, .int (nI lim))]) hx hb dX4_matchLength_1 hl (by decide) rfl (fun ls hl => ?_)
  have lp : ∀ (kf : Nat) (t : Nat) (ht : aa + t ≤ lim) (hI : mlen f q aa lim (lim - aa - t) t = mlenC f q aa lim), lim - aa - t < kf → ∀ (H : Heap) (locs : List Loc), va_P (dC, dI) vwCl [(p0, .inr (4, [.ref a0, .ref g0, .ref o0, .ref s0, .ref b0, .int (nI bl), .int (nI ra)])), (a0, .inr (5, [.ref a1, .int (nI n)])), (a1, .inl (kB, 140000, .inl f))] H → va_D A [(p0, .inr (4, [.ref a0, .ref g0, .ref o0, .ref s0, .ref b0, .int (nI bl), .int (nI ra)])), (a0, .inr (5, [.ref a1, .int (nI n)])), (a1, .inl (kB, 140000, .inl f))] → va_S A s.heap H locs → ∀ (ls : Array Slot), lv_has ls 5 [(0, .ref p0), (1, .int (nI q)), (2, .int (nI aa)), (3, .int (nI lim)), (4, .int (nI (aa + t)))] → GG H locs (F0 m 3 ls []) := by
    intro kf
    induction kf with
    | zero => intro t ht hI hm; exact absurd hm (Nat.not_lt_zero _)
    | succ kf ih =>
      intro t ht hI hm H locs hP hD hS ls hl
      apply hG1
      refine lv_iload hx hb dX4_matchLength_3 (lv_at hl 4 rfl) ?_
      refine lv_iload_n hx hb dX4_matchLength_5 rfl (lv_at hl 3 rfl) ?_
      refine zb_icmp_ge (tgt := 40) (a := ((aa + t : Nat) : Int)) (b := ((lim : Nat) : Int)) hx hb dX4_matchLength_6 (by decide) (nI_toInt (by omega)) (nI_toInt (by omega)) (fun c6 => ?_) (fun c6 => ?_)
      · refine lv_iload hx hb dX4_matchLength_40 (lv_at hl 4 rfl) ?_
        refine lv_iload_n hx hb dX4_matchLength_42 rfl (lv_at hl 2 rfl) ?_
        refine lv_isub hx hb dX4_matchLength_43 ?_
        refine lv_is (y := (nI t)) ((zn_sub rfl rfl (by omega)).trans (congrArg nI (by omega))) ?_
        have hP9 := hP.sub (ws' := [(p0, .inr (4, [.ref a0, .ref g0, .ref o0, .ref s0, .ref b0, .int (nI bl), .int (nI ra)])), (a0, .inr (5, [.ref a1, .int (nI n)])), (a1, .inl (kB, 140000, .inl f))]) [0, 1, 2] rfl
        have hD9 := hD.sub (ws' := [(p0, .inr (4, [.ref a0, .ref g0, .ref o0, .ref s0, .ref b0, .int (nI bl), .int (nI ra)])), (a0, .inr (5, [.ref a1, .int (nI n)])), (a1, .inl (kB, 140000, .inl f))]) [0, 1, 2] (by decide) rfl
        exact W.iret (v := (nI t)) hx hb hr (fun t9 ht9 hW9 => ⟨⟨(nI t), (), rfl, (congrArg nI (by rw [← hI, show lim - aa - t = 0 by omega]; rfl)), by rw [ht9]; exact hP9, va_K.moved hW9.alike hK, hD9⟩, hS.F ht9⟩) hS.2.2 dX4_matchLength_44
      · refine lv_aload_n hx hb dX4_matchLength_9 rfl (lv_at hl 0 rfl) ?_
        refine va_get (D := (dC, dI)) (ci := 4) (v := .ref a0) (C := RX4) (T := TX4) (N := 7) hx hb hts (by decide +kernel) hown hK hP 0 rfl rfl 0 (by decide) (hts (.fieldLink RX4 15 "SequenceFrames$Packer" "content" "LSequenceFrames$Row;") (by decide +kernel)) (fun _ h9 => h9) rfl dX4_matchLength_10 ?_
        refine lv_iload hx hb dX4_matchLength_13 (lv_at hl 4 rfl) ?_
        refine z_calli (wr := [(p0, .inr (4, [.ref a0, .ref g0, .ref o0, .ref s0, .ref b0, .int (nI bl), .int (nI ra)]))]) (va_runV (As := [.int (nI (aa + t))]) (rest := []) ⟨hx, hb, hml, hown, hts⟩ (c_Row_get l dC dI kB kI a0 a1 140000 n f (nI (aa + t)) ((aa + t : Nat) : Int) (by omega) (by omega) (nI_toInt (by omega)) H.size) (cwV 1 hts gX4_matchLength_X5_get rfl rfl rfl (by decide +kernel) ⟨Nat.le_of_ble_eq_true rfl, Nat.le_of_ble_eq_true rfl⟩) (z_preV hK (hP.sub [1, 2] rfl) (hD.sub [1, 2] (by decide) rfl) (va_recv hK hP (ci := 5) (q0 := 1) rfl rfl)) rfl rfl hl.1 rfl (lv_room (Nat.le_of_ble_eq_true rfl)) dX4_matchLength_15 ⟨Nat.le_of_ble_eq_true rfl, Nat.le_of_ble_eq_true rfl⟩) hK hP hD hS hA [1, 2] [0] rfl rfl (by decide) (by decide) (fun r1 uq2 H locs hw hP hD hS => ?_)
        replace hw : (∃ j : Nat, ((aa + t : Nat) : Int) = j ∧ j < n ∧ r1 = f j &&& 255) ∨ ((((aa + t : Nat) : Int) < 0 ∨ (n : Int) ≤ ((aa + t : Nat) : Int)) ∧ r1 = -1) := hw
        have hP : va_P (dC, dI) vwCl [(p0, .inr (4, [.ref a0, .ref g0, .ref o0, .ref s0, .ref b0, .int (nI bl), .int (nI ra)])), (a0, .inr (5, [.ref a1, .int (nI n)])), (a1, .inl (kB, 140000, .inl f))] H := hP
        have hD : va_D A [(p0, .inr (4, [.ref a0, .ref g0, .ref o0, .ref s0, .ref b0, .int (nI bl), .int (nI ra)])), (a0, .inr (5, [.ref a1, .int (nI n)])), (a1, .inl (kB, 140000, .inl f))] := hD
        rcases hw with ⟨j1, ej1, hj1, er⟩ | ⟨hw, er⟩
        · have e1 : j1 = aa + t := by omega
          subst e1
          refine lv_aload_n hx hb dX4_matchLength_18 rfl (lv_at hl 0 rfl) ?_
          refine va_get (D := (dC, dI)) (ci := 4) (v := .ref a0) (C := RX4) (T := TX4) (N := 7) hx hb hts (by decide +kernel) hown hK hP 0 rfl rfl 0 (by decide) (hts (.fieldLink RX4 15 "SequenceFrames$Packer" "content" "LSequenceFrames$Row;") (by decide +kernel)) (fun _ h9 => h9) rfl dX4_matchLength_19 ?_
          refine lv_iload hx hb dX4_matchLength_22 (lv_at hl 4 rfl) ?_
          refine lv_iload_n hx hb dX4_matchLength_24 rfl (lv_at hl 2 rfl) ?_
          refine lv_isub hx hb dX4_matchLength_25 ?_
          refine lv_iload_n hx hb dX4_matchLength_26 rfl (lv_at hl 1 rfl) ?_
          refine lv_iadd hx hb dX4_matchLength_27 ?_
          refine z_calli (wr := [(p0, .inr (4, [.ref a0, .ref g0, .ref o0, .ref s0, .ref b0, .int (nI bl), .int (nI ra)]))]) (va_runV (As := [.int (((nI (aa + t)) - (nI aa)) + (nI q))]) (rest := [.int r1]) ⟨hx, hb, hml, hown, hts⟩ (c_Row_get l dC dI kB kI a0 a1 140000 n f (((nI (aa + t)) - (nI aa)) + (nI q)) ((((aa + t : Nat) : Int) - ((aa : Nat) : Int)) + ((q : Nat) : Int)) (by omega) (by omega) (zi_add (zi_sub (nI_toInt (by omega)) (nI_toInt (by omega)) (by omega) (by omega)) (nI_toInt (by omega)) (by omega) (by omega)) H.size) (cwV 1 hts gX4_matchLength_X5_get rfl rfl rfl (by decide +kernel) ⟨Nat.le_of_ble_eq_true rfl, Nat.le_of_ble_eq_true rfl⟩) (z_preV hK (hP.sub [1, 2] rfl) (hD.sub [1, 2] (by decide) rfl) (va_recv hK hP (ci := 5) (q0 := 1) rfl rfl)) rfl rfl hl.1 rfl (lv_room (Nat.le_of_ble_eq_true rfl)) dX4_matchLength_28 ⟨Nat.le_of_ble_eq_true rfl, Nat.le_of_ble_eq_true rfl⟩) hK hP hD hS hA [1, 2] [0] rfl rfl (by decide) (by decide) (fun r3 uq4 H locs hv hP hD hS => ?_)
          replace hv : (∃ j : Nat, ((((aa + t : Nat) : Int) - ((aa : Nat) : Int)) + ((q : Nat) : Int)) = j ∧ j < n ∧ r3 = f j &&& 255) ∨ ((((((aa + t : Nat) : Int) - ((aa : Nat) : Int)) + ((q : Nat) : Int)) < 0 ∨ (n : Int) ≤ ((((aa + t : Nat) : Int) - ((aa : Nat) : Int)) + ((q : Nat) : Int))) ∧ r3 = -1) := hv
          have hP : va_P (dC, dI) vwCl [(p0, .inr (4, [.ref a0, .ref g0, .ref o0, .ref s0, .ref b0, .int (nI bl), .int (nI ra)])), (a0, .inr (5, [.ref a1, .int (nI n)])), (a1, .inl (kB, 140000, .inl f))] H := hP
          have hD : va_D A [(p0, .inr (4, [.ref a0, .ref g0, .ref o0, .ref s0, .ref b0, .int (nI bl), .int (nI ra)])), (a0, .inr (5, [.ref a1, .int (nI n)])), (a1, .inl (kB, 140000, .inl f))] := hD
          rcases hv with ⟨j2, ej2, hj2, ev⟩ | ⟨hv, ev⟩
          · have e2 : q + t = j2 := by omega
            subst e2
            refine lv_icmp_ne (tgt := 40) hx hb dX4_matchLength_31 (by decide) (fun c31 => ?_) (fun c31 => ?_)
            · have hne : ¬ (aa + t < lim ∧ f (aa + t) = f (q + t)) := fun h => c31 (by rw [er, ev, h.2])
              refine lv_iload hx hb dX4_matchLength_40 (lv_at hl 4 rfl) ?_
              refine lv_iload_n hx hb dX4_matchLength_42 rfl (lv_at hl 2 rfl) ?_
              refine lv_isub hx hb dX4_matchLength_43 ?_
              refine lv_is (y := (nI t)) ((zn_sub rfl rfl (by omega)).trans (congrArg nI (by omega))) ?_
              have hP9 := hP.sub (ws' := [(p0, .inr (4, [.ref a0, .ref g0, .ref o0, .ref s0, .ref b0, .int (nI bl), .int (nI ra)])), (a0, .inr (5, [.ref a1, .int (nI n)])), (a1, .inl (kB, 140000, .inl f))]) [0, 1, 2] rfl
              have hD9 := hD.sub (ws' := [(p0, .inr (4, [.ref a0, .ref g0, .ref o0, .ref s0, .ref b0, .int (nI bl), .int (nI ra)])), (a0, .inr (5, [.ref a1, .int (nI n)])), (a1, .inl (kB, 140000, .inl f))]) [0, 1, 2] (by decide) rfl
              exact W.iret (v := (nI t)) hx hb hr (fun t9 ht9 hW9 => ⟨⟨(nI t), (), rfl, (congrArg nI (by rw [← hI, show lim - aa - t = (lim - aa - t - 1) + 1 by omega, mlen]; exact (if_neg hne).symm)), by rw [ht9]; exact hP9, va_K.moved hW9.alike hK, hD9⟩, hS.F ht9⟩) hS.2.2 dX4_matchLength_44
            · have heq : f (aa + t) = f (q + t) := (u8_inj (hf _) (hf _)).mp (by rw [← er, ← ev]; exact c31)
              refine lv_iinc (v := (nI ((aa + t) + 1))) (lv' := [(4, .int (nI ((aa + t) + 1))), (0, .ref p0), (1, .int (nI q)), (2, .int (nI aa)), (3, .int (nI lim))]) hx hb dX4_matchLength_34 hl (k := 4) rfl (zn_inc (aa + t) 1 (by decide)) (by decide) rfl (fun ls hl => ?_)
              refine lv_goto (tgt := 3) hx hb dX4_matchLength_37 (by decide) ?_
              exact hG2 _ _ _ (ih (t + 1) (by omega) (by rw [← hI, show lim - aa - t = (lim - aa - (t + 1)) + 1 by omega, mlen]; exact (if_pos ⟨by omega, heq⟩).symm) (by omega) _ _ (hP.sub [0, 1, 2] rfl) (hD.sub [0, 1, 2] (by decide) rfl) hS ls (lv_sub hl [1, 2, 3, 4, 0] rfl))
          · omega
        · omega
  exact hG2 _ _ _ (lp (lim - aa - 0 + 1) 0 (by omega) rfl (Nat.lt_succ_self _) _ _ (hP.sub [0, 1, 2] rfl) (hD.sub [0, 1, 2] (by decide) rfl) hS ls (lv_sub hl [1, 2, 3, 4, 0] rfl))

set_option maxHeartbeats 4000000 in
set_option maxRecDepth 100000 in
theorem c_Pck_findBlock (l : Launch) (dC : Nat → ClassId) (dI : Nat → Nat → Nat) (kB kI : ClassId) (p0 : Nat) (a0 : Nat) (g0 : Nat) (o0 : Nat) (s0 : Nat) (b0 : Nat) (bl : Nat) (ra : Nat) (a1 : Nat) (n : Nat) (f : Nat → Int32) (s1 : Nat) (s2 : Nat) (s3 : Nat) (st : Nat → Int32) (li : Nat → Int32) (of : Nat → Int32) (pt : Nat) (nu : Nat) (ma : Nat) (ta : Nat → Int32) (i : Nat) (ee : Nat) (hist : Nat) (b : Nat) (tb : Nat → Nat) (LL : List Sq) (hn : n ≤ 140000) (hf : bytF f) (hie : i < ee) (hen : ee ≤ n) (hhi : hist ≤ i) (htb : tbC tb ta i) (hsq : sqC LL i st li of) (hnu : nu = LL.length) (hnu2 : nu + (ee - i) ≤ 140000) (hma : ma + (ee - i) ≤ 140000) : zMv l yX4_findBlock wsX4_findBlock ({ frames := 2, cells := 0, slots := 0, locals := 45 }) (dC, dI) kB kI [.ref p0, .int (nI i), .int (nI ee), .int (nI hist)] [(p0, .inr (4, [.ref a0, .ref g0, .ref o0, .ref s0, .ref b0, .int (nI bl), .int (nI ra)])), (a0, .inr (5, [.ref a1, .int (nI n)])), (a1, .inl (kB, 140000, .inl f)), (s0, .inr (6, [.ref s1, .ref s2, .ref s3, .int (nI pt), .int (nI nu), .int (nI ma)])), (s1, .inl (kI, 140001, .inl st)), (s2, .inl (kI, 140000, .inl li)), (s3, .inl (kI, 140000, .inl of)), (b0, .inl (kI, 4096, .inl ta))] 0 0 (fun uu : (Nat → Int32) × (Nat → Int32) × (Nat → Int32) × (Nat → Int32) × Nat × Nat => sqC (LL ++ (findL f b hist ee (ee - i + 1) i i tb).1) ee uu.1 uu.2.1 uu.2.2.1 ∧ uu.2.2.2.2.1 = (LL ++ (findL f b hist ee (ee - i + 1) i i tb).1).length ∧ uu.2.2.2.2.2 = ma + mSum (findL f b hist ee (ee - i + 1) i i tb).1 ∧ tbC (findL f b hist ee (ee - i + 1) i i tb).2 uu.2.2.2.1 ee ∧ uu.2.2.2.2.1 ≤ nu + (ee - i) ∧ uu.2.2.2.2.2 ≤ ma + (ee - i)) (fun uu : (Nat → Int32) × (Nat → Int32) × (Nat → Int32) × (Nat → Int32) × Nat × Nat => [(p0, .inr (4, [.ref a0, .ref g0, .ref o0, .ref s0, .ref b0, .int (nI bl), .int (nI ra)])), (a0, .inr (5, [.ref a1, .int (nI n)])), (a1, .inl (kB, 140000, .inl f)), (s0, .inr (6, [.ref s1, .ref s2, .ref s3, .int (nI pt), .int (nI uu.2.2.2.2.1), .int (nI uu.2.2.2.2.2)])), (s1, .inl (kI, 140001, .inl uu.1)), (s2, .inl (kI, 140000, .inl uu.2.1)), (s3, .inl (kI, 140000, .inl uu.2.2.1)), (b0, .inl (kI, 4096, .inl uu.2.2.2.1))]) := by
  intro sz
  refine Met.ofW (cc := cX4_findBlock) (maxL := 10) (ret := none) (by decide) rfl ?_
  intro p e s m args below meth c s₁ B hml hv
  obtain ⟨rfl, hsz, hP, hK, hD0⟩ := hv
  have hx := B.exec
  have hb := B.bytes
  have hr := B.returns
  have hts := atoms_spec (ws := wsX4_findBlock) B.pre
  have hown : s.vm.findClass RX4 = some m.cls := findClass_of_methodNamed B.named
  have hlocks := B.notSynchronized
  subst hsz
  have hD := hD0.self (sz := s.heap.size)
  generalize hAe : va_A [(p0, .inr (4, [.ref a0, .ref g0, .ref o0, .ref s0, .ref b0, .int (nI bl), .int (nI ra)])), (a0, .inr (5, [.ref a1, .int (nI n)])), (a1, .inl (kB, 140000, .inl f)), (s0, .inr (6, [.ref s1, .ref s2, .ref s3, .int (nI pt), .int (nI nu), .int (nI ma)])), (s1, .inl (kI, 140001, .inl st)), (s2, .inl (kI, 140000, .inl li)), (s3, .inl (kI, 140000, .inl of)), (b0, .inl (kI, 4096, .inl ta))] s.heap.size = A at hD ⊢
  have hA : ∀ q : Nat, s.heap.size ≤ q → A q := fun q h => by rw [← hAe]; exact Or.inr h
  have hS : va_S A s.heap s.heap [] := va_S.rf
  have hP : va_P (dC, dI) vwCl [(p0, .inr (4, [.ref a0, .ref g0, .ref o0, .ref s0, .ref b0, .int (nI bl), .int (nI ra)])), (a0, .inr (5, [.ref a1, .int (nI n)])), (a1, .inl (kB, 140000, .inl f)), (s0, .inr (6, [.ref s1, .ref s2, .ref s3, .int (nI pt), .int (nI nu), .int (nI ma)])), (s1, .inl (kI, 140001, .inl st)), (s2, .inl (kI, 140000, .inl li)), (s3, .inl (kI, 140000, .inl of)), (b0, .inl (kI, 4096, .inl ta))] s.heap := hP
  have hl := lv_entry ([.ref p0, .int (nI i), .int (nI ee), .int (nI hist)]) (n := 10) (Nat.le_of_ble_eq_true rfl)
  rw [lg_entry_eq]
  generalize (lg_sl ([.ref p0, .int (nI i), .int (nI ee), .int (nI hist)]) ++ List.replicate (10 - (lg_sl ([.ref p0, .int (nI i), .int (nI ee), .int (nI hist)])).length) Slot.unset).toArray = ls at hl ⊢
  have hl : lv_has ls 10 [(0, .ref p0), (1, .int (nI i)), (2, .int (nI ee)), (3, .int (nI hist))] := hl
  refine zG (fun GG hG1 hG2 => ?_)
  refine lv_iload_n hx hb dX4_findBlock_0 rfl (lv_at hl 1 rfl) ?_
  refine lv_istore (lv' := [(4, .int (nI i)), (0, .ref p0), (1, .int (nI i)), (2, .int (nI ee)), (3, .int (nI hist))]) hx hb dX4_findBlock_1 hl (by decide) rfl (fun ls hl => ?_)
  refine lv_iload_n hx hb dX4_findBlock_3 rfl (lv_at hl 2 rfl) ?_
  refine lv_istore (lv' := [(5, .int (nI i)), (4, .int (nI i)), (0, .ref p0), (1, .int (nI i)), (2, .int (nI ee)), (3, .int (nI hist))]) hx hb dX4_findBlock_4 hl (by decide) rfl (fun ls hl => ?_)
  have lp : ∀ (kf : Nat) (k : Nat) (p : Nat) (first : Nat) (K : List Sq) (tb1 : Nat → Nat) (st1 : Nat → Int32) (li1 : Nat → Int32) (of1 : Nat → Int32) (ta1 : Nat → Int32) (nu1 : Nat) (ma1 : Nat) (hI : fndI f b hist ee (findL f b hist ee (ee - i + 1) i i tb) K k p first tb1) (hk : ee + 1 ≤ p + k) (hp : first ≤ p) (hp2 : p ≤ ee) (hp3 : i ≤ first) (hp4 : first < ee) (hs : sqC (LL ++ K) first st1 li1 of1) (hn1 : nu1 = (LL ++ K).length) (hn2 : nu1 + (ee - first) ≤ nu + (ee - i)) (hm1 : ma1 = ma + mSum K) (hm2 : ma1 + (ee - first) ≤ ma + (ee - i)) (ht1 : tbC tb1 ta1 p), ee - p < kf → ∀ (H : Heap) (locs : List Loc), va_P (dC, dI) vwCl [(p0, .inr (4, [.ref a0, .ref g0, .ref o0, .ref s0, .ref b0, .int (nI bl), .int (nI ra)])), (a0, .inr (5, [.ref a1, .int (nI n)])), (a1, .inl (kB, 140000, .inl f)), (s0, .inr (6, [.ref s1, .ref s2, .ref s3, .int (nI pt), .int (nI nu1), .int (nI ma1)])), (s1, .inl (kI, 140001, .inl st1)), (s2, .inl (kI, 140000, .inl li1)), (s3, .inl (kI, 140000, .inl of1)), (b0, .inl (kI, 4096, .inl ta1))] H → va_D A [(p0, .inr (4, [.ref a0, .ref g0, .ref o0, .ref s0, .ref b0, .int (nI bl), .int (nI ra)])), (a0, .inr (5, [.ref a1, .int (nI n)])), (a1, .inl (kB, 140000, .inl f)), (s0, .inr (6, [.ref s1, .ref s2, .ref s3, .int (nI pt), .int (nI nu1), .int (nI ma1)])), (s1, .inl (kI, 140001, .inl st1)), (s2, .inl (kI, 140000, .inl li1)), (s3, .inl (kI, 140000, .inl of1)), (b0, .inl (kI, 4096, .inl ta1))] → va_S A s.heap H locs → ∀ (ls : Array Slot), lv_has ls 10 [(0, .ref p0), (1, .int (nI i)), (2, .int (nI ee)), (3, .int (nI hist)), (4, .int (nI first)), (5, .int (nI p))] → GG H locs (F0 m 6 ls []) := by
    intro kf
    induction kf with
    | zero => intro k p first K tb1 st1 li1 of1 ta1 nu1 ma1 hI hk hp hp2 hp3 hp4 hs hn1 hn2 hm1 hm2 ht1 hm; exact absurd hm (Nat.not_lt_zero _)
    | succ kf ih =>
      intro k p first K tb1 st1 li1 of1 ta1 nu1 ma1 hI hk hp hp2 hp3 hp4 hs hn1 hn2 hm1 hm2 ht1 hm H locs hP hD hS ls hl
      apply hG1
      obtain ⟨k, ek⟩ : ∃ k0, k = k0 + 1 := ⟨k - 1, by omega⟩
      subst ek
      refine lv_iload hx hb dX4_findBlock_6 (lv_at hl 5 rfl) ?_
      refine lv_iload_n hx hb dX4_findBlock_8 rfl (lv_at hl 2 rfl) ?_
      refine lv_bipush (v := 12) hx hb dX4_findBlock_9 (by decide) ?_
      refine lv_isub hx hb dX4_findBlock_11 ?_
      refine zb_icmp_gt (tgt := 140) (a := ((p : Nat) : Int)) (b := (((ee : Nat) : Int) - 12)) hx hb dX4_findBlock_12 (by decide) (nI_toInt (by omega)) (zi_sub (nI_toInt (by omega)) (by decide) (by omega) (by omega)) (fun c12 => ?_) (fun c12 => ?_)
      · unfold fndI at hI
        rw [findL_end (φ := f) (b := b) (hist := hist) (e := ee) (k := k) (p := p) (first := first) (tb := tb1) (by omega)] at hI
        refine lv_aload_n hx hb dX4_findBlock_140 rfl (lv_at hl 0 rfl) ?_
        refine va_get (D := (dC, dI)) (ci := 4) (v := .ref s0) (C := RX4) (T := TX4) (N := 7) hx hb hts (by decide +kernel) hown hK hP 0 rfl rfl 3 (by decide) (hts (.fieldLink RX4 26 "SequenceFrames$Packer" "found" "LSequenceFrames$Sequences;") (by decide +kernel)) (fun _ h9 => h9) rfl dX4_findBlock_141 ?_
        refine lv_iload_n hx hb dX4_findBlock_144 rfl (lv_at hl 2 rfl) ?_
        refine lv_iload hx hb dX4_findBlock_145 (lv_at hl 4 rfl) ?_
        refine lv_isub hx hb dX4_findBlock_147 ?_
        refine lv_is (y := (nI (ee - first))) ((zn_sub rfl rfl (by omega)).trans (congrArg nI (by omega))) ?_
        refine lv_iconst (v := 0) hx hb dX4_findBlock_148 (by decide) ?_
        refine lv_iconst (v := 0) hx hb dX4_findBlock_149 (by decide) ?_
        refine z_callv (wr := [(p0, .inr (4, [.ref a0, .ref g0, .ref o0, .ref s0, .ref b0, .int (nI bl), .int (nI ra)])), (a0, .inr (5, [.ref a1, .int (nI n)])), (a1, .inl (kB, 140000, .inl f)), (b0, .inl (kI, 4096, .inl ta1))]) (va_runV (As := [.int (nI (ee - first)), .int 0, .int 0]) (rest := []) ⟨hx, hb, hml, hown, hts⟩ (c_Seq_add l dC dI kB kI s0 s1 s2 s3 st1 li1 of1 pt nu1 ma1 (nI (ee - first)) 0 0 (by omega) (by omega) H.size) (cwV 3 hts gX4_findBlock_X6_add rfl rfl rfl (by decide +kernel) ⟨Nat.le_of_ble_eq_true rfl, Nat.le_of_ble_eq_true rfl⟩) (z_preV hK (hP.sub [3, 4, 5, 6] rfl) (hD.sub [3, 4, 5, 6] (by decide) rfl) (va_recv hK hP (ci := 6) (q0 := 3) rfl rfl)) rfl rfl hl.1 rfl (lv_room (Nat.le_of_ble_eq_true rfl)) dX4_findBlock_150 ⟨Nat.le_of_ble_eq_true rfl, Nat.le_of_ble_eq_true rfl⟩) hK hP hD hS hA [3, 4, 5, 6] [0, 1, 2, 7] rfl rfl (by decide) (by decide) (fun uq2 H locs hw hP hD hS => ?_)
        replace hw : True := hw
        have hP : va_P (dC, dI) vwCl [(p0, .inr (4, [.ref a0, .ref g0, .ref o0, .ref s0, .ref b0, .int (nI bl), .int (nI ra)])), (a0, .inr (5, [.ref a1, .int (nI n)])), (a1, .inl (kB, 140000, .inl f)), (b0, .inl (kI, 4096, .inl ta1)), (s0, .inr (6, [.ref s1, .ref s2, .ref s3, .int (nI pt), .int (nI (nu1 + 1)), .int (nI (ma1 + 0))])), (s1, .inl (kI, 140001, .inl (upd st1 (nu1 + 1) ((st1 nu1 + (nI (ee - first))) + nI 0)))), (s2, .inl (kI, 140000, .inl (upd li1 nu1 (nI (ee - first))))), (s3, .inl (kI, 140000, .inl (upd of1 nu1 0)))] H := hP
        have hD : va_D A [(p0, .inr (4, [.ref a0, .ref g0, .ref o0, .ref s0, .ref b0, .int (nI bl), .int (nI ra)])), (a0, .inr (5, [.ref a1, .int (nI n)])), (a1, .inl (kB, 140000, .inl f)), (b0, .inl (kI, 4096, .inl ta1)), (s0, .inr (6, [.ref s1, .ref s2, .ref s3, .int (nI pt), .int (nI (nu1 + 1)), .int (nI (ma1 + 0))])), (s1, .inl (kI, 140001, .inl (upd st1 (nu1 + 1) ((st1 nu1 + (nI (ee - first))) + nI 0)))), (s2, .inl (kI, 140000, .inl (upd li1 nu1 (nI (ee - first))))), (s3, .inl (kI, 140000, .inl (upd of1 nu1 0)))] := hD
        have hs2 := sqC_add hs b (ee - first) 0 0
        rw [← hn1] at hs2
        have eL : LL ++ (findL f b hist ee (ee - i + 1) i i tb).1 = (LL ++ K) ++ [(b, first, ee - first, 0, 0)] := by rw [hI]; simp
        have eM : mSum (findL f b hist ee (ee - i + 1) i i tb).1 = mSum K := by rw [hI]; simp [mSum]
        have eT : (findL f b hist ee (ee - i + 1) i i tb).2 = tb1 := by rw [hI]
        have hP9 := hP.sub (ws' := [(p0, .inr (4, [.ref a0, .ref g0, .ref o0, .ref s0, .ref b0, .int (nI bl), .int (nI ra)])), (a0, .inr (5, [.ref a1, .int (nI n)])), (a1, .inl (kB, 140000, .inl f)), (s0, .inr (6, [.ref s1, .ref s2, .ref s3, .int (nI pt), .int (nI (nu1 + 1)), .int (nI (ma1 + 0))])), (s1, .inl (kI, 140001, .inl (upd st1 (nu1 + 1) ((st1 nu1 + (nI (ee - first))) + nI 0)))), (s2, .inl (kI, 140000, .inl (upd li1 nu1 (nI (ee - first))))), (s3, .inl (kI, 140000, .inl (upd of1 nu1 0))), (b0, .inl (kI, 4096, .inl ta1))]) [0, 1, 2, 4, 5, 6, 7, 3] rfl
        have hD9 := hD.sub (ws' := [(p0, .inr (4, [.ref a0, .ref g0, .ref o0, .ref s0, .ref b0, .int (nI bl), .int (nI ra)])), (a0, .inr (5, [.ref a1, .int (nI n)])), (a1, .inl (kB, 140000, .inl f)), (s0, .inr (6, [.ref s1, .ref s2, .ref s3, .int (nI pt), .int (nI (nu1 + 1)), .int (nI (ma1 + 0))])), (s1, .inl (kI, 140001, .inl (upd st1 (nu1 + 1) ((st1 nu1 + (nI (ee - first))) + nI 0)))), (s2, .inl (kI, 140000, .inl (upd li1 nu1 (nI (ee - first))))), (s3, .inl (kI, 140000, .inl (upd of1 nu1 0))), (b0, .inl (kI, 4096, .inl ta1))]) [0, 1, 2, 4, 5, 6, 7, 3] (by decide) rfl
        exact W.vret hx hb hr (fun t9 ht9 hW9 => ⟨⟨((upd st1 (nu1 + 1) ((st1 nu1 + (nI (ee - first))) + nI 0)), (upd li1 nu1 (nI (ee - first))), (upd of1 nu1 0), ta1, (nu1 + 1), (ma1 + 0)), rfl, (show sqC (LL ++ (findL f b hist ee (ee - i + 1) i i tb).1) ee (upd st1 (nu1 + 1) ((st1 nu1 + (nI (ee - first))) + nI 0)) (upd li1 nu1 (nI (ee - first))) (upd of1 nu1 0) ∧ (nu1 + 1) = (LL ++ (findL f b hist ee (ee - i + 1) i i tb).1).length ∧ (ma1 + 0) = ma + mSum (findL f b hist ee (ee - i + 1) i i tb).1 ∧ tbC (findL f b hist ee (ee - i + 1) i i tb).2 ta1 ee ∧ (nu1 + 1) ≤ nu + (ee - i) ∧ (ma1 + 0) ≤ ma + (ee - i) from (⟨by rw [eL]; have e9 : first + (ee - first) + 0 = ee := (by omega); rw [e9] at hs2; exact hs2, by rw [eL, hn1, List.length_append (as := LL ++ K)]; rfl, by rw [eM, hm1]; rfl, by rw [eT]; exact fun z hz => ⟨(ht1 z hz).1, by have := (ht1 z hz).2; omega⟩, by omega, by omega⟩)), by rw [ht9]; exact hP9, va_K.moved hW9.alike hK, hD9⟩, hS.F ht9⟩) hS.2.2 dX4_findBlock_153
      · refine lv_aload_n hx hb dX4_findBlock_15 rfl (lv_at hl 0 rfl) ?_
        refine va_get (D := (dC, dI)) (ci := 4) (v := .ref a0) (C := RX4) (T := TX4) (N := 7) hx hb hts (by decide +kernel) hown hK hP 0 rfl rfl 0 (by decide) (hts (.fieldLink RX4 15 "SequenceFrames$Packer" "content" "LSequenceFrames$Row;") (by decide +kernel)) (fun _ h9 => h9) rfl dX4_findBlock_16 ?_
        refine lv_iload hx hb dX4_findBlock_19 (lv_at hl 5 rfl) ?_
        refine z_calli (wr := [(p0, .inr (4, [.ref a0, .ref g0, .ref o0, .ref s0, .ref b0, .int (nI bl), .int (nI ra)])), (s0, .inr (6, [.ref s1, .ref s2, .ref s3, .int (nI pt), .int (nI nu1), .int (nI ma1)])), (s1, .inl (kI, 140001, .inl st1)), (s2, .inl (kI, 140000, .inl li1)), (s3, .inl (kI, 140000, .inl of1)), (b0, .inl (kI, 4096, .inl ta1))]) (va_runV (As := [.int (nI p)]) (rest := []) ⟨hx, hb, hml, hown, hts⟩ (c_Row_word l dC dI kB kI a0 a1 140000 n f p (by omega) (by omega) (by omega) H.size) (cwV 1 hts gX4_findBlock_X5_word rfl rfl rfl (by decide +kernel) ⟨Nat.le_of_ble_eq_true rfl, Nat.le_of_ble_eq_true rfl⟩) (z_preV hK (hP.sub [1, 2] rfl) (hD.sub [1, 2] (by decide) rfl) (va_recv hK hP (ci := 5) (q0 := 1) rfl rfl)) rfl rfl hl.1 rfl (lv_room (Nat.le_of_ble_eq_true rfl)) dX4_findBlock_21 ⟨Nat.le_of_ble_eq_true rfl, Nat.le_of_ble_eq_true rfl⟩) hK hP hD hS hA [1, 2] [0, 3, 4, 5, 6, 7] rfl rfl (by decide) (by decide) (fun r3 uq4 H locs hw hP hD hS => ?_)
        replace hw : r3 = wdG f n p := hw
        have hP : va_P (dC, dI) vwCl [(p0, .inr (4, [.ref a0, .ref g0, .ref o0, .ref s0, .ref b0, .int (nI bl), .int (nI ra)])), (s0, .inr (6, [.ref s1, .ref s2, .ref s3, .int (nI pt), .int (nI nu1), .int (nI ma1)])), (s1, .inl (kI, 140001, .inl st1)), (s2, .inl (kI, 140000, .inl li1)), (s3, .inl (kI, 140000, .inl of1)), (b0, .inl (kI, 4096, .inl ta1)), (a0, .inr (5, [.ref a1, .int (nI n)])), (a1, .inl (kB, 140000, .inl f))] H := hP
        have hD : va_D A [(p0, .inr (4, [.ref a0, .ref g0, .ref o0, .ref s0, .ref b0, .int (nI bl), .int (nI ra)])), (s0, .inr (6, [.ref s1, .ref s2, .ref s3, .int (nI pt), .int (nI nu1), .int (nI ma1)])), (s1, .inl (kI, 140001, .inl st1)), (s2, .inl (kI, 140000, .inl li1)), (s3, .inl (kI, 140000, .inl of1)), (b0, .inl (kI, 4096, .inl ta1)), (a0, .inr (5, [.ref a1, .int (nI n)])), (a1, .inl (kB, 140000, .inl f))] := hD
        unfold wdG at hw; rw [if_pos (by omega)] at hw; subst hw
        refine lv_istore (lv' := [(6, .int (wd f p)), (0, .ref p0), (1, .int (nI i)), (2, .int (nI ee)), (3, .int (nI hist)), (4, .int (nI first)), (5, .int (nI p))]) hx hb dX4_findBlock_24 hl (by decide) rfl (fun ls hl => ?_)
        refine lv_iload hx hb dX4_findBlock_26 (lv_at hl 0 rfl) ?_
        refine lv_ldc (v := (-1640531535)) hx hb hown (hts (.constant RX4 111 (-1640531535)) (by decide +kernel)) dX4_findBlock_28 ?_
        refine lv_imul hx hb dX4_findBlock_30 ?_
        refine lv_bipush (v := 20) hx hb dX4_findBlock_31 (by decide) ?_
        refine lv_iushr (v := (ushr ((wd f p) * (-1640531535)) 20)) hx hb dX4_findBlock_33 rfl ?_
        refine lv_is (y := (nI (slN (wd f p)))) (slN_eq _) ?_
        have hsl := slN_lt (wd f p)
        obtain ⟨htq, htq2⟩ := ht1 _ hsl
        refine lv_istore (lv' := [(7, .int (nI (slN (wd f p)))), (6, .int (wd f p)), (0, .ref p0), (1, .int (nI i)), (2, .int (nI ee)), (3, .int (nI hist)), (4, .int (nI first)), (5, .int (nI p))]) hx hb dX4_findBlock_34 hl (by decide) rfl (fun ls hl => ?_)
        refine lv_aload_n hx hb dX4_findBlock_36 rfl (lv_at hl 2 rfl) ?_
        refine va_get (D := (dC, dI)) (ci := 4) (v := .ref b0) (C := RX4) (T := TX4) (N := 7) hx hb hts (by decide +kernel) hown hK hP 0 rfl rfl 4 (by decide) (hts (.fieldLink RX4 11 "SequenceFrames$Packer" "table" "[I") (by decide +kernel)) (fun _ h9 => h9) rfl dX4_findBlock_37 ?_
        refine lv_iload hx hb dX4_findBlock_40 (lv_at hl 0 rfl) ?_
        refine va_iald hx hb hK hP 5 1 rfl rfl (zin rfl (by omega) (by omega)) dX4_findBlock_42 ?_
        refine lv_is (y := (ta1 (slN (wd f p)))) (zld ta1 rfl (by omega)) ?_
        refine lv_is (y := ((nI (tb1 (slN (wd f p)))) - 1)) (htq) ?_
        refine lv_istore (lv' := [(8, .int ((nI (tb1 (slN (wd f p)))) - 1)), (7, .int (nI (slN (wd f p)))), (6, .int (wd f p)), (0, .ref p0), (1, .int (nI i)), (2, .int (nI ee)), (3, .int (nI hist)), (4, .int (nI first)), (5, .int (nI p))]) hx hb dX4_findBlock_43 hl (by decide) rfl (fun ls hl => ?_)
        refine lv_aload_n hx hb dX4_findBlock_45 rfl (lv_at hl 3 rfl) ?_
        refine va_get (D := (dC, dI)) (ci := 4) (v := .ref b0) (C := RX4) (T := TX4) (N := 7) hx hb hts (by decide +kernel) hown hK hP 0 rfl rfl 4 (by decide) (hts (.fieldLink RX4 11 "SequenceFrames$Packer" "table" "[I") (by decide +kernel)) (fun _ h9 => h9) rfl dX4_findBlock_46 ?_
        refine lv_iload hx hb dX4_findBlock_49 (lv_at hl 1 rfl) ?_
        refine lv_iload hx hb dX4_findBlock_51 (lv_at hl 8 rfl) ?_
        refine va_iast hx hb hK hP hD hS 5 1 rfl rfl (zin rfl (by omega) (by omega)) dX4_findBlock_53 (fun H locs hP hD hS => ?_)
        have ez := zst ta1 (nI p) (i := (nI (slN (wd f p)))) (j := (slN (wd f p))) rfl (by omega)
        have hP : va_P (dC, dI) vwCl [(p0, .inr (4, [.ref a0, .ref g0, .ref o0, .ref s0, .ref b0, .int (nI bl), .int (nI ra)])), (s0, .inr (6, [.ref s1, .ref s2, .ref s3, .int (nI pt), .int (nI nu1), .int (nI ma1)])), (s1, .inl (kI, 140001, .inl st1)), (s2, .inl (kI, 140000, .inl li1)), (s3, .inl (kI, 140000, .inl of1)), (b0, .inl (kI, 4096, .inl (upd ta1 (slN (wd f p)) (nI p)))), (a0, .inr (5, [.ref a1, .int (nI n)])), (a1, .inl (kB, 140000, .inl f))] H := by rw [← ez]; exact hP
        have hD : va_D A [(p0, .inr (4, [.ref a0, .ref g0, .ref o0, .ref s0, .ref b0, .int (nI bl), .int (nI ra)])), (s0, .inr (6, [.ref s1, .ref s2, .ref s3, .int (nI pt), .int (nI nu1), .int (nI ma1)])), (s1, .inl (kI, 140001, .inl st1)), (s2, .inl (kI, 140000, .inl li1)), (s3, .inl (kI, 140000, .inl of1)), (b0, .inl (kI, 4096, .inl (upd ta1 (slN (wd f p)) (nI p)))), (a0, .inr (5, [.ref a1, .int (nI n)])), (a1, .inl (kB, 140000, .inl f))] := by rw [← ez]; exact hD
        refine lv_iconst (v := 0) hx hb dX4_findBlock_54 (by decide) ?_
        refine lv_istore (lv' := [(9, .int 0), (8, .int ((nI (tb1 (slN (wd f p)))) - 1)), (7, .int (nI (slN (wd f p)))), (6, .int (wd f p)), (0, .ref p0), (1, .int (nI i)), (2, .int (nI ee)), (3, .int (nI hist)), (4, .int (nI first)), (5, .int (nI p))]) hx hb dX4_findBlock_55 hl (by decide) rfl (fun ls hl => ?_)
        refine lv_iload hx hb dX4_findBlock_57 (lv_at hl 1 rfl) ?_
        refine lv_iload_n hx hb dX4_findBlock_59 rfl (lv_at hl 7 rfl) ?_
        refine zb_icmp_lt (tgt := 126) (a := (((tb1 (slN (wd f p)) : Nat) : Int) - 1)) (b := ((hist : Nat) : Int)) hx hb dX4_findBlock_60 (by decide) (zi_sub (nI_toInt (by omega)) (by decide) (by omega) (by omega)) (nI_toInt (by omega)) (fun c60 => ?_) (fun c60 => ?_)
        · have hno : ¬ (hist < tb1 (slN (wd f p)) ∧ p - (tb1 (slN (wd f p)) - 1) ≤ 65535 ∧ wd f (tb1 (slN (wd f p)) - 1) = wd f p) := fun h => by omega
          unfold fndI at hI
          rw [findL_no (φ := f) (b := b) (hist := hist) (e := ee) (k := k) (p := p) (first := first) (tb := tb1) (by omega) hno] at hI
          refine lv_iload hx hb dX4_findBlock_126 (lv_at hl 9 rfl) ?_
          refine lv_iconst (v := 1) hx hb dX4_findBlock_128 (by decide) ?_
          refine lv_iload hx hb dX4_findBlock_129 (lv_at hl 0 rfl) ?_
          refine va_mmax hx hb (hml.trans hl.1.symm) hown (hts (.methodLink RX4 68 Lib.Math.max.name) (by decide +kernel)) (hts (.static Lib.Math.max.name) (by decide +kernel)) (hts (.initialized "java/lang/Math") (by decide +kernel)) (hts (.code Lib.Math.max.name Lib.Math.max.code 2 (some .int)) (by decide +kernel)) (Nat.le_of_ble_eq_true rfl) (Nat.le_of_ble_eq_true rfl) (Nat.zero_le _) (Nat.zero_le _) dX4_findBlock_131 ?_
          refine lv_is (y := 1) (rfl) ?_
          refine lv_iadd hx hb dX4_findBlock_134 ?_
          refine lv_is (y := (nI (p + 1))) ((zn_add rfl (show (1 : Int32) = nI 1 from rfl))) ?_
          refine lv_istore (lv' := [(5, .int (nI (p + 1))), (9, .int 0), (8, .int ((nI (tb1 (slN (wd f p)))) - 1)), (7, .int (nI (slN (wd f p)))), (6, .int (wd f p)), (0, .ref p0), (1, .int (nI i)), (2, .int (nI ee)), (3, .int (nI hist)), (4, .int (nI first))]) hx hb dX4_findBlock_135 hl (by decide) rfl (fun ls hl => ?_)
          refine lv_goto (tgt := 6) hx hb dX4_findBlock_137 (by decide) ?_
          exact hG2 _ _ _ (ih k (p + 1) first K (upN tb1 (slN (wd f p)) (p + 1)) st1 li1 of1 (upd ta1 (slN (wd f p)) (nI p)) nu1 ma1 hI (by omega) (by omega) (by omega) (by omega) (by omega) hs hn1 (by omega) hm1 (by omega) (tbC_set ht1 _ (by omega)) (by omega) _ _ (hP.sub [0, 6, 7, 1, 2, 3, 4, 5] rfl) (hD.sub [0, 6, 7, 1, 2, 3, 4, 5] (by decide) rfl) hS ls (lv_sub hl [5, 6, 7, 8, 9, 0] rfl))
        · obtain ⟨q, eq⟩ : ∃ q, tb1 (slN (wd f p)) = q + 1 := ⟨tb1 (slN (wd f p)) - 1, by omega⟩
          have eq9 : (((nI (tb1 (slN (wd f p)))) - 1) : Int32) = (nI q) := by rw [eq]; exact nI_pred q
          have hl : lv_has ls 10 [(9, .int 0), (8, .int (nI q)), (7, .int (nI (slN (wd f p)))), (6, .int (wd f p)), (0, .ref p0), (1, .int (nI i)), (2, .int (nI ee)), (3, .int (nI hist)), (4, .int (nI first)), (5, .int (nI p))] := by rw [← eq9]; exact hl
          refine lv_iload hx hb dX4_findBlock_63 (lv_at hl 9 rfl) ?_
          refine lv_iload hx hb dX4_findBlock_65 (lv_at hl 1 rfl) ?_
          refine lv_isub hx hb dX4_findBlock_67 ?_
          refine lv_ldc (v := 65535) hx hb hown (hts (.constant RX4 112 65535) (by decide +kernel)) dX4_findBlock_68 ?_
          refine zb_icmp_gt (tgt := 126) (a := (((p : Nat) : Int) - ((q : Nat) : Int))) (b := 65535) hx hb dX4_findBlock_70 (by decide) (zi_sub (nI_toInt (by omega)) (nI_toInt (by omega)) (by omega) (by omega)) (by decide) (fun c70 => ?_) (fun c70 => ?_)
          · have hno : ¬ (hist < tb1 (slN (wd f p)) ∧ p - (tb1 (slN (wd f p)) - 1) ≤ 65535 ∧ wd f (tb1 (slN (wd f p)) - 1) = wd f p) := fun h => by rw [eq] at h; omega
            unfold fndI at hI
            rw [findL_no (φ := f) (b := b) (hist := hist) (e := ee) (k := k) (p := p) (first := first) (tb := tb1) (by omega) hno] at hI
            refine lv_iload hx hb dX4_findBlock_126 (lv_at hl 9 rfl) ?_
            refine lv_iconst (v := 1) hx hb dX4_findBlock_128 (by decide) ?_
            refine lv_iload hx hb dX4_findBlock_129 (lv_at hl 0 rfl) ?_
            refine va_mmax hx hb (hml.trans hl.1.symm) hown (hts (.methodLink RX4 68 Lib.Math.max.name) (by decide +kernel)) (hts (.static Lib.Math.max.name) (by decide +kernel)) (hts (.initialized "java/lang/Math") (by decide +kernel)) (hts (.code Lib.Math.max.name Lib.Math.max.code 2 (some .int)) (by decide +kernel)) (Nat.le_of_ble_eq_true rfl) (Nat.le_of_ble_eq_true rfl) (Nat.zero_le _) (Nat.zero_le _) dX4_findBlock_131 ?_
            refine lv_is (y := 1) (rfl) ?_
            refine lv_iadd hx hb dX4_findBlock_134 ?_
            refine lv_is (y := (nI (p + 1))) ((zn_add rfl (show (1 : Int32) = nI 1 from rfl))) ?_
            refine lv_istore (lv' := [(5, .int (nI (p + 1))), (9, .int 0), (8, .int (nI q)), (7, .int (nI (slN (wd f p)))), (6, .int (wd f p)), (0, .ref p0), (1, .int (nI i)), (2, .int (nI ee)), (3, .int (nI hist)), (4, .int (nI first))]) hx hb dX4_findBlock_135 hl (by decide) rfl (fun ls hl => ?_)
            refine lv_goto (tgt := 6) hx hb dX4_findBlock_137 (by decide) ?_
            exact hG2 _ _ _ (ih k (p + 1) first K (upN tb1 (slN (wd f p)) (p + 1)) st1 li1 of1 (upd ta1 (slN (wd f p)) (nI p)) nu1 ma1 hI (by omega) (by omega) (by omega) (by omega) (by omega) hs hn1 (by omega) hm1 (by omega) (tbC_set ht1 _ (by omega)) (by omega) _ _ (hP.sub [0, 6, 7, 1, 2, 3, 4, 5] rfl) (hD.sub [0, 6, 7, 1, 2, 3, 4, 5] (by decide) rfl) hS ls (lv_sub hl [5, 6, 7, 8, 9, 0] rfl))
          · refine lv_aload_n hx hb dX4_findBlock_73 rfl (lv_at hl 4 rfl) ?_
            refine va_get (D := (dC, dI)) (ci := 4) (v := .ref a0) (C := RX4) (T := TX4) (N := 7) hx hb hts (by decide +kernel) hown hK hP 0 rfl rfl 0 (by decide) (hts (.fieldLink RX4 15 "SequenceFrames$Packer" "content" "LSequenceFrames$Row;") (by decide +kernel)) (fun _ h9 => h9) rfl dX4_findBlock_74 ?_
            refine lv_iload hx hb dX4_findBlock_77 (lv_at hl 1 rfl) ?_
            refine z_calli (wr := [(p0, .inr (4, [.ref a0, .ref g0, .ref o0, .ref s0, .ref b0, .int (nI bl), .int (nI ra)])), (s0, .inr (6, [.ref s1, .ref s2, .ref s3, .int (nI pt), .int (nI nu1), .int (nI ma1)])), (s1, .inl (kI, 140001, .inl st1)), (s2, .inl (kI, 140000, .inl li1)), (s3, .inl (kI, 140000, .inl of1)), (b0, .inl (kI, 4096, .inl (upd ta1 (slN (wd f p)) (nI p))))]) (va_runV (As := [.int (nI q)]) (rest := []) ⟨hx, hb, hml, hown, hts⟩ (c_Row_word l dC dI kB kI a0 a1 140000 n f q (by omega) (by omega) (by omega) H.size) (cwV 1 hts gX4_findBlock_X5_word rfl rfl rfl (by decide +kernel) ⟨Nat.le_of_ble_eq_true rfl, Nat.le_of_ble_eq_true rfl⟩) (z_preV hK (hP.sub [6, 7] rfl) (hD.sub [6, 7] (by decide) rfl) (va_recv hK hP (ci := 5) (q0 := 6) rfl rfl)) rfl rfl hl.1 rfl (lv_room (Nat.le_of_ble_eq_true rfl)) dX4_findBlock_79 ⟨Nat.le_of_ble_eq_true rfl, Nat.le_of_ble_eq_true rfl⟩) hK hP hD hS hA [6, 7] [0, 1, 2, 3, 4, 5] rfl rfl (by decide) (by decide) (fun r5 uq6 H locs hv hP hD hS => ?_)
            replace hv : r5 = wdG f n q := hv
            have hP : va_P (dC, dI) vwCl [(p0, .inr (4, [.ref a0, .ref g0, .ref o0, .ref s0, .ref b0, .int (nI bl), .int (nI ra)])), (s0, .inr (6, [.ref s1, .ref s2, .ref s3, .int (nI pt), .int (nI nu1), .int (nI ma1)])), (s1, .inl (kI, 140001, .inl st1)), (s2, .inl (kI, 140000, .inl li1)), (s3, .inl (kI, 140000, .inl of1)), (b0, .inl (kI, 4096, .inl (upd ta1 (slN (wd f p)) (nI p)))), (a0, .inr (5, [.ref a1, .int (nI n)])), (a1, .inl (kB, 140000, .inl f))] H := hP
            have hD : va_D A [(p0, .inr (4, [.ref a0, .ref g0, .ref o0, .ref s0, .ref b0, .int (nI bl), .int (nI ra)])), (s0, .inr (6, [.ref s1, .ref s2, .ref s3, .int (nI pt), .int (nI nu1), .int (nI ma1)])), (s1, .inl (kI, 140001, .inl st1)), (s2, .inl (kI, 140000, .inl li1)), (s3, .inl (kI, 140000, .inl of1)), (b0, .inl (kI, 4096, .inl (upd ta1 (slN (wd f p)) (nI p)))), (a0, .inr (5, [.ref a1, .int (nI n)])), (a1, .inl (kB, 140000, .inl f))] := hD
            unfold wdG at hv; rw [if_pos (by omega)] at hv; subst hv
            refine lv_iload hx hb dX4_findBlock_82 (lv_at hl 3 rfl) ?_
            refine lv_icmp_ne (tgt := 126) hx hb dX4_findBlock_84 (by decide) (fun c84 => ?_) (fun c84 => ?_)
            · have hno : ¬ (hist < tb1 (slN (wd f p)) ∧ p - (tb1 (slN (wd f p)) - 1) ≤ 65535 ∧ wd f (tb1 (slN (wd f p)) - 1) = wd f p) := fun h => c84 (by rw [eq] at h; exact h.2.2)
              unfold fndI at hI
              rw [findL_no (φ := f) (b := b) (hist := hist) (e := ee) (k := k) (p := p) (first := first) (tb := tb1) (by omega) hno] at hI
              refine lv_iload hx hb dX4_findBlock_126 (lv_at hl 9 rfl) ?_
              refine lv_iconst (v := 1) hx hb dX4_findBlock_128 (by decide) ?_
              refine lv_iload hx hb dX4_findBlock_129 (lv_at hl 0 rfl) ?_
              refine va_mmax hx hb (hml.trans hl.1.symm) hown (hts (.methodLink RX4 68 Lib.Math.max.name) (by decide +kernel)) (hts (.static Lib.Math.max.name) (by decide +kernel)) (hts (.initialized "java/lang/Math") (by decide +kernel)) (hts (.code Lib.Math.max.name Lib.Math.max.code 2 (some .int)) (by decide +kernel)) (Nat.le_of_ble_eq_true rfl) (Nat.le_of_ble_eq_true rfl) (Nat.zero_le _) (Nat.zero_le _) dX4_findBlock_131 ?_
              refine lv_is (y := 1) (rfl) ?_
              refine lv_iadd hx hb dX4_findBlock_134 ?_
              refine lv_is (y := (nI (p + 1))) ((zn_add rfl (show (1 : Int32) = nI 1 from rfl))) ?_
              refine lv_istore (lv' := [(5, .int (nI (p + 1))), (9, .int 0), (8, .int (nI q)), (7, .int (nI (slN (wd f p)))), (6, .int (wd f p)), (0, .ref p0), (1, .int (nI i)), (2, .int (nI ee)), (3, .int (nI hist)), (4, .int (nI first))]) hx hb dX4_findBlock_135 hl (by decide) rfl (fun ls hl => ?_)
              refine lv_goto (tgt := 6) hx hb dX4_findBlock_137 (by decide) ?_
              exact hG2 _ _ _ (ih k (p + 1) first K (upN tb1 (slN (wd f p)) (p + 1)) st1 li1 of1 (upd ta1 (slN (wd f p)) (nI p)) nu1 ma1 hI (by omega) (by omega) (by omega) (by omega) (by omega) hs hn1 (by omega) hm1 (by omega) (tbC_set ht1 _ (by omega)) (by omega) _ _ (hP.sub [0, 6, 7, 1, 2, 3, 4, 5] rfl) (hD.sub [0, 6, 7, 1, 2, 3, 4, 5] (by decide) rfl) hS ls (lv_sub hl [5, 6, 7, 8, 9, 0] rfl))
            · have hm4 := mlenC_ge hf (lim := ee - 5) c84 (by omega)
              have hmle := mlenC_le (φ := f) (q := q) (p := p) (lim := ee - 5) (by omega)
              unfold fndI at hI
              rw [findL_yes (φ := f) (b := b) (hist := hist) (e := ee) (k := k) (p := p) (first := first) (q := q) (tb := tb1) (by omega) eq (by omega) (by omega) c84] at hI
              refine lv_aload_n hx hb dX4_findBlock_87 rfl (lv_at hl 4 rfl) ?_
              refine lv_iload hx hb dX4_findBlock_88 (lv_at hl 1 rfl) ?_
              refine lv_iload hx hb dX4_findBlock_90 (lv_at hl 9 rfl) ?_
              refine lv_iload_n hx hb dX4_findBlock_92 rfl (lv_at hl 6 rfl) ?_
              refine lv_iconst (v := 5) hx hb dX4_findBlock_93 (by decide) ?_
              refine lv_isub hx hb dX4_findBlock_94 ?_
              refine lv_is (y := (nI (ee - 5))) ((zn_sub rfl (show (5 : Int32) = nI 5 from rfl) (by omega)).trans (congrArg nI (by omega))) ?_
              refine z_calli (wr := [(s0, .inr (6, [.ref s1, .ref s2, .ref s3, .int (nI pt), .int (nI nu1), .int (nI ma1)])), (s1, .inl (kI, 140001, .inl st1)), (s2, .inl (kI, 140000, .inl li1)), (s3, .inl (kI, 140000, .inl of1)), (b0, .inl (kI, 4096, .inl (upd ta1 (slN (wd f p)) (nI p))))]) (va_runV (As := [.int (nI q), .int (nI p), .int (nI (ee - 5))]) (rest := []) ⟨hx, hb, hml, hown, hts⟩ (c_Pck_matchLength l dC dI kB kI p0 a0 g0 o0 s0 b0 bl ra a1 n f q p (ee - 5) (by omega) (by omega) (by omega) (by omega) hf H.size) (cwV 3 hts gX4_findBlock_X4_matchLength rfl rfl rfl (by decide +kernel) ⟨Nat.le_of_ble_eq_true rfl, Nat.le_of_ble_eq_true rfl⟩) (z_preV hK (hP.sub [0, 6, 7] rfl) (hD.sub [0, 6, 7] (by decide) rfl) (va_recv hK hP (ci := 4) (q0 := 0) rfl rfl)) rfl rfl hl.1 rfl (lv_room (Nat.le_of_ble_eq_true rfl)) dX4_findBlock_95 ⟨Nat.le_of_ble_eq_true rfl, Nat.le_of_ble_eq_true rfl⟩) hK hP hD hS hA [0, 6, 7] [1, 2, 3, 4, 5] rfl rfl (by decide) (by decide) (fun r7 uq8 H locs hu hP hD hS => ?_)
              replace hu : r7 = nI (mlenC f q p (ee - 5)) := hu
              have hP : va_P (dC, dI) vwCl [(s0, .inr (6, [.ref s1, .ref s2, .ref s3, .int (nI pt), .int (nI nu1), .int (nI ma1)])), (s1, .inl (kI, 140001, .inl st1)), (s2, .inl (kI, 140000, .inl li1)), (s3, .inl (kI, 140000, .inl of1)), (b0, .inl (kI, 4096, .inl (upd ta1 (slN (wd f p)) (nI p)))), (p0, .inr (4, [.ref a0, .ref g0, .ref o0, .ref s0, .ref b0, .int (nI bl), .int (nI ra)])), (a0, .inr (5, [.ref a1, .int (nI n)])), (a1, .inl (kB, 140000, .inl f))] H := hP
              have hD : va_D A [(s0, .inr (6, [.ref s1, .ref s2, .ref s3, .int (nI pt), .int (nI nu1), .int (nI ma1)])), (s1, .inl (kI, 140001, .inl st1)), (s2, .inl (kI, 140000, .inl li1)), (s3, .inl (kI, 140000, .inl of1)), (b0, .inl (kI, 4096, .inl (upd ta1 (slN (wd f p)) (nI p)))), (p0, .inr (4, [.ref a0, .ref g0, .ref o0, .ref s0, .ref b0, .int (nI bl), .int (nI ra)])), (a0, .inr (5, [.ref a1, .int (nI n)])), (a1, .inl (kB, 140000, .inl f))] := hD
              generalize hmx : mlenC f q p (ee - 5) = mx at hu hm4 hmle hI
              subst hu
              refine lv_istore (lv' := [(9, .int (nI mx)), (8, .int (nI q)), (7, .int (nI (slN (wd f p)))), (6, .int (wd f p)), (0, .ref p0), (1, .int (nI i)), (2, .int (nI ee)), (3, .int (nI hist)), (4, .int (nI first)), (5, .int (nI p))]) hx hb dX4_findBlock_98 hl (by decide) rfl (fun ls hl => ?_)
              refine lv_aload_n hx hb dX4_findBlock_100 rfl (lv_at hl 4 rfl) ?_
              refine va_get (D := (dC, dI)) (ci := 4) (v := .ref s0) (C := RX4) (T := TX4) (N := 7) hx hb hts (by decide +kernel) hown hK hP 5 rfl rfl 3 (by decide) (hts (.fieldLink RX4 26 "SequenceFrames$Packer" "found" "LSequenceFrames$Sequences;") (by decide +kernel)) (fun _ h9 => h9) rfl dX4_findBlock_101 ?_
              refine lv_iload hx hb dX4_findBlock_104 (lv_at hl 9 rfl) ?_
              refine lv_iload hx hb dX4_findBlock_106 (lv_at hl 8 rfl) ?_
              refine lv_isub hx hb dX4_findBlock_108 ?_
              refine lv_is (y := (nI (p - first))) ((zn_sub rfl rfl (by omega)).trans (congrArg nI (by omega))) ?_
              refine lv_iload hx hb dX4_findBlock_109 (lv_at hl 9 rfl) ?_
              refine lv_iload hx hb dX4_findBlock_111 (lv_at hl 1 rfl) ?_
              refine lv_isub hx hb dX4_findBlock_113 ?_
              refine lv_is (y := (nI (p - q))) ((zn_sub rfl rfl (by omega)).trans (congrArg nI (by omega))) ?_
              refine lv_iload hx hb dX4_findBlock_114 (lv_at hl 0 rfl) ?_
              refine z_callv (wr := [(b0, .inl (kI, 4096, .inl (upd ta1 (slN (wd f p)) (nI p)))), (p0, .inr (4, [.ref a0, .ref g0, .ref o0, .ref s0, .ref b0, .int (nI bl), .int (nI ra)])), (a0, .inr (5, [.ref a1, .int (nI n)])), (a1, .inl (kB, 140000, .inl f))]) (va_runV (As := [.int (nI (p - first)), .int (nI (p - q)), .int (nI mx)]) (rest := []) ⟨hx, hb, hml, hown, hts⟩ (c_Seq_add l dC dI kB kI s0 s1 s2 s3 st1 li1 of1 pt nu1 ma1 (nI (p - first)) (nI (p - q)) mx (by omega) (by omega) H.size) (cwV 3 hts gX4_findBlock_X6_add rfl rfl rfl (by decide +kernel) ⟨Nat.le_of_ble_eq_true rfl, Nat.le_of_ble_eq_true rfl⟩) (z_preV hK (hP.sub [0, 1, 2, 3] rfl) (hD.sub [0, 1, 2, 3] (by decide) rfl) (va_recv hK hP (ci := 6) (q0 := 0) rfl rfl)) rfl rfl hl.1 rfl (lv_room (Nat.le_of_ble_eq_true rfl)) dX4_findBlock_116 ⟨Nat.le_of_ble_eq_true rfl, Nat.le_of_ble_eq_true rfl⟩) hK hP hD hS hA [0, 1, 2, 3] [4, 5, 6, 7] rfl rfl (by decide) (by decide) (fun uq10 H locs hz hP hD hS => ?_)
              replace hz : True := hz
              have hP : va_P (dC, dI) vwCl [(b0, .inl (kI, 4096, .inl (upd ta1 (slN (wd f p)) (nI p)))), (p0, .inr (4, [.ref a0, .ref g0, .ref o0, .ref s0, .ref b0, .int (nI bl), .int (nI ra)])), (a0, .inr (5, [.ref a1, .int (nI n)])), (a1, .inl (kB, 140000, .inl f)), (s0, .inr (6, [.ref s1, .ref s2, .ref s3, .int (nI pt), .int (nI (nu1 + 1)), .int (nI (ma1 + mx))])), (s1, .inl (kI, 140001, .inl (upd st1 (nu1 + 1) ((st1 nu1 + (nI (p - first))) + nI mx)))), (s2, .inl (kI, 140000, .inl (upd li1 nu1 (nI (p - first))))), (s3, .inl (kI, 140000, .inl (upd of1 nu1 (nI (p - q)))))] H := hP
              have hD : va_D A [(b0, .inl (kI, 4096, .inl (upd ta1 (slN (wd f p)) (nI p)))), (p0, .inr (4, [.ref a0, .ref g0, .ref o0, .ref s0, .ref b0, .int (nI bl), .int (nI ra)])), (a0, .inr (5, [.ref a1, .int (nI n)])), (a1, .inl (kB, 140000, .inl f)), (s0, .inr (6, [.ref s1, .ref s2, .ref s3, .int (nI pt), .int (nI (nu1 + 1)), .int (nI (ma1 + mx))])), (s1, .inl (kI, 140001, .inl (upd st1 (nu1 + 1) ((st1 nu1 + (nI (p - first))) + nI mx)))), (s2, .inl (kI, 140000, .inl (upd li1 nu1 (nI (p - first))))), (s3, .inl (kI, 140000, .inl (upd of1 nu1 (nI (p - q)))))] := hD
              refine lv_iload hx hb dX4_findBlock_119 (lv_at hl 9 rfl) ?_
              refine lv_iload hx hb dX4_findBlock_121 (lv_at hl 0 rfl) ?_
              refine lv_iadd hx hb dX4_findBlock_123 ?_
              refine lv_is (y := (nI (p + mx))) ((zn_add rfl rfl)) ?_
              refine lv_istore (lv' := [(4, .int (nI (p + mx))), (9, .int (nI mx)), (8, .int (nI q)), (7, .int (nI (slN (wd f p)))), (6, .int (wd f p)), (0, .ref p0), (1, .int (nI i)), (2, .int (nI ee)), (3, .int (nI hist)), (5, .int (nI p))]) hx hb dX4_findBlock_124 hl (by decide) rfl (fun ls hl => ?_)
              refine lv_iload hx hb dX4_findBlock_126 (lv_at hl 9 rfl) ?_
              refine lv_iconst (v := 1) hx hb dX4_findBlock_128 (by decide) ?_
              refine lv_iload hx hb dX4_findBlock_129 (lv_at hl 1 rfl) ?_
              refine va_mmax hx hb (hml.trans hl.1.symm) hown (hts (.methodLink RX4 68 Lib.Math.max.name) (by decide +kernel)) (hts (.static Lib.Math.max.name) (by decide +kernel)) (hts (.initialized "java/lang/Math") (by decide +kernel)) (hts (.code Lib.Math.max.name Lib.Math.max.code 2 (some .int)) (by decide +kernel)) (Nat.le_of_ble_eq_true rfl) (Nat.le_of_ble_eq_true rfl) (Nat.zero_le _) (Nat.zero_le _) dX4_findBlock_131 ?_
              refine lv_is (y := (nI mx)) (z_max1 mx (by omega) (by omega)) ?_
              refine lv_iadd hx hb dX4_findBlock_134 ?_
              refine lv_is (y := (nI (p + mx))) ((zn_add rfl rfl)) ?_
              refine lv_istore (lv' := [(5, .int (nI (p + mx))), (4, .int (nI (p + mx))), (9, .int (nI mx)), (8, .int (nI q)), (7, .int (nI (slN (wd f p)))), (6, .int (wd f p)), (0, .ref p0), (1, .int (nI i)), (2, .int (nI ee)), (3, .int (nI hist))]) hx hb dX4_findBlock_135 hl (by decide) rfl (fun ls hl => ?_)
              refine lv_goto (tgt := 6) hx hb dX4_findBlock_137 (by decide) ?_
              have hs2 := sqC_add hs b (p - first) (p - q) mx
              rw [← hn1] at hs2
              exact hG2 _ _ _ (ih k (p + mx) (p + mx) (K ++ [(b, first, p - first, p - q, mx)]) (upN tb1 (slN (wd f p)) (p + 1)) (upd st1 (nu1 + 1) ((st1 nu1 + (nI (p - first))) + nI mx)) (upd li1 nu1 (nI (p - first))) (upd of1 nu1 (nI (p - q))) (upd ta1 (slN (wd f p)) (nI p)) (nu1 + 1) (ma1 + mx) (by unfold fndI; rw [hI, List.append_assoc]; rfl) (by omega) (by omega) (by omega) (by omega) (by omega) (by have e9 : first + (p - first) + mx = p + mx := (by omega); rw [e9, List.append_assoc] at hs2; exact hs2) (by rw [hn1]; simp; omega) (by omega) (by rw [mSum_add, hm1]; exact Nat.add_assoc _ _ _) (by omega) (tbC_set ht1 _ (by omega)) (by omega) _ _ (hP.sub [1, 2, 3, 4, 5, 6, 7, 0] rfl) (hD.sub [1, 2, 3, 4, 5, 6, 7, 0] (by decide) rfl) hS ls (lv_sub hl [6, 7, 8, 9, 1, 0] rfl))
  exact hG2 _ _ _ (lp (ee - i + 1) (ee - i + 1) i i ([]) tb st li of ta nu ma rfl (by omega) (by omega) (by omega) (by omega) (by omega) (by rw [List.append_nil]; exact hsq) (by rw [List.append_nil]; exact hnu) (by omega) rfl (by omega) htb (Nat.lt_succ_self _) _ _ (hP.sub [0, 1, 2, 3, 4, 5, 6, 7] rfl) (hD.sub [0, 1, 2, 3, 4, 5, 6, 7] (by decide) rfl) hS ls (lv_sub hl [2, 3, 4, 5, 1, 0] rfl))
