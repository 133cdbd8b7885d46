set_option maxHeartbeats 4000000 in
set_option maxRecDepth 100000 in
theorem c_Mod_find (l : Launch) (dC : Nat → ClassId) (dI : Nat → Nat → Nat) (kB kI : ClassId) (m0 : Nat) (z0 : Int32) (z2 : Int32) (z3 : Nat) (z4 : Int32) (z5 : Nat) (z6 : Int32) (z7 : Nat) (z8 : Int64) (z16 : Int32) (z19 : Nat) (z20 : Nat) (z21 : Int32) (z22 : Int32) (z23 : Int32) (z24 : Int32) (z25 : Int32) (z26 : Int32) (z27 : Int32) (z28 : Int32) (z29 : Int32) (z30 : Int32) (z31 : Int32) (z32 : Int32) (z33 : Int32) (z34 : Int32) (z35 : Int32) (z36 : Int64) (z37 : Int64) (z38 : Int32) (nu : Nat) (bl : Nat) (ma : Nat) (q0 : Nat) (q1 : Nat) (q2 : Nat) (q3 : Nat) (q4 : Nat) (g0 : Nat → Int32) (g1 : Nat → Int32) (g2 : Nat → Int32) (g3 : Nat → Int32) (g4 : Nat → Int32) (mC : Nat) (mS : Nat) (f : Nat → Int32) (sl : Nat → Int32) (i : Nat) (ee : Nat) (hist : Nat) (n : Nat) (φ : Nat → Int32) (tb : Nat → Nat) (LL : List Sq) (hn : n ≤ 140000) (hφ : bytF φ) (hag : ∀ j, j < n → f j = φ j) (hie : i < ee) (hen : ee ≤ n) (hhi : hist ≤ i) (htb : tbM tb hist sl i) (hsq : sqM LL g0 g1 g2 g3 g4) (hnu : nu = LL.length) (hnu2 : nu + (ee - i) ≤ 140000) (hma : ma + (ee - i) ≤ 140000) : zMv l yX8_find wsX8_find ({ frames := 1, cells := 0, slots := 0, locals := 24 }) (dC, dI) kB kI [.ref m0, .int (nI i), .int (nI ee)] [(m0, .inr (8, [.int z0, .ref mC, .int z2, .ref z3, .int z4, .ref z5, .int z6, .ref z7, .long z8, .ref q0, .ref q1, .ref q2, .ref q3, .ref q4, .int (nI nu), .int (nI bl), .int z16, .int (nI ma), .ref mS, .ref z19, .ref z20, .int z21, .int z22, .int z23, .int z24, .int z25, .int z26, .int z27, .int z28, .int z29, .int z30, .int z31, .int z32, .int z33, .int z34, .int z35, .long z36, .long z37, .int z38])), (q0, .inl (kI, 180000, .inl g0)), (q1, .inl (kI, 180000, .inl g1)), (q2, .inl (kI, 180000, .inl g2)), (q3, .inl (kI, 180000, .inl g3)), (q4, .inl (kI, 180000, .inl g4)), (mC, .inl (kB, 140000, .inl f)), (mS, .inl (kI, 4096, .inl sl))] 0 0 (fun uu : (Nat → Int32) × (Nat → Int32) × (Nat → Int32) × (Nat → Int32) × (Nat → Int32) × (Nat → Int32) × Nat × Nat => sqM (LL ++ (findL φ bl hist ee (ee - i + 1) i i tb).1) uu.1 uu.2.1 uu.2.2.1 uu.2.2.2.1 uu.2.2.2.2.1 ∧ uu.2.2.2.2.2.2.1 = (LL ++ (findL φ bl hist ee (ee - i + 1) i i tb).1).length ∧ uu.2.2.2.2.2.2.2 = ma + mSum (findL φ bl hist ee (ee - i + 1) i i tb).1 ∧ tbM (findL φ bl hist ee (ee - i + 1) i i tb).2 hist uu.2.2.2.2.2.1 ee) (fun uu : (Nat → Int32) × (Nat → Int32) × (Nat → Int32) × (Nat → Int32) × (Nat → Int32) × (Nat → Int32) × Nat × Nat => [(m0, .inr (8, [.int z0, .ref mC, .int z2, .ref z3, .int z4, .ref z5, .int z6, .ref z7, .long z8, .ref q0, .ref q1, .ref q2, .ref q3, .ref q4, .int (nI uu.2.2.2.2.2.2.1), .int (nI bl), .int z16, .int (nI uu.2.2.2.2.2.2.2), .ref mS, .ref z19, .ref z20, .int z21, .int z22, .int z23, .int z24, .int z25, .int z26, .int z27, .int z28, .int z29, .int z30, .int z31, .int z32, .int z33, .int z34, .int z35, .long z36, .long z37, .int z38])), (q0, .inl (kI, 180000, .inl uu.1)), (q1, .inl (kI, 180000, .inl uu.2.1)), (q2, .inl (kI, 180000, .inl uu.2.2.1)), (q3, .inl (kI, 180000, .inl uu.2.2.2.1)), (q4, .inl (kI, 180000, .inl uu.2.2.2.2.1)), (mC, .inl (kB, 140000, .inl f)), (mS, .inl (kI, 4096, .inl uu.2.2.2.2.2.1))]) := by
  intro sz
  refine Met.ofW (cc := cX8_find) (maxL := 9) (ret := none) (by decide) rfl ?_
  intro p e s m args below meth c s₁ B hml hv
  obtain ⟨rfl, hsz, hP, hK, hD0⟩ := hv
  have hx := B.exec
  have hb := B.bytes
  have hr := B.returns
  have hts := atoms_spec (ws := wsX8_find) B.pre
  have hown : s.vm.findClass RX8 = some m.cls := findClass_of_methodNamed B.named
  have hlocks := B.notSynchronized
  subst hsz
  have hD := hD0.self (sz := s.heap.size)
  generalize hAe : va_A [(m0, .inr (8, [.int z0, .ref mC, .int z2, .ref z3, .int z4, .ref z5, .int z6, .ref z7, .long z8, .ref q0, .ref q1, .ref q2, .ref q3, .ref q4, .int (nI nu), .int (nI bl), .int z16, .int (nI ma), .ref mS, .ref z19, .ref z20, .int z21, .int z22, .int z23, .int z24, .int z25, .int z26, .int z27, .int z28, .int z29, .int z30, .int z31, .int z32, .int z33, .int z34, .int z35, .long z36, .long z37, .int z38])), (q0, .inl (kI, 180000, .inl g0)), (q1, .inl (kI, 180000, .inl g1)), (q2, .inl (kI, 180000, .inl g2)), (q3, .inl (kI, 180000, .inl g3)), (q4, .inl (kI, 180000, .inl g4)), (mC, .inl (kB, 140000, .inl f)), (mS, .inl (kI, 4096, .inl sl))] s.heap.size = A at hD ⊢
  have hA : ∀ q : Nat, s.heap.size ≤ q → A q := fun q h => by rw [← hAe]; exact Or.inr h
  have hS : va_S A s.heap s.heap [] := va_S.rf
  have hP : va_P (dC, dI) vwCl [(m0, .inr (8, [.int z0, .ref mC, .int z2, .ref z3, .int z4, .ref z5, .int z6, .ref z7, .long z8, .ref q0, .ref q1, .ref q2, .ref q3, .ref q4, .int (nI nu), .int (nI bl), .int z16, .int (nI ma), .ref mS, .ref z19, .ref z20, .int z21, .int z22, .int z23, .int z24, .int z25, .int z26, .int z27, .int z28, .int z29, .int z30, .int z31, .int z32, .int z33, .int z34, .int z35, .long z36, .long z37, .int z38])), (q0, .inl (kI, 180000, .inl g0)), (q1, .inl (kI, 180000, .inl g1)), (q2, .inl (kI, 180000, .inl g2)), (q3, .inl (kI, 180000, .inl g3)), (q4, .inl (kI, 180000, .inl g4)), (mC, .inl (kB, 140000, .inl f)), (mS, .inl (kI, 4096, .inl sl))] s.heap := hP
  have hl := lv_entry ([.ref m0, .int (nI i), .int (nI ee)]) (n := 9) (Nat.le_of_ble_eq_true rfl)
  rw [lg_entry_eq]
  generalize (lg_sl ([.ref m0, .int (nI i), .int (nI ee)]) ++ List.replicate (9 - (lg_sl ([.ref m0, .int (nI i), .int (nI ee)])).length) Slot.unset).toArray = ls at hl ⊢
  have hl : lv_has ls 9 [(0, .ref m0), (1, .int (nI i)), (2, .int (nI ee))] := hl
  refine zG (fun GG hG1 hG2 => ?_)
  refine lv_iload_n hx hb dX8_find_0 rfl (lv_at hl 1 rfl) ?_
  refine lv_istore_n (lv' := [(3, .int (nI i)), (0, .ref m0), (1, .int (nI i)), (2, .int (nI ee))]) hx hb dX8_find_1 rfl hl (by decide) rfl (fun ls hl => ?_)
  refine lv_iload_n hx hb dX8_find_2 rfl (lv_at hl 2 rfl) ?_
  refine lv_istore (lv' := [(4, .int (nI i)), (3, .int (nI i)), (0, .ref m0), (1, .int (nI i)), (2, .int (nI ee))]) hx hb dX8_find_3 hl (by decide) rfl (fun ls hl => ?_)
  obtain ⟨TT, eTT⟩ : ∃ TT, TT = (findL φ bl hist ee (ee - i + 1) i i tb) := ⟨_, rfl⟩
  have lp : ∀ (kf : Nat) (k : Nat) (p : Nat) (first : Nat) (K : List Sq) (tb1 : Nat → Nat) (w0 : Nat → Int32) (w1 : Nat → Int32) (w2 : Nat → Int32) (w3 : Nat → Int32) (w4 : Nat → Int32) (sl1 : Nat → Int32) (nu1 : Nat) (ma1 : Nat) (hI : fndI φ bl hist ee TT K k p first tb1) (hk : ee + 1 ≤ p + k) (hp : first ≤ p) (hp2 : p ≤ ee) (hp3 : i ≤ first) (hp4 : first < ee) (hs : sqM (LL ++ K) w0 w1 w2 w3 w4) (hn1 : nu1 = (LL ++ K).length) (hn2 : nu1 + (ee - first) ≤ nu + (ee - i)) (hm1 : ma1 = ma + mSum K) (ht1 : tbM tb1 hist sl1 p), ee - p < kf → ∀ (H : Heap) (locs : List Loc), va_P (dC, dI) vwCl [(m0, .inr (8, [.int z0, .ref mC, .int z2, .ref z3, .int z4, .ref z5, .int z6, .ref z7, .long z8, .ref q0, .ref q1, .ref q2, .ref q3, .ref q4, .int (nI nu1), .int (nI bl), .int z16, .int (nI ma1), .ref mS, .ref z19, .ref z20, .int z21, .int z22, .int z23, .int z24, .int z25, .int z26, .int z27, .int z28, .int z29, .int z30, .int z31, .int z32, .int z33, .int z34, .int z35, .long z36, .long z37, .int z38])), (q0, .inl (kI, 180000, .inl w0)), (q1, .inl (kI, 180000, .inl w1)), (q2, .inl (kI, 180000, .inl w2)), (q3, .inl (kI, 180000, .inl w3)), (q4, .inl (kI, 180000, .inl w4)), (mC, .inl (kB, 140000, .inl f)), (mS, .inl (kI, 4096, .inl sl1))] H → va_D A [(m0, .inr (8, [.int z0, .ref mC, .int z2, .ref z3, .int z4, .ref z5, .int z6, .ref z7, .long z8, .ref q0, .ref q1, .ref q2, .ref q3, .ref q4, .int (nI nu1), .int (nI bl), .int z16, .int (nI ma1), .ref mS, .ref z19, .ref z20, .int z21, .int z22, .int z23, .int z24, .int z25, .int z26, .int z27, .int z28, .int z29, .int z30, .int z31, .int z32, .int z33, .int z34, .int z35, .long z36, .long z37, .int z38])), (q0, .inl (kI, 180000, .inl w0)), (q1, .inl (kI, 180000, .inl w1)), (q2, .inl (kI, 180000, .inl w2)), (q3, .inl (kI, 180000, .inl w3)), (q4, .inl (kI, 180000, .inl w4)), (mC, .inl (kB, 140000, .inl f)), (mS, .inl (kI, 4096, .inl sl1))] → va_S A s.heap H locs → ∀ (ls : Array Slot), lv_has ls 9 [(0, .ref m0), (2, .int (nI ee)), (3, .int (nI p)), (4, .int (nI first))] → GG H locs (F0 m 5 ls []) := by
    intro kf
    induction kf with
    | zero => intro k p first K tb1 w0 w1 w2 w3 w4 sl1 nu1 ma1 hI hk hp hp2 hp3 hp4 hs hn1 hn2 hm1 ht1 hm; exact absurd hm (Nat.not_lt_zero _)
    | succ kf ih =>
      intro k p first K tb1 w0 w1 w2 w3 w4 sl1 nu1 ma1 hI hk hp hp2 hp3 hp4 hs hn1 hn2 hm1 ht1 hm H locs hP hD hS ls hl
      apply hG1
      obtain ⟨k, ek⟩ : ∃ k0, k = k0 + 1 := ⟨k - 1, by omega⟩
      subst ek
      refine lv_iload_n hx hb dX8_find_5 rfl (lv_at hl 2 rfl) ?_
      refine lv_iload_n hx hb dX8_find_6 rfl (lv_at hl 1 rfl) ?_
      refine lv_bipush (v := 12) hx hb dX8_find_7 (by decide) ?_
      refine lv_isub hx hb dX8_find_9 ?_
      refine zb_icmp_gt (tgt := 156) (a := ((p : Nat) : Int)) (b := (((ee : Nat) : Int) - 12)) hx hb dX8_find_10 (by decide) (nI_toInt (by omega)) (zi_sub (nI_toInt (by omega)) (by decide) (by omega) (by omega)) (fun c10 => ?_) (fun c10 => ?_)
      · obtain ⟨hT1, hT2⟩ := fnd_end hI (by omega)
        refine lv_aload_n hx hb dX8_find_156 rfl (lv_at hl 0 rfl) ?_
        refine lv_iload hx hb dX8_find_157 (lv_at hl 3 rfl) ?_
        refine lv_iload_n hx hb dX8_find_159 rfl (lv_at hl 1 rfl) ?_
        refine lv_iload hx hb dX8_find_160 (lv_at hl 3 rfl) ?_
        refine lv_isub hx hb dX8_find_162 ?_
        refine lv_is (y := (nI (ee - first))) ((zn_sub rfl rfl (by omega)).trans (congrArg nI (by omega))) ?_
        refine lv_iconst (v := 0) hx hb dX8_find_163 (by decide) ?_
        refine lv_iconst (v := 0) hx hb dX8_find_164 (by decide) ?_
        refine z_callv (wr := [(mC, .inl (kB, 140000, .inl f)), (mS, .inl (kI, 4096, .inl sl1))]) (va_runV (As := [.int (nI first), .int (nI (ee - first)), .int 0, .int 0]) (rest := []) ⟨hx, hb, hml, hown, hts⟩ (c_Mod_addSequence l dC dI kB kI m0 z0 mC z2 z3 z4 z5 z6 z7 z8 z16 mS z19 z20 z21 z22 z23 z24 z25 z26 z27 z28 z29 z30 z31 z32 z33 z34 z35 z36 z37 z38 nu1 bl ma1 q0 q1 q2 q3 q4 w0 w1 w2 w3 w4 first (ee - first) 0 0 (by omega) H.size) (cwV 4 hts gX8_find_X8_addSequence rfl rfl rfl (by decide +kernel) ⟨Nat.le_of_ble_eq_true rfl, Nat.le_of_ble_eq_true rfl⟩) (z_preV hK (hP.sub [0, 1, 2, 3, 4, 5] rfl) (hD.sub [0, 1, 2, 3, 4, 5] (by decide) rfl) (va_recv hK hP (ci := 8) (q0 := 0) rfl rfl)) rfl rfl hl.1 rfl (lv_room (Nat.le_of_ble_eq_true rfl)) dX8_find_165 ⟨Nat.le_of_ble_eq_true rfl, Nat.le_of_ble_eq_true rfl⟩) hK hP hD hS hA [0, 1, 2, 3, 4, 5] [6, 7] rfl rfl (by decide) (by decide) (fun uq2 H locs hw hP hD hS => ?_)
        replace hw : True := hw
        have hP : va_P (dC, dI) vwCl [(mC, .inl (kB, 140000, .inl f)), (mS, .inl (kI, 4096, .inl sl1)), (m0, .inr (8, [.int z0, .ref mC, .int z2, .ref z3, .int z4, .ref z5, .int z6, .ref z7, .long z8, .ref q0, .ref q1, .ref q2, .ref q3, .ref q4, .int (nI (nu1 + 1)), .int (nI bl), .int z16, .int (nI (ma1 + 0)), .ref mS, .ref z19, .ref z20, .int z21, .int z22, .int z23, .int z24, .int z25, .int z26, .int z27, .int z28, .int z29, .int z30, .int z31, .int z32, .int z33, .int z34, .int z35, .long z36, .long z37, .int z38])), (q0, .inl (kI, 180000, .inl (upd w0 nu1 (nI bl)))), (q1, .inl (kI, 180000, .inl (upd w1 nu1 (nI first)))), (q2, .inl (kI, 180000, .inl (upd w2 nu1 (nI (ee - first))))), (q3, .inl (kI, 180000, .inl (upd w3 nu1 (nI 0)))), (q4, .inl (kI, 180000, .inl (upd w4 nu1 (nI 0))))] H := hP
        have hD : va_D A [(mC, .inl (kB, 140000, .inl f)), (mS, .inl (kI, 4096, .inl sl1)), (m0, .inr (8, [.int z0, .ref mC, .int z2, .ref z3, .int z4, .ref z5, .int z6, .ref z7, .long z8, .ref q0, .ref q1, .ref q2, .ref q3, .ref q4, .int (nI (nu1 + 1)), .int (nI bl), .int z16, .int (nI (ma1 + 0)), .ref mS, .ref z19, .ref z20, .int z21, .int z22, .int z23, .int z24, .int z25, .int z26, .int z27, .int z28, .int z29, .int z30, .int z31, .int z32, .int z33, .int z34, .int z35, .long z36, .long z37, .int z38])), (q0, .inl (kI, 180000, .inl (upd w0 nu1 (nI bl)))), (q1, .inl (kI, 180000, .inl (upd w1 nu1 (nI first)))), (q2, .inl (kI, 180000, .inl (upd w2 nu1 (nI (ee - first))))), (q3, .inl (kI, 180000, .inl (upd w3 nu1 (nI 0)))), (q4, .inl (kI, 180000, .inl (upd w4 nu1 (nI 0))))] := hD
        have hs2 := sqM_add hs (bl, first, ee - first, 0, 0)
        rw [← hn1] at hs2
        have eL : LL ++ (findL φ bl hist ee (ee - i + 1) i i tb).1 = (LL ++ K) ++ [(bl, first, ee - first, 0, 0)] := by rw [← eTT, hT1, List.append_assoc]
        have eM : mSum (findL φ bl hist ee (ee - i + 1) i i tb).1 = mSum K := by rw [← eTT, hT1, mSum_add]; rfl
        have eT : (findL φ bl hist ee (ee - i + 1) i i tb).2 = tb1 := by rw [← eTT, hT2]
        have hP9 := hP.sub (ws' := [(m0, .inr (8, [.int z0, .ref mC, .int z2, .ref z3, .int z4, .ref z5, .int z6, .ref z7, .long z8, .ref q0, .ref q1, .ref q2, .ref q3, .ref q4, .int (nI (nu1 + 1)), .int (nI bl), .int z16, .int (nI (ma1 + 0)), .ref mS, .ref z19, .ref z20, .int z21, .int z22, .int z23, .int z24, .int z25, .int z26, .int z27, .int z28, .int z29, .int z30, .int z31, .int z32, .int z33, .int z34, .int z35, .long z36, .long z37, .int z38])), (q0, .inl (kI, 180000, .inl (upd w0 nu1 (nI bl)))), (q1, .inl (kI, 180000, .inl (upd w1 nu1 (nI first)))), (q2, .inl (kI, 180000, .inl (upd w2 nu1 (nI (ee - first))))), (q3, .inl (kI, 180000, .inl (upd w3 nu1 (nI 0)))), (q4, .inl (kI, 180000, .inl (upd w4 nu1 (nI 0)))), (mC, .inl (kB, 140000, .inl f)), (mS, .inl (kI, 4096, .inl sl1))]) [2, 3, 4, 5, 6, 7, 0, 1] rfl
        have hD9 := hD.sub (ws' := [(m0, .inr (8, [.int z0, .ref mC, .int z2, .ref z3, .int z4, .ref z5, .int z6, .ref z7, .long z8, .ref q0, .ref q1, .ref q2, .ref q3, .ref q4, .int (nI (nu1 + 1)), .int (nI bl), .int z16, .int (nI (ma1 + 0)), .ref mS, .ref z19, .ref z20, .int z21, .int z22, .int z23, .int z24, .int z25, .int z26, .int z27, .int z28, .int z29, .int z30, .int z31, .int z32, .int z33, .int z34, .int z35, .long z36, .long z37, .int z38])), (q0, .inl (kI, 180000, .inl (upd w0 nu1 (nI bl)))), (q1, .inl (kI, 180000, .inl (upd w1 nu1 (nI first)))), (q2, .inl (kI, 180000, .inl (upd w2 nu1 (nI (ee - first))))), (q3, .inl (kI, 180000, .inl (upd w3 nu1 (nI 0)))), (q4, .inl (kI, 180000, .inl (upd w4 nu1 (nI 0)))), (mC, .inl (kB, 140000, .inl f)), (mS, .inl (kI, 4096, .inl sl1))]) [2, 3, 4, 5, 6, 7, 0, 1] (by decide) rfl
        exact W.vret hx hb hr (fun t9 ht9 hW9 => ⟨⟨((upd w0 nu1 (nI bl)), (upd w1 nu1 (nI first)), (upd w2 nu1 (nI (ee - first))), (upd w3 nu1 (nI 0)), (upd w4 nu1 (nI 0)), sl1, (nu1 + 1), (ma1 + 0)), rfl, (show sqM (LL ++ (findL φ bl hist ee (ee - i + 1) i i tb).1) (upd w0 nu1 (nI bl)) (upd w1 nu1 (nI first)) (upd w2 nu1 (nI (ee - first))) (upd w3 nu1 (nI 0)) (upd w4 nu1 (nI 0)) ∧ (nu1 + 1) = (LL ++ (findL φ bl hist ee (ee - i + 1) i i tb).1).length ∧ (ma1 + 0) = ma + mSum (findL φ bl hist ee (ee - i + 1) i i tb).1 ∧ tbM (findL φ bl hist ee (ee - i + 1) i i tb).2 hist sl1 ee from (⟨by rw [eL]; exact hs2, by rw [eL, hn1, List.length_append (as := LL ++ K)]; rfl, by rw [eM, hm1]; rfl, by rw [eT]; exact fun z hz => ⟨(ht1 z hz).1, by have := (ht1 z hz).2; omega⟩⟩)), by rw [ht9]; exact hP9, va_K.moved hW9.alike hK, hD9⟩, hS.F ht9⟩) hS.2.2 dX8_find_168
      · refine lv_aload_n hx hb dX8_find_13 rfl (lv_at hl 0 rfl) ?_
        refine va_get (D := (dC, dI)) (ci := 8) (v := .ref mC) (C := RX8) (T := TX8) (N := 39) hx hb hts (by decide +kernel) hown hK hP 0 rfl rfl 1 (by decide) (hts (.fieldLink RX8 10 "SequenceFramesModel" "content" "[B") (by decide +kernel)) (fun _ h9 => h9) rfl dX8_find_14 ?_
        refine lv_iload_n hx hb dX8_find_17 rfl (lv_at hl 2 rfl) ?_
        refine z_calli (wr := [(m0, .inr (8, [.int z0, .ref mC, .int z2, .ref z3, .int z4, .ref z5, .int z6, .ref z7, .long z8, .ref q0, .ref q1, .ref q2, .ref q3, .ref q4, .int (nI nu1), .int (nI bl), .int z16, .int (nI ma1), .ref mS, .ref z19, .ref z20, .int z21, .int z22, .int z23, .int z24, .int z25, .int z26, .int z27, .int z28, .int z29, .int z30, .int z31, .int z32, .int z33, .int z34, .int z35, .long z36, .long z37, .int z38])), (q0, .inl (kI, 180000, .inl w0)), (q1, .inl (kI, 180000, .inl w1)), (q2, .inl (kI, 180000, .inl w2)), (q3, .inl (kI, 180000, .inl w3)), (q4, .inl (kI, 180000, .inl w4)), (mS, .inl (kI, 4096, .inl sl1))]) (va_runS (As := [.ref mC, .int (nI p)]) (rest := []) ⟨hx, hb, hml, hown, hts⟩ (c_Mod_word l dC dI kB kI mC 140000 f p (by omega) (by omega) H.size) (va_cwS 2 hts gX8_find_X8_word rfl rfl rfl (by decide +kernel) ⟨Nat.le_of_ble_eq_true rfl, Nat.le_of_ble_eq_true rfl⟩) (z_preS hK (hP.sub [6] rfl) (hD.sub [6] (by decide) rfl)) rfl rfl hl.1 rfl (lv_room (Nat.le_of_ble_eq_true rfl)) dX8_find_18 ⟨Nat.le_of_ble_eq_true rfl, Nat.le_of_ble_eq_true rfl⟩) hK hP hD hS hA [6] [0, 1, 2, 3, 4, 5, 7] rfl rfl (by decide) (by decide) (fun r3 uq4 H locs hw hP hD hS => ?_)
        replace hw : r3 = wd f p := hw
        have hP : va_P (dC, dI) vwCl [(m0, .inr (8, [.int z0, .ref mC, .int z2, .ref z3, .int z4, .ref z5, .int z6, .ref z7, .long z8, .ref q0, .ref q1, .ref q2, .ref q3, .ref q4, .int (nI nu1), .int (nI bl), .int z16, .int (nI ma1), .ref mS, .ref z19, .ref z20, .int z21, .int z22, .int z23, .int z24, .int z25, .int z26, .int z27, .int z28, .int z29, .int z30, .int z31, .int z32, .int z33, .int z34, .int z35, .long z36, .long z37, .int z38])), (q0, .inl (kI, 180000, .inl w0)), (q1, .inl (kI, 180000, .inl w1)), (q2, .inl (kI, 180000, .inl w2)), (q3, .inl (kI, 180000, .inl w3)), (q4, .inl (kI, 180000, .inl w4)), (mS, .inl (kI, 4096, .inl sl1)), (mC, .inl (kB, 140000, .inl f))] H := hP
        have hD : va_D A [(m0, .inr (8, [.int z0, .ref mC, .int z2, .ref z3, .int z4, .ref z5, .int z6, .ref z7, .long z8, .ref q0, .ref q1, .ref q2, .ref q3, .ref q4, .int (nI nu1), .int (nI bl), .int z16, .int (nI ma1), .ref mS, .ref z19, .ref z20, .int z21, .int z22, .int z23, .int z24, .int z25, .int z26, .int z27, .int z28, .int z29, .int z30, .int z31, .int z32, .int z33, .int z34, .int z35, .long z36, .long z37, .int z38])), (q0, .inl (kI, 180000, .inl w0)), (q1, .inl (kI, 180000, .inl w1)), (q2, .inl (kI, 180000, .inl w2)), (q3, .inl (kI, 180000, .inl w3)), (q4, .inl (kI, 180000, .inl w4)), (mS, .inl (kI, 4096, .inl sl1)), (mC, .inl (kB, 140000, .inl f))] := hD
        rw [wd_congr (f := f) (g := φ) (a := p) (b := p) (fun j hj => hag _ (by omega))] at hw; subst hw
        refine lv_istore (lv' := [(5, .int (wd φ p)), (0, .ref m0), (2, .int (nI ee)), (3, .int (nI p)), (4, .int (nI first))]) hx hb dX8_find_21 hl (by decide) rfl (fun ls hl => ?_)
        refine lv_iload hx hb dX8_find_23 (lv_at hl 0 rfl) ?_
        refine lv_ldc (v := (-1640531535)) hx hb hown (hts (.constant RX8 63 (-1640531535)) (by decide +kernel)) dX8_find_25 ?_
        refine lv_imul hx hb dX8_find_27 ?_
        refine lv_bipush (v := 20) hx hb dX8_find_28 (by decide) ?_
        refine lv_iushr (v := (ushr ((wd φ p) * (-1640531535)) 20)) hx hb dX8_find_30 rfl ?_
        refine lv_is (y := (nI (slN (wd φ p)))) (slN_eq _) ?_
        have hsl := slN_lt (wd φ p)
        obtain ⟨htq, htq2⟩ := ht1 _ hsl
        refine lv_istore (lv' := [(6, .int (nI (slN (wd φ p)))), (5, .int (wd φ p)), (0, .ref m0), (2, .int (nI ee)), (3, .int (nI p)), (4, .int (nI first))]) hx hb dX8_find_31 hl (by decide) rfl (fun ls hl => ?_)
        refine lv_aload_n hx hb dX8_find_33 rfl (lv_at hl 2 rfl) ?_
        refine va_get (D := (dC, dI)) (ci := 8) (v := .ref mS) (C := RX8) (T := TX8) (N := 39) hx hb hts (by decide +kernel) hown hK hP 0 rfl rfl 18 (by decide) (hts (.fieldLink RX8 41 "SequenceFramesModel" "slots" "[I") (by decide +kernel)) (fun _ h9 => h9) rfl dX8_find_34 ?_
        refine lv_iload hx hb dX8_find_37 (lv_at hl 0 rfl) ?_
        refine va_iald hx hb hK hP 6 1 rfl rfl (zin rfl (by omega) (by omega)) dX8_find_39 ?_
        refine lv_is (y := (sl1 (slN (wd φ p)))) (zld sl1 rfl (by omega)) ?_
        generalize hsn : slN (wd φ p) = sn at htq htq2 hsl
        obtain ⟨sv, hsv, hsp, hsz⟩ : ∃ sv : Nat, sl1 sn = nI sv ∧ sv ≤ p ∧ ((sv = 0 ∧ ¬ hist < tb1 sn) ∨ (sv = tb1 sn ∧ hist < tb1 sn)) := by
          by_cases hh : hist < tb1 sn
          · rw [if_pos hh] at htq; exact ⟨_, htq, htq2, Or.inr ⟨rfl, hh⟩⟩
          · rw [if_neg hh] at htq; exact ⟨0, htq, Nat.zero_le _, Or.inl ⟨rfl, hh⟩⟩
        subst hsn
        refine lv_is (y := (nI sv)) (hsv) ?_
        refine lv_iconst (v := 1) hx hb dX8_find_40 (by decide) ?_
        refine lv_isub hx hb dX8_find_41 ?_
        refine lv_istore (lv' := [(7, .int ((nI sv) - 1)), (6, .int (nI (slN (wd φ p)))), (5, .int (wd φ p)), (0, .ref m0), (2, .int (nI ee)), (3, .int (nI p)), (4, .int (nI first))]) hx hb dX8_find_42 hl (by decide) rfl (fun ls hl => ?_)
        refine lv_aload_n hx hb dX8_find_44 rfl (lv_at hl 3 rfl) ?_
        refine va_get (D := (dC, dI)) (ci := 8) (v := .ref mS) (C := RX8) (T := TX8) (N := 39) hx hb hts (by decide +kernel) hown hK hP 0 rfl rfl 18 (by decide) (hts (.fieldLink RX8 41 "SequenceFramesModel" "slots" "[I") (by decide +kernel)) (fun _ h9 => h9) rfl dX8_find_45 ?_
        refine lv_iload hx hb dX8_find_48 (lv_at hl 1 rfl) ?_
        refine lv_iload_n hx hb dX8_find_50 rfl (lv_at hl 5 rfl) ?_
        refine lv_iconst (v := 1) hx hb dX8_find_51 (by decide) ?_
        refine lv_iadd hx hb dX8_find_52 ?_
        refine lv_is (y := (nI (p + 1))) ((zn_add rfl (show (1 : Int32) = nI 1 from rfl))) ?_
        refine va_iast hx hb hK hP hD hS 6 1 rfl rfl (zin rfl (by omega) (by omega)) dX8_find_53 (fun H locs hP hD hS => ?_)
        have ez := zst sl1 (nI (p + 1)) (i := (nI (slN (wd φ p)))) (j := (slN (wd φ p))) rfl (by omega)
        have hP : va_P (dC, dI) vwCl [(m0, .inr (8, [.int z0, .ref mC, .int z2, .ref z3, .int z4, .ref z5, .int z6, .ref z7, .long z8, .ref q0, .ref q1, .ref q2, .ref q3, .ref q4, .int (nI nu1), .int (nI bl), .int z16, .int (nI ma1), .ref mS, .ref z19, .ref z20, .int z21, .int z22, .int z23, .int z24, .int z25, .int z26, .int z27, .int z28, .int z29, .int z30, .int z31, .int z32, .int z33, .int z34, .int z35, .long z36, .long z37, .int z38])), (q0, .inl (kI, 180000, .inl w0)), (q1, .inl (kI, 180000, .inl w1)), (q2, .inl (kI, 180000, .inl w2)), (q3, .inl (kI, 180000, .inl w3)), (q4, .inl (kI, 180000, .inl w4)), (mS, .inl (kI, 4096, .inl (upd sl1 (slN (wd φ p)) (nI (p + 1))))), (mC, .inl (kB, 140000, .inl f))] H := by rw [← ez]; exact hP
        have hD : va_D A [(m0, .inr (8, [.int z0, .ref mC, .int z2, .ref z3, .int z4, .ref z5, .int z6, .ref z7, .long z8, .ref q0, .ref q1, .ref q2, .ref q3, .ref q4, .int (nI nu1), .int (nI bl), .int z16, .int (nI ma1), .ref mS, .ref z19, .ref z20, .int z21, .int z22, .int z23, .int z24, .int z25, .int z26, .int z27, .int z28, .int z29, .int z30, .int z31, .int z32, .int z33, .int z34, .int z35, .long z36, .long z37, .int z38])), (q0, .inl (kI, 180000, .inl w0)), (q1, .inl (kI, 180000, .inl w1)), (q2, .inl (kI, 180000, .inl w2)), (q3, .inl (kI, 180000, .inl w3)), (q4, .inl (kI, 180000, .inl w4)), (mS, .inl (kI, 4096, .inl (upd sl1 (slN (wd φ p)) (nI (p + 1))))), (mC, .inl (kB, 140000, .inl f))] := by rw [← ez]; exact hD
        refine lv_iload hx hb dX8_find_54 (lv_at hl 0 rfl) ?_
        refine zb_if_lt (tgt := 82) (a := (((sv : Nat) : Int) - 1)) hx hb dX8_find_56 (by decide) (zi_sub (nI_toInt (by omega)) (by decide) (by omega) (by omega)) (fun c56 => ?_) (fun c56 => ?_)
        · have hnp : ¬ hist < tb1 (slN (wd φ p)) := fun h => by rcases hsz with ⟨e1, e2⟩ | ⟨e1, e2⟩; exact e2 h; omega
          have hp12 : p + 12 ≤ ee := by omega
          replace hI := fnd_no hI hp12 (fun h => hnp h.1)
          refine lv_iinc (v := (nI (p + 1))) (lv' := [(3, .int (nI (p + 1))), (7, .int ((nI sv) - 1)), (6, .int (nI (slN (wd φ p)))), (5, .int (wd φ p)), (0, .ref m0), (2, .int (nI ee)), (4, .int (nI first))]) hx hb dX8_find_82 hl (k := 5) rfl (zn_inc p 1 (by decide)) (by decide) rfl (fun ls hl => ?_)
          refine lv_goto (tgt := 5) hx hb dX8_find_85 (by decide) ?_
          exact hG2 _ _ _ (ih k (p + 1) first K (upN tb1 (slN (wd φ p)) (p + 1)) w0 w1 w2 w3 w4 (upd sl1 (slN (wd φ p)) (nI (p + 1))) nu1 ma1 hI (by omega) (by omega) (by omega) (by omega) (by omega) hs hn1 (by omega) hm1 (tbM_set ht1 _ (by omega) (by omega)) (by omega) _ _ (hP.sub [0, 1, 2, 3, 4, 5, 7, 6] rfl) (hD.sub [0, 1, 2, 3, 4, 5, 7, 6] (by decide) rfl) hS ls (lv_sub hl [4, 5, 0, 6] rfl))
        · obtain ⟨esv, hyp⟩ : sv = tb1 (slN (wd φ p)) ∧ hist < tb1 (slN (wd φ p)) := by rcases hsz with ⟨e1, e2⟩ | h; omega; exact h
          obtain ⟨q, eq⟩ : ∃ q, tb1 (slN (wd φ p)) = q + 1 := ⟨tb1 (slN (wd φ p)) - 1, by omega⟩
          have eq9 : (((nI sv) - 1) : Int32) = (nI q) := by rw [esv, eq]; exact nI_pred q
          have hl : lv_has ls 9 [(7, .int (nI q)), (6, .int (nI (slN (wd φ p)))), (5, .int (wd φ p)), (0, .ref m0), (2, .int (nI ee)), (3, .int (nI p)), (4, .int (nI first))] := by rw [← eq9]; exact hl
          refine lv_iload_n hx hb dX8_find_59 rfl (lv_at hl 5 rfl) ?_
          refine lv_iload hx hb dX8_find_60 (lv_at hl 0 rfl) ?_
          refine lv_isub hx hb dX8_find_62 ?_
          refine lv_ldc (v := 65535) hx hb hown (hts (.constant RX8 102 65535) (by decide +kernel)) dX8_find_63 ?_
          refine zb_icmp_gt (tgt := 82) (a := (((p : Nat) : Int) - ((q : Nat) : Int))) (b := 65535) hx hb dX8_find_65 (by decide) (zi_sub (nI_toInt (by omega)) (nI_toInt (by omega)) (by omega) (by omega)) (by decide) (fun c65 => ?_) (fun c65 => ?_)
          · have hp12 : p + 12 ≤ ee := by omega
            replace hI := fnd_no hI hp12 (fun h => by rw [eq] at h; omega)
            refine lv_iinc (v := (nI (p + 1))) (lv' := [(3, .int (nI (p + 1))), (7, .int (nI q)), (6, .int (nI (slN (wd φ p)))), (5, .int (wd φ p)), (0, .ref m0), (2, .int (nI ee)), (4, .int (nI first))]) hx hb dX8_find_82 hl (k := 5) rfl (zn_inc p 1 (by decide)) (by decide) rfl (fun ls hl => ?_)
            refine lv_goto (tgt := 5) hx hb dX8_find_85 (by decide) ?_
            exact hG2 _ _ _ (ih k (p + 1) first K (upN tb1 (slN (wd φ p)) (p + 1)) w0 w1 w2 w3 w4 (upd sl1 (slN (wd φ p)) (nI (p + 1))) nu1 ma1 hI (by omega) (by omega) (by omega) (by omega) (by omega) hs hn1 (by omega) hm1 (tbM_set ht1 _ (by omega) (by omega)) (by omega) _ _ (hP.sub [0, 1, 2, 3, 4, 5, 7, 6] rfl) (hD.sub [0, 1, 2, 3, 4, 5, 7, 6] (by decide) rfl) hS ls (lv_sub hl [4, 5, 0, 6] rfl))
          · refine lv_aload_n hx hb dX8_find_68 rfl (lv_at hl 3 rfl) ?_
            refine va_get (D := (dC, dI)) (ci := 8) (v := .ref mC) (C := RX8) (T := TX8) (N := 39) hx hb hts (by decide +kernel) hown hK hP 0 rfl rfl 1 (by decide) (hts (.fieldLink RX8 10 "SequenceFramesModel" "content" "[B") (by decide +kernel)) (fun _ h9 => h9) rfl dX8_find_69 ?_
            refine lv_iload hx hb dX8_find_72 (lv_at hl 0 rfl) ?_
            refine z_calli (wr := [(m0, .inr (8, [.int z0, .ref mC, .int z2, .ref z3, .int z4, .ref z5, .int z6, .ref z7, .long z8, .ref q0, .ref q1, .ref q2, .ref q3, .ref q4, .int (nI nu1), .int (nI bl), .int z16, .int (nI ma1), .ref mS, .ref z19, .ref z20, .int z21, .int z22, .int z23, .int z24, .int z25, .int z26, .int z27, .int z28, .int z29, .int z30, .int z31, .int z32, .int z33, .int z34, .int z35, .long z36, .long z37, .int z38])), (q0, .inl (kI, 180000, .inl w0)), (q1, .inl (kI, 180000, .inl w1)), (q2, .inl (kI, 180000, .inl w2)), (q3, .inl (kI, 180000, .inl w3)), (q4, .inl (kI, 180000, .inl w4)), (mS, .inl (kI, 4096, .inl (upd sl1 (slN (wd φ p)) (nI (p + 1)))))]) (va_runS (As := [.ref mC, .int (nI q)]) (rest := []) ⟨hx, hb, hml, hown, hts⟩ (c_Mod_word l dC dI kB kI mC 140000 f q (by omega) (by omega) H.size) (va_cwS 2 hts gX8_find_X8_word rfl rfl rfl (by decide +kernel) ⟨Nat.le_of_ble_eq_true rfl, Nat.le_of_ble_eq_true rfl⟩) (z_preS hK (hP.sub [7] rfl) (hD.sub [7] (by decide) rfl)) rfl rfl hl.1 rfl (lv_room (Nat.le_of_ble_eq_true rfl)) dX8_find_74 ⟨Nat.le_of_ble_eq_true rfl, Nat.le_of_ble_eq_true rfl⟩) hK hP hD hS hA [7] [0, 1, 2, 3, 4, 5, 6] rfl rfl (by decide) (by decide) (fun r5 uq6 H locs hv hP hD hS => ?_)
            replace hv : r5 = wd f q := hv
            have hP : va_P (dC, dI) vwCl [(m0, .inr (8, [.int z0, .ref mC, .int z2, .ref z3, .int z4, .ref z5, .int z6, .ref z7, .long z8, .ref q0, .ref q1, .ref q2, .ref q3, .ref q4, .int (nI nu1), .int (nI bl), .int z16, .int (nI ma1), .ref mS, .ref z19, .ref z20, .int z21, .int z22, .int z23, .int z24, .int z25, .int z26, .int z27, .int z28, .int z29, .int z30, .int z31, .int z32, .int z33, .int z34, .int z35, .long z36, .long z37, .int z38])), (q0, .inl (kI, 180000, .inl w0)), (q1, .inl (kI, 180000, .inl w1)), (q2, .inl (kI, 180000, .inl w2)), (q3, .inl (kI, 180000, .inl w3)), (q4, .inl (kI, 180000, .inl w4)), (mS, .inl (kI, 4096, .inl (upd sl1 (slN (wd φ p)) (nI (p + 1))))), (mC, .inl (kB, 140000, .inl f))] H := hP
            have hD : va_D A [(m0, .inr (8, [.int z0, .ref mC, .int z2, .ref z3, .int z4, .ref z5, .int z6, .ref z7, .long z8, .ref q0, .ref q1, .ref q2, .ref q3, .ref q4, .int (nI nu1), .int (nI bl), .int z16, .int (nI ma1), .ref mS, .ref z19, .ref z20, .int z21, .int z22, .int z23, .int z24, .int z25, .int z26, .int z27, .int z28, .int z29, .int z30, .int z31, .int z32, .int z33, .int z34, .int z35, .long z36, .long z37, .int z38])), (q0, .inl (kI, 180000, .inl w0)), (q1, .inl (kI, 180000, .inl w1)), (q2, .inl (kI, 180000, .inl w2)), (q3, .inl (kI, 180000, .inl w3)), (q4, .inl (kI, 180000, .inl w4)), (mS, .inl (kI, 4096, .inl (upd sl1 (slN (wd φ p)) (nI (p + 1))))), (mC, .inl (kB, 140000, .inl f))] := hD
            rw [wd_congr (f := f) (g := φ) (a := q) (b := q) (fun j hj => hag _ (by omega))] at hv; subst hv
            refine lv_iload hx hb dX8_find_77 (lv_at hl 2 rfl) ?_
            refine lv_icmp_eq (tgt := 88) hx hb dX8_find_79 (by decide) (fun c79 => ?_) (fun c79 => ?_)
            · have hm4 := mlenC_ge hφ (lim := ee - 5) c79 (by omega)
              have hmle := mlenC_le (φ := φ) (q := q) (p := p) (lim := ee - 5) (by omega)
              have hm4e := mlenC_4 hφ (lim := ee - 5) c79 (by omega)
              replace hI := fnd_yes (q := q) hI (by omega) eq (by omega) (by omega) c79
              generalize hmx : mlenC φ q p (ee - 5) = mx at hm4 hmle hI hm4e
              refine lv_iconst (v := 4) hx hb dX8_find_88 (by decide) ?_
              refine lv_istore (lv' := [(8, .int 4), (7, .int (nI q)), (6, .int (nI (slN (wd φ p)))), (5, .int (wd φ p)), (0, .ref m0), (2, .int (nI ee)), (3, .int (nI p)), (4, .int (nI first))]) hx hb dX8_find_89 hl (by decide) rfl (fun ls hl => ?_)
              have ih0 := ih
              have hm0 := hm
              have lq : ∀ (kf : Nat) (u : Nat) (hu : p + u ≤ ee - 5) (hu3 : 4 ≤ u) (hu2 : mlen φ q p (ee - 5) (ee - 5 - p - u) u = mx), ee - 5 - p - u < kf → ∀ (H : Heap) (locs : List Loc), va_P (dC, dI) vwCl [(m0, .inr (8, [.int z0, .ref mC, .int z2, .ref z3, .int z4, .ref z5, .int z6, .ref z7, .long z8, .ref q0, .ref q1, .ref q2, .ref q3, .ref q4, .int (nI nu1), .int (nI bl), .int z16, .int (nI ma1), .ref mS, .ref z19, .ref z20, .int z21, .int z22, .int z23, .int z24, .int z25, .int z26, .int z27, .int z28, .int z29, .int z30, .int z31, .int z32, .int z33, .int z34, .int z35, .long z36, .long z37, .int z38])), (q0, .inl (kI, 180000, .inl w0)), (q1, .inl (kI, 180000, .inl w1)), (q2, .inl (kI, 180000, .inl w2)), (q3, .inl (kI, 180000, .inl w3)), (q4, .inl (kI, 180000, .inl w4)), (mS, .inl (kI, 4096, .inl (upd sl1 (slN (wd φ p)) (nI (p + 1))))), (mC, .inl (kB, 140000, .inl f))] H → va_D A [(m0, .inr (8, [.int z0, .ref mC, .int z2, .ref z3, .int z4, .ref z5, .int z6, .ref z7, .long z8, .ref q0, .ref q1, .ref q2, .ref q3, .ref q4, .int (nI nu1), .int (nI bl), .int z16, .int (nI ma1), .ref mS, .ref z19, .ref z20, .int z21, .int z22, .int z23, .int z24, .int z25, .int z26, .int z27, .int z28, .int z29, .int z30, .int z31, .int z32, .int z33, .int z34, .int z35, .long z36, .long z37, .int z38])), (q0, .inl (kI, 180000, .inl w0)), (q1, .inl (kI, 180000, .inl w1)), (q2, .inl (kI, 180000, .inl w2)), (q3, .inl (kI, 180000, .inl w3)), (q4, .inl (kI, 180000, .inl w4)), (mS, .inl (kI, 4096, .inl (upd sl1 (slN (wd φ p)) (nI (p + 1))))), (mC, .inl (kB, 140000, .inl f))] → va_S A s.heap H locs → ∀ (ls : Array Slot), lv_has ls 9 [(0, .ref m0), (2, .int (nI ee)), (3, .int (nI p)), (4, .int (nI first)), (7, .int (nI q)), (8, .int (nI u))] → GG H locs (F0 m 91 ls []) := by
                intro kf
                induction kf with
                | zero => intro u hu hu3 hu2 hm; exact absurd hm (Nat.not_lt_zero _)
                | succ kf ih =>
                  intro u hu hu3 hu2 hm H locs hP hD hS ls hl
                  apply hG1
                  refine lv_iload_n hx hb dX8_find_91 rfl (lv_at hl 2 rfl) ?_
                  refine lv_iload hx hb dX8_find_92 (lv_at hl 5 rfl) ?_
                  refine lv_iadd hx hb dX8_find_94 ?_
                  refine lv_is (y := (nI (p + u))) ((zn_add rfl rfl)) ?_
                  refine lv_iload_n hx hb dX8_find_95 rfl (lv_at hl 1 rfl) ?_
                  refine lv_iconst (v := 5) hx hb dX8_find_96 (by decide) ?_
                  refine lv_isub hx hb dX8_find_97 ?_
                  refine zb_icmp_ge (tgt := 129) (a := ((p + u : Nat) : Int)) (b := (((ee : Nat) : Int) - 5)) hx hb dX8_find_98 (by decide) (nI_toInt (by omega)) (zi_sub (nI_toInt (by omega)) (by decide) (by omega) (by omega)) (fun c98 => ?_) (fun c98 => ?_)
                  · have emx : mx = u := by rw [← hu2, show ee - 5 - p - u = 0 by omega]; rfl
                    subst emx
                    refine lv_aload_n hx hb dX8_find_129 rfl (lv_at hl 0 rfl) ?_
                    refine lv_iload hx hb dX8_find_130 (lv_at hl 3 rfl) ?_
                    refine lv_iload_n hx hb dX8_find_132 rfl (lv_at hl 2 rfl) ?_
                    refine lv_iload hx hb dX8_find_133 (lv_at hl 3 rfl) ?_
                    refine lv_isub hx hb dX8_find_135 ?_
                    refine lv_is (y := (nI (p - first))) ((zn_sub rfl rfl (by omega)).trans (congrArg nI (by omega))) ?_
                    refine lv_iload_n hx hb dX8_find_136 rfl (lv_at hl 2 rfl) ?_
                    refine lv_iload hx hb dX8_find_137 (lv_at hl 4 rfl) ?_
                    refine lv_isub hx hb dX8_find_139 ?_
                    refine lv_is (y := (nI (p - q))) ((zn_sub rfl rfl (by omega)).trans (congrArg nI (by omega))) ?_
                    refine lv_iload hx hb dX8_find_140 (lv_at hl 5 rfl) ?_
                    refine z_callv (wr := [(mS, .inl (kI, 4096, .inl (upd sl1 (slN (wd φ p)) (nI (p + 1))))), (mC, .inl (kB, 140000, .inl f))]) (va_runV (As := [.int (nI first), .int (nI (p - first)), .int (nI (p - q)), .int (nI mx)]) (rest := []) ⟨hx, hb, hml, hown, hts⟩ (c_Mod_addSequence l dC dI kB kI m0 z0 mC z2 z3 z4 z5 z6 z7 z8 z16 mS z19 z20 z21 z22 z23 z24 z25 z26 z27 z28 z29 z30 z31 z32 z33 z34 z35 z36 z37 z38 nu1 bl ma1 q0 q1 q2 q3 q4 w0 w1 w2 w3 w4 first (p - first) (p - q) mx (by omega) H.size) (cwV 4 hts gX8_find_X8_addSequence rfl rfl rfl (by decide +kernel) ⟨Nat.le_of_ble_eq_true rfl, Nat.le_of_ble_eq_true rfl⟩) (z_preV hK (hP.sub [0, 1, 2, 3, 4, 5] rfl) (hD.sub [0, 1, 2, 3, 4, 5] (by decide) rfl) (va_recv hK hP (ci := 8) (q0 := 0) rfl rfl)) rfl rfl hl.1 rfl (lv_room (Nat.le_of_ble_eq_true rfl)) dX8_find_142 ⟨Nat.le_of_ble_eq_true rfl, Nat.le_of_ble_eq_true rfl⟩) hK hP hD hS hA [0, 1, 2, 3, 4, 5] [6, 7] rfl rfl (by decide) (by decide) (fun uq8 H locs hz hP hD hS => ?_)
                    replace hz : True := hz
                    have hP : va_P (dC, dI) vwCl [(mS, .inl (kI, 4096, .inl (upd sl1 (slN (wd φ p)) (nI (p + 1))))), (mC, .inl (kB, 140000, .inl f)), (m0, .inr (8, [.int z0, .ref mC, .int z2, .ref z3, .int z4, .ref z5, .int z6, .ref z7, .long z8, .ref q0, .ref q1, .ref q2, .ref q3, .ref q4, .int (nI (nu1 + 1)), .int (nI bl), .int z16, .int (nI (ma1 + mx)), .ref mS, .ref z19, .ref z20, .int z21, .int z22, .int z23, .int z24, .int z25, .int z26, .int z27, .int z28, .int z29, .int z30, .int z31, .int z32, .int z33, .int z34, .int z35, .long z36, .long z37, .int z38])), (q0, .inl (kI, 180000, .inl (upd w0 nu1 (nI bl)))), (q1, .inl (kI, 180000, .inl (upd w1 nu1 (nI first)))), (q2, .inl (kI, 180000, .inl (upd w2 nu1 (nI (p - first))))), (q3, .inl (kI, 180000, .inl (upd w3 nu1 (nI (p - q))))), (q4, .inl (kI, 180000, .inl (upd w4 nu1 (nI mx))))] H := hP
                    have hD : va_D A [(mS, .inl (kI, 4096, .inl (upd sl1 (slN (wd φ p)) (nI (p + 1))))), (mC, .inl (kB, 140000, .inl f)), (m0, .inr (8, [.int z0, .ref mC, .int z2, .ref z3, .int z4, .ref z5, .int z6, .ref z7, .long z8, .ref q0, .ref q1, .ref q2, .ref q3, .ref q4, .int (nI (nu1 + 1)), .int (nI bl), .int z16, .int (nI (ma1 + mx)), .ref mS, .ref z19, .ref z20, .int z21, .int z22, .int z23, .int z24, .int z25, .int z26, .int z27, .int z28, .int z29, .int z30, .int z31, .int z32, .int z33, .int z34, .int z35, .long z36, .long z37, .int z38])), (q0, .inl (kI, 180000, .inl (upd w0 nu1 (nI bl)))), (q1, .inl (kI, 180000, .inl (upd w1 nu1 (nI first)))), (q2, .inl (kI, 180000, .inl (upd w2 nu1 (nI (p - first))))), (q3, .inl (kI, 180000, .inl (upd w3 nu1 (nI (p - q))))), (q4, .inl (kI, 180000, .inl (upd w4 nu1 (nI mx))))] := hD
                    refine lv_iload_n hx hb dX8_find_145 rfl (lv_at hl 2 rfl) ?_
                    refine lv_iload hx hb dX8_find_146 (lv_at hl 5 rfl) ?_
                    refine lv_iadd hx hb dX8_find_148 ?_
                    refine lv_is (y := (nI (p + mx))) ((zn_add rfl rfl)) ?_
                    refine lv_istore_n (lv' := [(3, .int (nI (p + mx))), (0, .ref m0), (2, .int (nI ee)), (4, .int (nI first)), (7, .int (nI q)), (8, .int (nI mx))]) hx hb dX8_find_149 rfl hl (by decide) rfl (fun ls hl => ?_)
                    refine lv_iload_n hx hb dX8_find_150 rfl (lv_at hl 0 rfl) ?_
                    refine lv_istore (lv' := [(4, .int (nI (p + mx))), (3, .int (nI (p + mx))), (0, .ref m0), (2, .int (nI ee)), (7, .int (nI q)), (8, .int (nI mx))]) hx hb dX8_find_151 hl (by decide) rfl (fun ls hl => ?_)
                    refine lv_goto (tgt := 5) hx hb dX8_find_153 (by decide) ?_
                    have hs2 := sqM_add hs (bl, first, p - first, p - q, mx)
                    rw [← hn1] at hs2
                    exact hG2 _ _ _ (ih0 k (p + mx) (p + mx) (K ++ [(bl, first, p - first, p - q, mx)]) (upN tb1 (slN (wd φ p)) (p + 1)) (upd w0 nu1 (nI bl)) (upd w1 nu1 (nI first)) (upd w2 nu1 (nI (p - first))) (upd w3 nu1 (nI (p - q))) (upd w4 nu1 (nI mx)) (upd sl1 (slN (wd φ p)) (nI (p + 1))) (nu1 + 1) (ma1 + mx) hI (by omega) (by omega) (by omega) (by omega) (by omega) (by rw [List.append_assoc] at hs2; exact hs2) (by rw [hn1]; simp; omega) (by omega) (by rw [mSum_add, hm1]; exact Nat.add_assoc _ _ _) (tbM_set ht1 _ (by omega) (by omega)) (by omega) _ _ (hP.sub [2, 3, 4, 5, 6, 7, 1, 0] rfl) (hD.sub [2, 3, 4, 5, 6, 7, 1, 0] (by decide) rfl) hS ls (lv_sub hl [2, 3, 1, 0] rfl))
                  · refine lv_aload_n hx hb dX8_find_101 rfl (lv_at hl 0 rfl) ?_
                    refine va_get (D := (dC, dI)) (ci := 8) (v := .ref mC) (C := RX8) (T := TX8) (N := 39) hx hb hts (by decide +kernel) hown hK hP 0 rfl rfl 1 (by decide) (hts (.fieldLink RX8 10 "SequenceFramesModel" "content" "[B") (by decide +kernel)) (fun _ h9 => h9) rfl dX8_find_102 ?_
                    refine lv_iload_n hx hb dX8_find_105 rfl (lv_at hl 2 rfl) ?_
                    refine lv_iload hx hb dX8_find_106 (lv_at hl 5 rfl) ?_
                    refine lv_iadd hx hb dX8_find_108 ?_
                    refine lv_is (y := (nI (p + u))) ((zn_add rfl rfl)) ?_
                    refine va_bald hx hb hK hP 7 0 rfl rfl (zin rfl (by omega) (by omega)) dX8_find_109 ?_
                    refine lv_is (y := (f (p + u))) (zld f rfl (by omega)) ?_
                    refine lv_aload_n hx hb dX8_find_110 rfl (lv_at hl 0 rfl) ?_
                    refine va_get (D := (dC, dI)) (ci := 8) (v := .ref mC) (C := RX8) (T := TX8) (N := 39) hx hb hts (by decide +kernel) hown hK hP 0 rfl rfl 1 (by decide) (hts (.fieldLink RX8 10 "SequenceFramesModel" "content" "[B") (by decide +kernel)) (fun _ h9 => h9) rfl dX8_find_111 ?_
                    refine lv_iload hx hb dX8_find_114 (lv_at hl 4 rfl) ?_
                    refine lv_iload hx hb dX8_find_116 (lv_at hl 5 rfl) ?_
                    refine lv_iadd hx hb dX8_find_118 ?_
                    refine lv_is (y := (nI (q + u))) ((zn_add rfl rfl)) ?_
                    refine va_bald hx hb hK hP 7 0 rfl rfl (zin rfl (by omega) (by omega)) dX8_find_119 ?_
                    refine lv_is (y := (f (q + u))) (zld f rfl (by omega)) ?_
                    refine lv_icmp_ne (tgt := 129) hx hb dX8_find_120 (by decide) (fun c120 => ?_) (fun c120 => ?_)
                    · have emx : mx = u := by rw [← hu2, show ee - 5 - p - u = (ee - 5 - p - u - 1) + 1 by omega, mlen]; exact if_neg (fun h => c120 (by rw [hag (p + u) (by omega), hag (q + u) (by omega)]; exact h.2))
                      subst emx
                      refine lv_aload_n hx hb dX8_find_129 rfl (lv_at hl 0 rfl) ?_
                      refine lv_iload hx hb dX8_find_130 (lv_at hl 3 rfl) ?_
                      refine lv_iload_n hx hb dX8_find_132 rfl (lv_at hl 2 rfl) ?_
                      refine lv_iload hx hb dX8_find_133 (lv_at hl 3 rfl) ?_
                      refine lv_isub hx hb dX8_find_135 ?_
                      refine lv_is (y := (nI (p - first))) ((zn_sub rfl rfl (by omega)).trans (congrArg nI (by omega))) ?_
                      refine lv_iload_n hx hb dX8_find_136 rfl (lv_at hl 2 rfl) ?_
                      refine lv_iload hx hb dX8_find_137 (lv_at hl 4 rfl) ?_
                      refine lv_isub hx hb dX8_find_139 ?_
                      refine lv_is (y := (nI (p - q))) ((zn_sub rfl rfl (by omega)).trans (congrArg nI (by omega))) ?_
                      refine lv_iload hx hb dX8_find_140 (lv_at hl 5 rfl) ?_
                      refine z_callv (wr := [(mS, .inl (kI, 4096, .inl (upd sl1 (slN (wd φ p)) (nI (p + 1))))), (mC, .inl (kB, 140000, .inl f))]) (va_runV (As := [.int (nI first), .int (nI (p - first)), .int (nI (p - q)), .int (nI mx)]) (rest := []) ⟨hx, hb, hml, hown, hts⟩ (c_Mod_addSequence l dC dI kB kI m0 z0 mC z2 z3 z4 z5 z6 z7 z8 z16 mS z19 z20 z21 z22 z23 z24 z25 z26 z27 z28 z29 z30 z31 z32 z33 z34 z35 z36 z37 z38 nu1 bl ma1 q0 q1 q2 q3 q4 w0 w1 w2 w3 w4 first (p - first) (p - q) mx (by omega) H.size) (cwV 4 hts gX8_find_X8_addSequence rfl rfl rfl (by decide +kernel) ⟨Nat.le_of_ble_eq_true rfl, Nat.le_of_ble_eq_true rfl⟩) (z_preV hK (hP.sub [0, 1, 2, 3, 4, 5] rfl) (hD.sub [0, 1, 2, 3, 4, 5] (by decide) rfl) (va_recv hK hP (ci := 8) (q0 := 0) rfl rfl)) rfl rfl hl.1 rfl (lv_room (Nat.le_of_ble_eq_true rfl)) dX8_find_142 ⟨Nat.le_of_ble_eq_true rfl, Nat.le_of_ble_eq_true rfl⟩) hK hP hD hS hA [0, 1, 2, 3, 4, 5] [6, 7] rfl rfl (by decide) (by decide) (fun uq10 H locs hz hP hD hS => ?_)
                      replace hz : True := hz
                      have hP : va_P (dC, dI) vwCl [(mS, .inl (kI, 4096, .inl (upd sl1 (slN (wd φ p)) (nI (p + 1))))), (mC, .inl (kB, 140000, .inl f)), (m0, .inr (8, [.int z0, .ref mC, .int z2, .ref z3, .int z4, .ref z5, .int z6, .ref z7, .long z8, .ref q0, .ref q1, .ref q2, .ref q3, .ref q4, .int (nI (nu1 + 1)), .int (nI bl), .int z16, .int (nI (ma1 + mx)), .ref mS, .ref z19, .ref z20, .int z21, .int z22, .int z23, .int z24, .int z25, .int z26, .int z27, .int z28, .int z29, .int z30, .int z31, .int z32, .int z33, .int z34, .int z35, .long z36, .long z37, .int z38])), (q0, .inl (kI, 180000, .inl (upd w0 nu1 (nI bl)))), (q1, .inl (kI, 180000, .inl (upd w1 nu1 (nI first)))), (q2, .inl (kI, 180000, .inl (upd w2 nu1 (nI (p - first))))), (q3, .inl (kI, 180000, .inl (upd w3 nu1 (nI (p - q))))), (q4, .inl (kI, 180000, .inl (upd w4 nu1 (nI mx))))] H := hP
                      have hD : va_D A [(mS, .inl (kI, 4096, .inl (upd sl1 (slN (wd φ p)) (nI (p + 1))))), (mC, .inl (kB, 140000, .inl f)), (m0, .inr (8, [.int z0, .ref mC, .int z2, .ref z3, .int z4, .ref z5, .int z6, .ref z7, .long z8, .ref q0, .ref q1, .ref q2, .ref q3, .ref q4, .int (nI (nu1 + 1)), .int (nI bl), .int z16, .int (nI (ma1 + mx)), .ref mS, .ref z19, .ref z20, .int z21, .int z22, .int z23, .int z24, .int z25, .int z26, .int z27, .int z28, .int z29, .int z30, .int z31, .int z32, .int z33, .int z34, .int z35, .long z36, .long z37, .int z38])), (q0, .inl (kI, 180000, .inl (upd w0 nu1 (nI bl)))), (q1, .inl (kI, 180000, .inl (upd w1 nu1 (nI first)))), (q2, .inl (kI, 180000, .inl (upd w2 nu1 (nI (p - first))))), (q3, .inl (kI, 180000, .inl (upd w3 nu1 (nI (p - q))))), (q4, .inl (kI, 180000, .inl (upd w4 nu1 (nI mx))))] := hD
                      refine lv_iload_n hx hb dX8_find_145 rfl (lv_at hl 2 rfl) ?_
                      refine lv_iload hx hb dX8_find_146 (lv_at hl 5 rfl) ?_
                      refine lv_iadd hx hb dX8_find_148 ?_
                      refine lv_is (y := (nI (p + mx))) ((zn_add rfl rfl)) ?_
                      refine lv_istore_n (lv' := [(3, .int (nI (p + mx))), (0, .ref m0), (2, .int (nI ee)), (4, .int (nI first)), (7, .int (nI q)), (8, .int (nI mx))]) hx hb dX8_find_149 rfl hl (by decide) rfl (fun ls hl => ?_)
                      refine lv_iload_n hx hb dX8_find_150 rfl (lv_at hl 0 rfl) ?_
                      refine lv_istore (lv' := [(4, .int (nI (p + mx))), (3, .int (nI (p + mx))), (0, .ref m0), (2, .int (nI ee)), (7, .int (nI q)), (8, .int (nI mx))]) hx hb dX8_find_151 hl (by decide) rfl (fun ls hl => ?_)
                      refine lv_goto (tgt := 5) hx hb dX8_find_153 (by decide) ?_
                      have hs2 := sqM_add hs (bl, first, p - first, p - q, mx)
                      rw [← hn1] at hs2
                      exact hG2 _ _ _ (ih0 k (p + mx) (p + mx) (K ++ [(bl, first, p - first, p - q, mx)]) (upN tb1 (slN (wd φ p)) (p + 1)) (upd w0 nu1 (nI bl)) (upd w1 nu1 (nI first)) (upd w2 nu1 (nI (p - first))) (upd w3 nu1 (nI (p - q))) (upd w4 nu1 (nI mx)) (upd sl1 (slN (wd φ p)) (nI (p + 1))) (nu1 + 1) (ma1 + mx) hI (by omega) (by omega) (by omega) (by omega) (by omega) (by rw [List.append_assoc] at hs2; exact hs2) (by rw [hn1]; simp; omega) (by omega) (by rw [mSum_add, hm1]; exact Nat.add_assoc _ _ _) (tbM_set ht1 _ (by omega) (by omega)) (by omega) _ _ (hP.sub [2, 3, 4, 5, 6, 7, 1, 0] rfl) (hD.sub [2, 3, 4, 5, 6, 7, 1, 0] (by decide) rfl) hS ls (lv_sub hl [2, 3, 1, 0] rfl))
                    · have heq : φ (p + u) = φ (q + u) := by rw [← hag (p + u) (by omega), ← hag (q + u) (by omega)]; exact c120
                      refine lv_iinc (v := (nI (u + 1))) (lv' := [(8, .int (nI (u + 1))), (0, .ref m0), (2, .int (nI ee)), (3, .int (nI p)), (4, .int (nI first)), (7, .int (nI q))]) hx hb dX8_find_123 hl (k := 5) rfl (zn_inc u 1 (by decide)) (by decide) rfl (fun ls hl => ?_)
                      refine lv_goto (tgt := 91) hx hb dX8_find_126 (by decide) ?_
                      exact hG2 _ _ _ (ih (u + 1) (by omega) (by omega) (by rw [← hu2, show ee - 5 - p - u = (ee - 5 - p - (u + 1)) + 1 by omega, mlen]; exact (if_pos ⟨by omega, heq⟩).symm) (by omega) _ _ (hP.sub [0, 1, 2, 3, 4, 5, 6, 7] rfl) (hD.sub [0, 1, 2, 3, 4, 5, 6, 7] (by decide) rfl) hS ls (lv_sub hl [1, 2, 3, 4, 5, 0] rfl))
              exact hG2 _ _ _ (lq (ee - 5 - p - 4 + 1) 4 (by omega) (by omega) hm4e.symm (Nat.lt_succ_self _) _ _ (hP.sub [0, 1, 2, 3, 4, 5, 6, 7] rfl) (hD.sub [0, 1, 2, 3, 4, 5, 6, 7] (by decide) rfl) hS ls (lv_sub hl [4, 5, 6, 7, 1, 0] rfl))
            · have hp12 : p + 12 ≤ ee := by omega
              replace hI := fnd_no hI hp12 (fun h => c79 (by rw [eq] at h; exact h.2.2))
              refine lv_iinc (v := (nI (p + 1))) (lv' := [(3, .int (nI (p + 1))), (7, .int (nI q)), (6, .int (nI (slN (wd φ p)))), (5, .int (wd φ p)), (0, .ref m0), (2, .int (nI ee)), (4, .int (nI first))]) hx hb dX8_find_82 hl (k := 5) rfl (zn_inc p 1 (by decide)) (by decide) rfl (fun ls hl => ?_)
              refine lv_goto (tgt := 5) hx hb dX8_find_85 (by decide) ?_
              exact hG2 _ _ _ (ih k (p + 1) first K (upN tb1 (slN (wd φ p)) (p + 1)) w0 w1 w2 w3 w4 (upd sl1 (slN (wd φ p)) (nI (p + 1))) nu1 ma1 hI (by omega) (by omega) (by omega) (by omega) (by omega) hs hn1 (by omega) hm1 (tbM_set ht1 _ (by omega) (by omega)) (by omega) _ _ (hP.sub [0, 1, 2, 3, 4, 5, 7, 6] rfl) (hD.sub [0, 1, 2, 3, 4, 5, 7, 6] (by decide) rfl) hS ls (lv_sub hl [4, 5, 0, 6] rfl))
  exact hG2 _ _ _ (lp (ee - i + 1) (ee - i + 1) i i ([]) tb g0 g1 g2 g3 g4 sl nu ma eTT (by omega) (by omega) (by omega) (by omega) (by omega) (by rw [List.append_nil]; exact hsq) (by rw [List.append_nil]; exact hnu) (by omega) rfl htb (Nat.lt_succ_self _) _ _ (hP.sub [0, 1, 2, 3, 4, 5, 6, 7] rfl) (hD.sub [0, 1, 2, 3, 4, 5, 6, 7] (by decide) rfl) hS ls (lv_sub hl [2, 4, 1, 0] rfl))
