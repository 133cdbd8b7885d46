set_option maxHeartbeats 4000000 in
set_option maxRecDepth 100000 in
theorem c_Mod_forgetPlaces (l : Launch) (dC : Nat → ClassId) (dI : Nat → Nat → Nat) (kB kI : ClassId) (m0 : Nat) (z0 : Int32) (z1 : Nat) (z2 : Int32) (z3 : Nat) (z4 : Int32) (z5 : Nat) (z6 : Int32) (z7 : Nat) (z8 : Int64) (z9 : Nat) (z10 : Nat) (z11 : Nat) (z12 : Nat) (z13 : Nat) (z14 : Int32) (z15 : Int32) (z16 : Int32) (z17 : Int32) (z19 : Nat) (z20 : Nat) (z21 : Int32) (z22 : Int32) (z23 : Int32) (z24 : Int32) (z25 : Int32) (z26 : Int32) (z27 : Int32) (z28 : Int32) (z29 : Int32) (z30 : Int32) (z31 : Int32) (z32 : Int32) (z33 : Int32) (z34 : Int32) (z35 : Int32) (z36 : Int64) (z37 : Int64) (z38 : Int32) (mS : Nat) (sl : Nat → Int32)  : zMv l yX8_forgetPlaces wsX8_forgetPlaces ({ frames := 0, cells := 0, slots := 0, locals := 0 }) (dC, dI) kB kI [.ref m0] [(m0, .inr (8, [.int z0, .ref z1, .int z2, .ref z3, .int z4, .ref z5, .int z6, .ref z7, .long z8, .ref z9, .ref z10, .ref z11, .ref z12, .ref z13, .int z14, .int z15, .int z16, .int z17, .ref mS, .ref z19, .ref z20, .int z21, .int z22, .int z23, .int z24, .int z25, .int z26, .int z27, .int z28, .int z29, .int z30, .int z31, .int z32, .int z33, .int z34, .int z35, .long z36, .long z37, .int z38])), (mS, .inl (kI, 4096, .inl sl))] 0 0 (fun _ : Unit => True) (fun _ : Unit => [(m0, .inr (8, [.int z0, .ref z1, .int z2, .ref z3, .int z4, .ref z5, .int z6, .ref z7, .long z8, .ref z9, .ref z10, .ref z11, .ref z12, .ref z13, .int z14, .int z15, .int z16, .int z17, .ref mS, .ref z19, .ref z20, .int z21, .int z22, .int z23, .int z24, .int z25, .int z26, .int z27, .int z28, .int z29, .int z30, .int z31, .int z32, .int z33, .int z34, .int z35, .long z36, .long z37, .int z38])), (mS, .inl (kI, 4096, .inl (fun _ => 0)))]) := by
  intro sz
  refine Met.ofW (cc := cX8_forgetPlaces) (maxL := 2) (ret := none) (by decide) rfl ?_
  intro p e s m args below meth c s₁ B hml hv
  obtain ⟨rfl, hsz, hP, hK, hD0⟩ := hv
  have hx := B.exec
  have hb := B.bytes
  have hr := B.returns
  have hts := atoms_spec (ws := wsX8_forgetPlaces) B.pre
  have hown : s.vm.findClass RX8 = some m.cls := findClass_of_methodNamed B.named
  have hlocks := B.notSynchronized
  subst hsz
  have hD := hD0.self (sz := s.heap.size)
  generalize hAe : va_A [(m0, .inr (8, [.int z0, .ref z1, .int z2, .ref z3, .int z4, .ref z5, .int z6, .ref z7, .long z8, .ref z9, .ref z10, .ref z11, .ref z12, .ref z13, .int z14, .int z15, .int z16, .int z17, .ref mS, .ref z19, .ref z20, .int z21, .int z22, .int z23, .int z24, .int z25, .int z26, .int z27, .int z28, .int z29, .int z30, .int z31, .int z32, .int z33, .int z34, .int z35, .long z36, .long z37, .int z38])), (mS, .inl (kI, 4096, .inl sl))] s.heap.size = A at hD ⊢
  have hA : ∀ q : Nat, s.heap.size ≤ q → A q := fun q h => by rw [← hAe]; exact Or.inr h
  have hS : va_S A s.heap s.heap [] := va_S.rf
  have hP : va_P (dC, dI) vwCl [(m0, .inr (8, [.int z0, .ref z1, .int z2, .ref z3, .int z4, .ref z5, .int z6, .ref z7, .long z8, .ref z9, .ref z10, .ref z11, .ref z12, .ref z13, .int z14, .int z15, .int z16, .int z17, .ref mS, .ref z19, .ref z20, .int z21, .int z22, .int z23, .int z24, .int z25, .int z26, .int z27, .int z28, .int z29, .int z30, .int z31, .int z32, .int z33, .int z34, .int z35, .long z36, .long z37, .int z38])), (mS, .inl (kI, 4096, .inl sl))] s.heap := hP
  have hl := lv_entry ([.ref m0]) (n := 2) (Nat.le_of_ble_eq_true rfl)
  rw [lg_entry_eq]
  generalize (lg_sl ([.ref m0]) ++ List.replicate (2 - (lg_sl ([.ref m0])).length) Slot.unset).toArray = ls at hl ⊢
  have hl : lv_has ls 2 [(0, .ref m0)] := hl
  refine zG (fun GG hG1 hG2 => ?_)
  refine lv_iconst (v := 0) hx hb dX8_forgetPlaces_0 (by decide) ?_
  refine lv_istore_n (lv' := [(1, .int 0), (0, .ref m0)]) hx hb dX8_forgetPlaces_1 rfl hl (by decide) rfl (fun ls hl => ?_)
  have lp : ∀ (kf : Nat) (u : Nat) (s9 : Nat → Int32) (hu : u ≤ 4096) (hz : ∀ j, j < u → s9 j = 0), 4096 - u < kf → ∀ (H : Heap) (locs : List Loc), va_P (dC, dI) vwCl [(m0, .inr (8, [.int z0, .ref z1, .int z2, .ref z3, .int z4, .ref z5, .int z6, .ref z7, .long z8, .ref z9, .ref z10, .ref z11, .ref z12, .ref z13, .int z14, .int z15, .int z16, .int z17, .ref mS, .ref z19, .ref z20, .int z21, .int z22, .int z23, .int z24, .int z25, .int z26, .int z27, .int z28, .int z29, .int z30, .int z31, .int z32, .int z33, .int z34, .int z35, .long z36, .long z37, .int z38])), (mS, .inl (kI, 4096, .inl s9))] H → va_D A [(m0, .inr (8, [.int z0, .ref z1, .int z2, .ref z3, .int z4, .ref z5, .int z6, .ref z7, .long z8, .ref z9, .ref z10, .ref z11, .ref z12, .ref z13, .int z14, .int z15, .int z16, .int z17, .ref mS, .ref z19, .ref z20, .int z21, .int z22, .int z23, .int z24, .int z25, .int z26, .int z27, .int z28, .int z29, .int z30, .int z31, .int z32, .int z33, .int z34, .int z35, .long z36, .long z37, .int z38])), (mS, .inl (kI, 4096, .inl s9))] → va_S A s.heap H locs → ∀ (ls : Array Slot), lv_has ls 2 [(0, .ref m0), (1, .int (nI u))] → GG H locs (F0 m 2 ls []) := by
    intro kf
    induction kf with
    | zero => intro u s9 hu hz hm; exact absurd hm (Nat.not_lt_zero _)
    | succ kf ih =>
      intro u s9 hu hz hm H locs hP hD hS ls hl
      apply hG1
      refine lv_iload_n hx hb dX8_forgetPlaces_2 rfl (lv_at hl 1 rfl) ?_
      refine lv_sipush (v := 4096) hx hb dX8_forgetPlaces_3 (by decide) ?_
      refine zb_icmp_ge (tgt := 22) (a := ((u : Nat) : Int)) (b := 4096) hx hb dX8_forgetPlaces_6 (by decide) (nI_toInt (by omega)) (by decide) (fun c6 => ?_) (fun c6 => ?_)
      · obtain ⟨hP, hD⟩ := za_congr (g := (fun _ => 0)) hP hD 1 rfl (fun j hj => hz j (by omega))
        have hP : va_P (dC, dI) vwCl [(m0, .inr (8, [.int z0, .ref z1, .int z2, .ref z3, .int z4, .ref z5, .int z6, .ref z7, .long z8, .ref z9, .ref z10, .ref z11, .ref z12, .ref z13, .int z14, .int z15, .int z16, .int z17, .ref mS, .ref z19, .ref z20, .int z21, .int z22, .int z23, .int z24, .int z25, .int z26, .int z27, .int z28, .int z29, .int z30, .int z31, .int z32, .int z33, .int z34, .int z35, .long z36, .long z37, .int z38])), (mS, .inl (kI, 4096, .inl (fun _ => 0)))] H := hP
        have hD : va_D A [(m0, .inr (8, [.int z0, .ref z1, .int z2, .ref z3, .int z4, .ref z5, .int z6, .ref z7, .long z8, .ref z9, .ref z10, .ref z11, .ref z12, .ref z13, .int z14, .int z15, .int z16, .int z17, .ref mS, .ref z19, .ref z20, .int z21, .int z22, .int z23, .int z24, .int z25, .int z26, .int z27, .int z28, .int z29, .int z30, .int z31, .int z32, .int z33, .int z34, .int z35, .long z36, .long z37, .int z38])), (mS, .inl (kI, 4096, .inl (fun _ => 0)))] := hD
        have hP9 := hP.sub (ws' := [(m0, .inr (8, [.int z0, .ref z1, .int z2, .ref z3, .int z4, .ref z5, .int z6, .ref z7, .long z8, .ref z9, .ref z10, .ref z11, .ref z12, .ref z13, .int z14, .int z15, .int z16, .int z17, .ref mS, .ref z19, .ref z20, .int z21, .int z22, .int z23, .int z24, .int z25, .int z26, .int z27, .int z28, .int z29, .int z30, .int z31, .int z32, .int z33, .int z34, .int z35, .long z36, .long z37, .int z38])), (mS, .inl (kI, 4096, .inl (fun _ => 0)))]) [0, 1] rfl
        have hD9 := hD.sub (ws' := [(m0, .inr (8, [.int z0, .ref z1, .int z2, .ref z3, .int z4, .ref z5, .int z6, .ref z7, .long z8, .ref z9, .ref z10, .ref z11, .ref z12, .ref z13, .int z14, .int z15, .int z16, .int z17, .ref mS, .ref z19, .ref z20, .int z21, .int z22, .int z23, .int z24, .int z25, .int z26, .int z27, .int z28, .int z29, .int z30, .int z31, .int z32, .int z33, .int z34, .int z35, .long z36, .long z37, .int z38])), (mS, .inl (kI, 4096, .inl (fun _ => 0)))]) [0, 1] (by decide) rfl
        exact W.vret hx hb hr (fun t9 ht9 hW9 => ⟨⟨(), rfl, trivial, by rw [ht9]; exact hP9, va_K.moved hW9.alike hK, hD9⟩, hS.F ht9⟩) hS.2.2 dX8_forgetPlaces_22
      · refine lv_aload_n hx hb dX8_forgetPlaces_9 rfl (lv_at hl 0 rfl) ?_
        refine va_get (D := (dC, dI)) (ci := 8) (v := .ref mS) (C := RX8) (T := TX8) (N := 39) hx hb hts (by decide +kernel) hown hK hP 0 rfl rfl 18 (by decide) (hts (.fieldLink RX8 41 "SequenceFramesModel" "slots" "[I") (by decide +kernel)) (fun _ h9 => h9) rfl dX8_forgetPlaces_10 ?_
        refine lv_iload_n hx hb dX8_forgetPlaces_13 rfl (lv_at hl 1 rfl) ?_
        refine lv_iconst (v := 0) hx hb dX8_forgetPlaces_14 (by decide) ?_
        refine va_iast hx hb hK hP hD hS 1 1 rfl rfl (zin rfl (by omega) (by omega)) dX8_forgetPlaces_15 (fun H locs hP hD hS => ?_)
        have ez := zst s9 0 (i := (nI u)) (j := u) rfl (by omega)
        have hP : va_P (dC, dI) vwCl [(m0, .inr (8, [.int z0, .ref z1, .int z2, .ref z3, .int z4, .ref z5, .int z6, .ref z7, .long z8, .ref z9, .ref z10, .ref z11, .ref z12, .ref z13, .int z14, .int z15, .int z16, .int z17, .ref mS, .ref z19, .ref z20, .int z21, .int z22, .int z23, .int z24, .int z25, .int z26, .int z27, .int z28, .int z29, .int z30, .int z31, .int z32, .int z33, .int z34, .int z35, .long z36, .long z37, .int z38])), (mS, .inl (kI, 4096, .inl (upd s9 u 0)))] H := by rw [← ez]; exact hP
        have hD : va_D A [(m0, .inr (8, [.int z0, .ref z1, .int z2, .ref z3, .int z4, .ref z5, .int z6, .ref z7, .long z8, .ref z9, .ref z10, .ref z11, .ref z12, .ref z13, .int z14, .int z15, .int z16, .int z17, .ref mS, .ref z19, .ref z20, .int z21, .int z22, .int z23, .int z24, .int z25, .int z26, .int z27, .int z28, .int z29, .int z30, .int z31, .int z32, .int z33, .int z34, .int z35, .long z36, .long z37, .int z38])), (mS, .inl (kI, 4096, .inl (upd s9 u 0)))] := by rw [← ez]; exact hD
        refine lv_iinc (v := (nI (u + 1))) (lv' := [(1, .int (nI (u + 1))), (0, .ref m0)]) hx hb dX8_forgetPlaces_16 hl (k := 1) rfl (zn_inc u 1 (by decide)) (by decide) rfl (fun ls hl => ?_)
        refine lv_goto (tgt := 2) hx hb dX8_forgetPlaces_19 (by decide) ?_
        exact hG2 _ _ _ (ih (u + 1) (upd s9 u 0) (by omega) (fun j hj => (by by_cases h : j = u; (rw [h]; exact pk_us); exact (pk_un h).trans (hz j (by omega)))) (by omega) _ _ (hP.sub [0, 1] rfl) (hD.sub [0, 1] (by decide) rfl) hS ls (lv_sub hl [1, 0] rfl))
  exact hG2 _ _ _ (lp (4096 - 0 + 1) 0 sl (by omega) (fun j hj => absurd hj (Nat.not_lt_zero j)) (Nat.lt_succ_self _) _ _ (hP.sub [0, 1] rfl) (hD.sub [0, 1] (by decide) rfl) hS ls (lv_sub hl [1, 0] rfl))
