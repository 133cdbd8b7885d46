set_option maxHeartbeats 4000000 in
set_option maxRecDepth 100000 in
theorem c_Mod_number (l : Launch) (dC : Nat → ClassId) (dI : Nat → Nat → Nat) (kB kI : ClassId) (m0 : Nat) (z0 : Int32) (z1 : Nat) (z2 : Int32) (z4 : Int32) (z5 : Nat) (z6 : Int32) (z7 : Nat) (z8 : Int64) (z9 : Nat) (z10 : Nat) (z11 : Nat) (z12 : Nat) (z13 : Nat) (z14 : Int32) (z15 : Int32) (z16 : Int32) (z17 : Int32) (z18 : Nat) (z19 : Nat) (z20 : Nat) (z21 : Int32) (z22 : Int32) (z23 : Int32) (z24 : Int32) (z25 : Int32) (z26 : Int32) (z27 : Int32) (z28 : Int32) (z29 : Int32) (z30 : Int32) (z31 : Int32) (z32 : Int32) (z33 : Int32) (z34 : Int32) (z35 : Int32) (z36 : Int64) (z37 : Int64) (z38 : Int32) (mF : Nat) (f : Nat → Int32) (i : Nat) (k : Nat) (hi : i + k ≤ 150000) (hk : k ≤ 8) : zMl l yX8_number wsX8_number ({ frames := 0, cells := 0, slots := 0, locals := 0 }) (dC, dI) kB kI [.ref m0, .int (nI i), .int (nI k)] [(m0, .inr (8, [.int z0, .ref z1, .int z2, .ref mF, .int z4, .ref z5, .int z6, .ref z7, .long z8, .ref z9, .ref z10, .ref z11, .ref z12, .ref z13, .int z14, .int z15, .int z16, .int z17, .ref z18, .ref z19, .ref z20, .int z21, .int z22, .int z23, .int z24, .int z25, .int z26, .int z27, .int z28, .int z29, .int z30, .int z31, .int z32, .int z33, .int z34, .int z35, .long z36, .long z37, .int z38])), (mF, .inl (kB, 150000, .inl f))] 0 0 (fun (r : Int64) => fun _ : Unit => r = lN (numN f i k)) (fun _ : Unit => [(m0, .inr (8, [.int z0, .ref z1, .int z2, .ref mF, .int z4, .ref z5, .int z6, .ref z7, .long z8, .ref z9, .ref z10, .ref z11, .ref z12, .ref z13, .int z14, .int z15, .int z16, .int z17, .ref z18, .ref z19, .ref z20, .int z21, .int z22, .int z23, .int z24, .int z25, .int z26, .int z27, .int z28, .int z29, .int z30, .int z31, .int z32, .int z33, .int z34, .int z35, .long z36, .long z37, .int z38])), (mF, .inl (kB, 150000, .inl f))]) := by
  intro sz
  refine Met.ofW (cc := cX8_number) (maxL := 6) (ret := (some .long)) (by decide) rfl ?_
  intro p e s m args below meth c s₁ B hml hv
  obtain ⟨rfl, hsz, hP, hK, hD0⟩ := hv
  have hx := B.exec
  have hb := B.bytes
  have hr := B.returns
  have hts := atoms_spec (ws := wsX8_number) B.pre
  have hown : s.vm.findClass RX8 = some m.cls := findClass_of_methodNamed B.named
  have hlocks := B.notSynchronized
  subst hsz
  have hD := hD0.self (sz := s.heap.size)
  generalize hAe : va_A [(m0, .inr (8, [.int z0, .ref z1, .int z2, .ref mF, .int z4, .ref z5, .int z6, .ref z7, .long z8, .ref z9, .ref z10, .ref z11, .ref z12, .ref z13, .int z14, .int z15, .int z16, .int z17, .ref z18, .ref z19, .ref z20, .int z21, .int z22, .int z23, .int z24, .int z25, .int z26, .int z27, .int z28, .int z29, .int z30, .int z31, .int z32, .int z33, .int z34, .int z35, .long z36, .long z37, .int z38])), (mF, .inl (kB, 150000, .inl f))] s.heap.size = A at hD ⊢
  have hA : ∀ q : Nat, s.heap.size ≤ q → A q := fun q h => by rw [← hAe]; exact Or.inr h
  have hS : va_S A s.heap s.heap [] := va_S.rf
  have hP : va_P (dC, dI) vwCl [(m0, .inr (8, [.int z0, .ref z1, .int z2, .ref mF, .int z4, .ref z5, .int z6, .ref z7, .long z8, .ref z9, .ref z10, .ref z11, .ref z12, .ref z13, .int z14, .int z15, .int z16, .int z17, .ref z18, .ref z19, .ref z20, .int z21, .int z22, .int z23, .int z24, .int z25, .int z26, .int z27, .int z28, .int z29, .int z30, .int z31, .int z32, .int z33, .int z34, .int z35, .long z36, .long z37, .int z38])), (mF, .inl (kB, 150000, .inl f))] s.heap := hP
  have hl := lv_entry ([.ref m0, .int (nI i), .int (nI k)]) (n := 6) (Nat.le_of_ble_eq_true rfl)
  rw [lg_entry_eq]
  generalize (lg_sl ([.ref m0, .int (nI i), .int (nI k)]) ++ List.replicate (6 - (lg_sl ([.ref m0, .int (nI i), .int (nI k)])).length) Slot.unset).toArray = ls at hl ⊢
  have hl : lv_has ls 6 [(0, .ref m0), (1, .int (nI i)), (2, .int (nI k))] := hl
  refine zG (fun GG hG1 hG2 => ?_)
  refine lv_lconst (v := 0) hx hb dX8_number_0 (by decide) ?_
  refine lv_lstore_n (lv' := [(3, .long 0), (0, .ref m0), (1, .int (nI i)), (2, .int (nI k))]) hx hb dX8_number_1 rfl hl (by decide) rfl (fun ls hl => ?_)
  refine lv_iload_n hx hb dX8_number_2 rfl (lv_at hl 3 rfl) ?_
  refine lv_iconst (v := 1) hx hb dX8_number_3 (by decide) ?_
  refine lv_isub hx hb dX8_number_4 ?_
  refine lv_istore (lv' := [(5, .int ((nI k) - 1)), (3, .long 0), (0, .ref m0), (1, .int (nI i)), (2, .int (nI k))]) hx hb dX8_number_5 hl (by decide) rfl (fun ls hl => ?_)
  have e00 : numN f (i + k) (k - k) = 0 := by rw [Nat.sub_self]; rfl
  have eq9 : (0 : Int64) = (lN (numN f (i + k) (k - k))) := by rw [e00]; rfl
  have hl : lv_has ls 6 [(5, .int ((nI k) - 1)), (3, .long (lN (numN f (i + k) (k - k)))), (0, .ref m0), (1, .int (nI i)), (2, .int (nI k))] := by rw [← eq9]; exact hl
  have lp : ∀ (kf : Nat) (u : Nat) (hu : u ≤ k), u < kf → ∀ (H : Heap) (locs : List Loc), va_P (dC, dI) vwCl [(m0, .inr (8, [.int z0, .ref z1, .int z2, .ref mF, .int z4, .ref z5, .int z6, .ref z7, .long z8, .ref z9, .ref z10, .ref z11, .ref z12, .ref z13, .int z14, .int z15, .int z16, .int z17, .ref z18, .ref z19, .ref z20, .int z21, .int z22, .int z23, .int z24, .int z25, .int z26, .int z27, .int z28, .int z29, .int z30, .int z31, .int z32, .int z33, .int z34, .int z35, .long z36, .long z37, .int z38])), (mF, .inl (kB, 150000, .inl f))] H → va_D A [(m0, .inr (8, [.int z0, .ref z1, .int z2, .ref mF, .int z4, .ref z5, .int z6, .ref z7, .long z8, .ref z9, .ref z10, .ref z11, .ref z12, .ref z13, .int z14, .int z15, .int z16, .int z17, .ref z18, .ref z19, .ref z20, .int z21, .int z22, .int z23, .int z24, .int z25, .int z26, .int z27, .int z28, .int z29, .int z30, .int z31, .int z32, .int z33, .int z34, .int z35, .long z36, .long z37, .int z38])), (mF, .inl (kB, 150000, .inl f))] → va_S A s.heap H locs → ∀ (ls : Array Slot), lv_has ls 6 [(0, .ref m0), (1, .int (nI i)), (3, .long (lN (numN f (i + u) (k - u)))), (5, .int ((nI u) - 1))] → GG H locs (F0 m 7 ls []) := by
    intro kf
    induction kf with
    | zero => intro u hu hm; exact absurd hm (Nat.not_lt_zero _)
    | succ kf ih =>
      intro u hu hm H locs hP hD hS ls hl
      apply hG1
      refine lv_iload hx hb dX8_number_7 (lv_at hl 3 rfl) ?_
      refine zb_if_lt (tgt := 38) (a := (((u : Nat) : Int) - 1)) hx hb dX8_number_9 (by decide) (zi_sub (nI_toInt (by omega)) (by decide) (by omega) (by omega)) (fun c9 => ?_) (fun c9 => ?_)
      · have eu : u = 0 := by omega
        refine lv_lload_n hx hb dX8_number_38 rfl (lv_at hl 2 rfl) ?_
        refine lv_isl (y := (lN (numN f i k))) (by rw [eu]; rfl) ?_
        have hP9 := hP.sub (ws' := [(m0, .inr (8, [.int z0, .ref z1, .int z2, .ref mF, .int z4, .ref z5, .int z6, .ref z7, .long z8, .ref z9, .ref z10, .ref z11, .ref z12, .ref z13, .int z14, .int z15, .int z16, .int z17, .ref z18, .ref z19, .ref z20, .int z21, .int z22, .int z23, .int z24, .int z25, .int z26, .int z27, .int z28, .int z29, .int z30, .int z31, .int z32, .int z33, .int z34, .int z35, .long z36, .long z37, .int z38])), (mF, .inl (kB, 150000, .inl f))]) [0, 1] rfl
        have hD9 := hD.sub (ws' := [(m0, .inr (8, [.int z0, .ref z1, .int z2, .ref mF, .int z4, .ref z5, .int z6, .ref z7, .long z8, .ref z9, .ref z10, .ref z11, .ref z12, .ref z13, .int z14, .int z15, .int z16, .int z17, .ref z18, .ref z19, .ref z20, .int z21, .int z22, .int z23, .int z24, .int z25, .int z26, .int z27, .int z28, .int z29, .int z30, .int z31, .int z32, .int z33, .int z34, .int z35, .long z36, .long z37, .int z38])), (mF, .inl (kB, 150000, .inl f))]) [0, 1] (by decide) rfl
        exact W.lret (v := (lN (numN f i k))) hx hb hr (fun t9 ht9 hW9 => ⟨⟨(lN (numN f i k)), (), rfl, rfl, by rw [ht9]; exact hP9, va_K.moved hW9.alike hK, hD9⟩, hS.F ht9⟩) hS.2.2 dX8_number_39
      · obtain ⟨z, ez⟩ : ∃ z, u = z + 1 := ⟨u - 1, by omega⟩
        subst ez
        have eq9 : (((nI (z + 1)) - 1) : Int32) = (nI z) := nI_pred z
        have hl : lv_has ls 6 [(0, .ref m0), (1, .int (nI i)), (3, .long (lN (numN f (i + (z + 1)) (k - (z + 1))))), (5, .int (nI z))] := by rw [← eq9]; exact hl
        have hb := hb
        have hlt9 := numN_lt f (i + (z + 1)) (k - (z + 1))
        have hpw : 2 ^ (8 * (k - (z + 1))) ≤ 2 ^ 56 := Nat.pow_le_pow_right (by decide) (by omega)
        refine lv_lload_n hx hb dX8_number_12 rfl (lv_at hl 2 rfl) ?_
        refine lv_bipush (v := 8) hx hb dX8_number_13 (by decide) ?_
        refine lv_lshl (v := (lshl (lN (numN f (i + (z + 1)) (k - (z + 1)))) 8)) hx hb dX8_number_15 rfl ?_
        refine lv_aload_n hx hb dX8_number_16 rfl (lv_at hl 0 rfl) ?_
        refine va_get (D := (dC, dI)) (ci := 8) (v := .ref mF) (C := RX8) (T := TX8) (N := 39) hx hb hts (by decide +kernel) hown hK hP 0 rfl rfl 3 (by decide) (hts (.fieldLink RX8 15 "SequenceFramesModel" "frames" "[B") (by decide +kernel)) (fun _ h9 => h9) rfl dX8_number_17 ?_
        refine lv_iload_n hx hb dX8_number_20 rfl (lv_at hl 1 rfl) ?_
        refine lv_iload hx hb dX8_number_21 (lv_at hl 3 rfl) ?_
        refine lv_iadd hx hb dX8_number_23 ?_
        refine lv_is (y := (nI (i + z))) ((zn_add rfl rfl)) ?_
        refine va_bald hx hb hK hP 1 0 rfl rfl (zin rfl (by omega) (by omega)) dX8_number_24 ?_
        refine lv_is (y := (f (i + z))) (zld f rfl (by omega)) ?_
        refine lv_i2l (v := ((f (i + z)).toInt64)) hx hb dX8_number_25 rfl ?_
        refine lv_ldc2 (v := 255) hx hb hown (hts (.constantLong RX8 162 255) (by decide +kernel)) dX8_number_26 ?_
        refine lv_land hx hb dX8_number_29 ?_
        refine lv_lor hx hb dX8_number_30 ?_
        refine lv_isl (y := (lN (numN f (i + z) (k - z)))) (by rw [num_step (Nat.lt_of_lt_of_le hlt9 hpw), show k - z = (k - (z + 1)) + 1 by omega, numN_front, show i + (z + 1) = i + z + 1 by omega]) ?_
        refine lv_lstore_n (lv' := [(3, .long (lN (numN f (i + z) (k - z)))), (0, .ref m0), (1, .int (nI i)), (5, .int (nI z))]) hx hb dX8_number_31 rfl hl (by decide) rfl (fun ls hl => ?_)
        refine lv_iinc (v := ((nI z) - 1)) (lv' := [(5, .int ((nI z) - 1)), (3, .long (lN (numN f (i + z) (k - z)))), (0, .ref m0), (1, .int (nI i))]) hx hb dX8_number_32 hl (k := 3) rfl (zn_dec _) (by decide) rfl (fun ls hl => ?_)
        refine lv_goto (tgt := 7) hx hb dX8_number_35 (by decide) ?_
        exact hG2 _ _ _ (ih z (by omega) (by omega) _ _ (hP.sub [0, 1] rfl) (hD.sub [0, 1] (by decide) rfl) hS ls (lv_sub hl [2, 3, 1, 0] rfl))
  exact hG2 _ _ _ (lp (k + 1) k (by omega) (Nat.lt_succ_self _) _ _ (hP.sub [0, 1] rfl) (hD.sub [0, 1] (by decide) rfl) hS ls (lv_sub hl [2, 3, 1, 0] rfl))
