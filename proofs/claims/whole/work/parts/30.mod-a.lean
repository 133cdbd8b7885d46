set_option maxHeartbeats 4000000 in
set_option maxRecDepth 100000 in
theorem c_Mod_word (l : Launch) (dC : Nat → ClassId) (dI : Nat → Nat → Nat) (kB kI : ClassId) (b1 : Nat) (cap : Nat) (f : Nat → Int32) (i : Nat) (hc : cap ≤ 150000) (hi : i + 4 ≤ cap) : zMi l yX8_word wsX8_word ({ frames := 0, cells := 0, slots := 0, locals := 0 }) (dC, dI) kB kI [.ref b1, .int (nI i)] [(b1, .inl (kB, cap, .inl f))] 0 0 (fun (r : Int32) => fun _ : Unit => r = wd f i) (fun _ : Unit => [(b1, .inl (kB, cap, .inl f))]) := by
  intro sz
  refine Met.ofW (cc := cX8_word) (maxL := 2) (ret := (some .int)) (by decide) rfl ?_
  intro p e s m args below meth c s₁ B hml hv
  obtain ⟨rfl, hsz, hP, hK, hD0⟩ := hv
  have hx := B.exec
  have hb := B.bytes
  have hr := B.returns
  have hts := atoms_spec (ws := wsX8_word) B.pre
  have hown : s.vm.findClass RX8 = some m.cls := findClass_of_methodNamed B.named
  have hlocks := B.notSynchronized
  subst hsz
  have hD := hD0.self (sz := s.heap.size)
  generalize hAe : va_A [(b1, .inl (kB, cap, .inl f))] s.heap.size = A at hD ⊢
  have hA : ∀ q : Nat, s.heap.size ≤ q → A q := fun q h => by rw [← hAe]; exact Or.inr h
  have hS : va_S A s.heap s.heap [] := va_S.rf
  have hP : va_P (dC, dI) vwCl [(b1, .inl (kB, cap, .inl f))] s.heap := hP
  have hl := lv_entry ([.ref b1, .int (nI i)]) (n := 2) (Nat.le_of_ble_eq_true rfl)
  rw [lg_entry_eq]
  generalize (lg_sl ([.ref b1, .int (nI i)]) ++ List.replicate (2 - (lg_sl ([.ref b1, .int (nI i)])).length) Slot.unset).toArray = ls at hl ⊢
  have hl : lv_has ls 2 [(0, .ref b1), (1, .int (nI i))] := hl
  refine zG (fun GG hG1 hG2 => ?_)
  refine lv_aload_n hx hb dX8_word_0 rfl (lv_at hl 0 rfl) ?_
  refine lv_iload_n hx hb dX8_word_1 rfl (lv_at hl 1 rfl) ?_
  refine va_bald hx hb hK hP 0 0 rfl rfl (zin rfl (by omega) (by omega)) dX8_word_2 ?_
  refine lv_is (y := (f i)) (zld f rfl (by omega)) ?_
  refine lv_sipush (v := 255) hx hb dX8_word_3 (by decide) ?_
  refine lv_iand hx hb dX8_word_6 ?_
  refine lv_aload_n hx hb dX8_word_7 rfl (lv_at hl 0 rfl) ?_
  refine lv_iload_n hx hb dX8_word_8 rfl (lv_at hl 1 rfl) ?_
  refine lv_iconst (v := 1) hx hb dX8_word_9 (by decide) ?_
  refine lv_iadd hx hb dX8_word_10 ?_
  refine lv_is (y := (nI (i + 1))) ((zn_add rfl (show (1 : Int32) = nI 1 from rfl))) ?_
  refine va_bald hx hb hK hP 0 0 rfl rfl (zin rfl (by omega) (by omega)) dX8_word_11 ?_
  refine lv_is (y := (f (i + 1))) (zld f rfl (by omega)) ?_
  refine lv_sipush (v := 255) hx hb dX8_word_12 (by decide) ?_
  refine lv_iand hx hb dX8_word_15 ?_
  refine lv_bipush (v := 8) hx hb dX8_word_16 (by decide) ?_
  refine z_ishl hx hb dX8_word_18 ?_
  refine lv_ior hx hb dX8_word_19 ?_
  refine lv_aload_n hx hb dX8_word_20 rfl (lv_at hl 0 rfl) ?_
  refine lv_iload_n hx hb dX8_word_21 rfl (lv_at hl 1 rfl) ?_
  refine lv_iconst (v := 2) hx hb dX8_word_22 (by decide) ?_
  refine lv_iadd hx hb dX8_word_23 ?_
  refine lv_is (y := (nI (i + 2))) ((zn_add rfl (show (2 : Int32) = nI 2 from rfl))) ?_
  refine va_bald hx hb hK hP 0 0 rfl rfl (zin rfl (by omega) (by omega)) dX8_word_24 ?_
  refine lv_is (y := (f (i + 2))) (zld f rfl (by omega)) ?_
  refine lv_sipush (v := 255) hx hb dX8_word_25 (by decide) ?_
  refine lv_iand hx hb dX8_word_28 ?_
  refine lv_bipush (v := 16) hx hb dX8_word_29 (by decide) ?_
  refine z_ishl hx hb dX8_word_31 ?_
  refine lv_ior hx hb dX8_word_32 ?_
  refine lv_aload_n hx hb dX8_word_33 rfl (lv_at hl 0 rfl) ?_
  refine lv_iload_n hx hb dX8_word_34 rfl (lv_at hl 1 rfl) ?_
  refine lv_iconst (v := 3) hx hb dX8_word_35 (by decide) ?_
  refine lv_iadd hx hb dX8_word_36 ?_
  refine lv_is (y := (nI (i + 3))) ((zn_add rfl (show (3 : Int32) = nI 3 from rfl))) ?_
  refine va_bald hx hb hK hP 0 0 rfl rfl (zin rfl (by omega) (by omega)) dX8_word_37 ?_
  refine lv_is (y := (f (i + 3))) (zld f rfl (by omega)) ?_
  refine lv_sipush (v := 255) hx hb dX8_word_38 (by decide) ?_
  refine lv_iand hx hb dX8_word_41 ?_
  refine lv_bipush (v := 24) hx hb dX8_word_42 (by decide) ?_
  refine z_ishl hx hb dX8_word_44 ?_
  refine lv_ior hx hb dX8_word_45 ?_
  have hP9 := hP.sub (ws' := [(b1, .inl (kB, cap, .inl f))]) [0] rfl
  have hD9 := hD.sub (ws' := [(b1, .inl (kB, cap, .inl f))]) [0] (by decide) rfl
  exact W.iret (v := (((((f i) &&& 255) ||| (shl ((f (i + 1)) &&& 255) 8)) ||| (shl ((f (i + 2)) &&& 255) 16)) ||| (shl ((f (i + 3)) &&& 255) 24))) hx hb hr (fun t9 ht9 hW9 => ⟨⟨(((((f i) &&& 255) ||| (shl ((f (i + 1)) &&& 255) 8)) ||| (shl ((f (i + 2)) &&& 255) 16)) ||| (shl ((f (i + 3)) &&& 255) 24)), (), rfl, rfl, by rw [ht9]; exact hP9, va_K.moved hW9.alike hK, hD9⟩, hS.F ht9⟩) hS.2.2 dX8_word_46

set_option maxHeartbeats 4000000 in
set_option maxRecDepth 100000 in
theorem c_Mod_turned (l : Launch) (dC : Nat → ClassId) (dI : Nat → Nat → Nat) (kB kI : ClassId) (x : Int32) (y : Int32)  : zMi l yX8_turned wsX8_turned ({ frames := 0, cells := 0, slots := 0, locals := 0 }) (dC, dI) kB kI [.int x, .int y] [] 0 0 (fun (r : Int32) => fun _ : Unit => r = shl x y ||| ushr x (32 - y)) (fun _ : Unit => []) := by
  intro sz
  refine Met.ofW (cc := cX8_turned) (maxL := 2) (ret := (some .int)) (by decide) rfl ?_
  intro p e s m args below meth c s₁ B hml hv
  obtain ⟨rfl, hsz, hP, hK, hD0⟩ := hv
  have hx := B.exec
  have hb := B.bytes
  have hr := B.returns
  have hts := atoms_spec (ws := wsX8_turned) B.pre
  have hown : s.vm.findClass RX8 = some m.cls := findClass_of_methodNamed B.named
  have hlocks := B.notSynchronized
  subst hsz
  have hD := hD0.self (sz := s.heap.size)
  generalize hAe : va_A [] s.heap.size = A at hD ⊢
  have hA : ∀ q : Nat, s.heap.size ≤ q → A q := fun q h => by rw [← hAe]; exact Or.inr h
  have hS : va_S A s.heap s.heap [] := va_S.rf
  have hP : va_P (dC, dI) vwCl [] s.heap := hP
  have hl := lv_entry ([.int x, .int y]) (n := 2) (Nat.le_of_ble_eq_true rfl)
  rw [lg_entry_eq]
  generalize (lg_sl ([.int x, .int y]) ++ List.replicate (2 - (lg_sl ([.int x, .int y])).length) Slot.unset).toArray = ls at hl ⊢
  have hl : lv_has ls 2 [(0, .int x), (1, .int y)] := hl
  refine zG (fun GG hG1 hG2 => ?_)
  refine lv_iload_n hx hb dX8_turned_0 rfl (lv_at hl 0 rfl) ?_
  refine lv_iload_n hx hb dX8_turned_1 rfl (lv_at hl 1 rfl) ?_
  refine z_ishl hx hb dX8_turned_2 ?_
  refine lv_iload_n hx hb dX8_turned_3 rfl (lv_at hl 0 rfl) ?_
  refine lv_bipush (v := 32) hx hb dX8_turned_4 (by decide) ?_
  refine lv_iload_n hx hb dX8_turned_6 rfl (lv_at hl 1 rfl) ?_
  refine lv_isub hx hb dX8_turned_7 ?_
  refine lv_iushr (v := (ushr x (32 - y))) hx hb dX8_turned_8 rfl ?_
  refine lv_ior hx hb dX8_turned_9 ?_
  have hP9 := hP.sub (ws' := []) [] rfl
  have hD9 := hD.sub (ws' := []) [] (by decide) rfl
  exact W.iret (v := ((shl x y) ||| (ushr x (32 - y)))) hx hb hr (fun t9 ht9 hW9 => ⟨⟨((shl x y) ||| (ushr x (32 - y))), (), rfl, rfl, by rw [ht9]; exact hP9, va_K.moved hW9.alike hK, hD9⟩, hS.F ht9⟩) hS.2.2 dX8_turned_10

set_option maxHeartbeats 4000000 in
set_option maxRecDepth 100000 in
theorem c_Mod_round (l : Launch) (dC : Nat → ClassId) (dI : Nat → Nat → Nat) (kB kI : ClassId) (x : Int32) (y : Int32)  : zMi l yX8_round wsX8_round ({ frames := 1, cells := 0, slots := 0, locals := 21 }) (dC, dI) kB kI [.int x, .int y] [] 0 0 (fun (r : Int32) => fun _ : Unit => r = rndF x y) (fun _ : Unit => []) := by
  intro sz
  refine Met.ofW (cc := cX8_round) (maxL := 2) (ret := (some .int)) (by decide) rfl ?_
  intro p e s m args below meth c s₁ B hml hv
  obtain ⟨rfl, hsz, hP, hK, hD0⟩ := hv
  have hx := B.exec
  have hb := B.bytes
  have hr := B.returns
  have hts := atoms_spec (ws := wsX8_round) B.pre
  have hown : s.vm.findClass RX8 = some m.cls := findClass_of_methodNamed B.named
  have hlocks := B.notSynchronized
  subst hsz
  have hD := hD0.self (sz := s.heap.size)
  generalize hAe : va_A [] s.heap.size = A at hD ⊢
  have hA : ∀ q : Nat, s.heap.size ≤ q → A q := fun q h => by rw [← hAe]; exact Or.inr h
  have hS : va_S A s.heap s.heap [] := va_S.rf
  have hP : va_P (dC, dI) vwCl [] s.heap := hP
  have hl := lv_entry ([.int x, .int y]) (n := 2) (Nat.le_of_ble_eq_true rfl)
  rw [lg_entry_eq]
  generalize (lg_sl ([.int x, .int y]) ++ List.replicate (2 - (lg_sl ([.int x, .int y])).length) Slot.unset).toArray = ls at hl ⊢
  have hl : lv_has ls 2 [(0, .int x), (1, .int y)] := hl
  refine zG (fun GG hG1 hG2 => ?_)
  refine lv_iload_n hx hb dX8_round_0 rfl (lv_at hl 0 rfl) ?_
  refine lv_ldc (v := (-2048144777)) hx hb hown (hts (.constant RX8 58 (-2048144777)) (by decide +kernel)) dX8_round_1 ?_
  refine lv_iload_n hx hb dX8_round_3 rfl (lv_at hl 1 rfl) ?_
  refine lv_imul hx hb dX8_round_4 ?_
  refine lv_iadd hx hb dX8_round_5 ?_
  refine lv_bipush (v := 13) hx hb dX8_round_6 (by decide) ?_
  refine z_calli (wr := []) (va_runS (As := [.int (x + ((-2048144777) * y)), .int 13]) (rest := []) ⟨hx, hb, hml, hown, hts⟩ (c_Mod_turned l dC dI kB kI (x + ((-2048144777) * y)) 13  s.heap.size) (va_cwS 2 hts gX8_round_X8_turned rfl rfl rfl (by decide +kernel) ⟨Nat.le_of_ble_eq_true rfl, Nat.le_of_ble_eq_true rfl⟩) (z_preS hK (hP.sub [] rfl) (hD.sub [] (by decide) rfl)) rfl rfl hl.1 rfl (lv_room (Nat.le_of_ble_eq_true rfl)) dX8_round_8 ⟨Nat.le_of_ble_eq_true rfl, Nat.le_of_ble_eq_true rfl⟩) hK hP hD hS hA [] [] rfl rfl (by decide) (by decide) (fun r1 uq2 H locs hw hP hD hS => ?_)
  replace hw : r1 = shl (x + ((-2048144777) * y)) 13 ||| ushr (x + ((-2048144777) * y)) (32 - 13) := hw
  have hP : va_P (dC, dI) vwCl [] H := hP
  have hD : va_D A [] := hD
  rw [show (32 : Int32) - 13 = 19 from by decide] at hw
  subst hw
  refine lv_ldc (v := (-1640531535)) hx hb hown (hts (.constant RX8 63 (-1640531535)) (by decide +kernel)) dX8_round_11 ?_
  refine lv_imul hx hb dX8_round_13 ?_
  have hP9 := hP.sub (ws' := []) [] rfl
  have hD9 := hD.sub (ws' := []) [] (by decide) rfl
  exact W.iret (v := ((rotl (x + ((-2048144777) * y)) 13 19) * (-1640531535))) hx hb hr (fun t9 ht9 hW9 => ⟨⟨((rotl (x + ((-2048144777) * y)) 13 19) * (-1640531535)), (), rfl, rfl, by rw [ht9]; exact hP9, va_K.moved hW9.alike hK, hD9⟩, hS.F ht9⟩) hS.2.2 dX8_round_14

set_option maxHeartbeats 4000000 in
set_option maxRecDepth 100000 in
theorem c_Mod_hashOf (l : Launch) (dC : Nat → ClassId) (dI : Nat → Nat → Nat) (kB kI : ClassId) (b1 : Nat) (cap : Nat) (f : Nat → Int32) (i : Nat) (k : Nat) (sd : Int32) (hc : cap ≤ 150000) (hi : i + k ≤ cap) : zMi l yX8_hashOf wsX8_hashOf ({ frames := 2, cells := 0, slots := 0, locals := 42 }) (dC, dI) kB kI [.ref b1, .int (nI i), .int (nI k), .int sd] [(b1, .inl (kB, cap, .inl f))] 0 0 (fun (r : Int32) => fun _ : Unit => r = hashF f i k sd) (fun _ : Unit => [(b1, .inl (kB, cap, .inl f))]) := by
  intro sz
  refine Met.ofW (cc := cX8_hashOf) (maxL := 11) (ret := (some .int)) (by decide) rfl ?_
  intro p e s m args below meth c s₁ B hml hv
  obtain ⟨rfl, hsz, hP, hK, hD0⟩ := hv
  have hx := B.exec
  have hb := B.bytes
  have hr := B.returns
  have hts := atoms_spec (ws := wsX8_hashOf) B.pre
  have hown : s.vm.findClass RX8 = some m.cls := findClass_of_methodNamed B.named
  have hlocks := B.notSynchronized
  subst hsz
  have hD := hD0.self (sz := s.heap.size)
  generalize hAe : va_A [(b1, .inl (kB, cap, .inl f))] s.heap.size = A at hD ⊢
  have hA : ∀ q : Nat, s.heap.size ≤ q → A q := fun q h => by rw [← hAe]; exact Or.inr h
  have hS : va_S A s.heap s.heap [] := va_S.rf
  have hP : va_P (dC, dI) vwCl [(b1, .inl (kB, cap, .inl f))] s.heap := hP
  have hl := lv_entry ([.ref b1, .int (nI i), .int (nI k), .int sd]) (n := 11) (Nat.le_of_ble_eq_true rfl)
  rw [lg_entry_eq]
  generalize (lg_sl ([.ref b1, .int (nI i), .int (nI k), .int sd]) ++ List.replicate (11 - (lg_sl ([.ref b1, .int (nI i), .int (nI k), .int sd])).length) Slot.unset).toArray = ls at hl ⊢
  have hl : lv_has ls 11 [(0, .ref b1), (1, .int (nI i)), (2, .int (nI k)), (3, .int sd)] := hl
  refine zG (fun GG hG1 hG2 => ?_)
  refine lv_iload_n hx hb dX8_hashOf_0 rfl (lv_at hl 1 rfl) ?_
  refine lv_istore (lv' := [(4, .int (nI i)), (0, .ref b1), (1, .int (nI i)), (2, .int (nI k)), (3, .int sd)]) hx hb dX8_hashOf_1 hl (by decide) rfl (fun ls hl => ?_)
  refine lv_iload_n hx hb dX8_hashOf_3 rfl (lv_at hl 2 rfl) ?_
  refine lv_iload_n hx hb dX8_hashOf_4 rfl (lv_at hl 3 rfl) ?_
  refine lv_iadd hx hb dX8_hashOf_5 ?_
  refine lv_is (y := (nI (i + k))) ((zn_add rfl rfl)) ?_
  refine lv_istore (lv' := [(5, .int (nI (i + k))), (4, .int (nI i)), (0, .ref b1), (1, .int (nI i)), (2, .int (nI k)), (3, .int sd)]) hx hb dX8_hashOf_6 hl (by decide) rfl (fun ls hl => ?_)
  refine lv_iload_n hx hb dX8_hashOf_8 rfl (lv_at hl 5 rfl) ?_
  refine lv_ldc (v := 374761393) hx hb hown (hts (.constant RX8 64 374761393) (by decide +kernel)) dX8_hashOf_9 ?_
  refine lv_iadd hx hb dX8_hashOf_11 ?_
  refine lv_istore (lv' := [(6, .int (sd + 374761393)), (5, .int (nI (i + k))), (4, .int (nI i)), (0, .ref b1), (1, .int (nI i)), (2, .int (nI k)), (3, .int sd)]) hx hb dX8_hashOf_12 hl (by decide) rfl (fun ls hl => ?_)
  refine lv_iload_n hx hb dX8_hashOf_14 rfl (lv_at hl 5 rfl) ?_
  refine lv_bipush (v := 16) hx hb dX8_hashOf_15 (by decide) ?_
  have jn : ∀   (H : Heap) (locs : List Loc), va_P (dC, dI) vwCl [(b1, .inl (kB, cap, .inl f))] H → va_D A [(b1, .inl (kB, cap, .inl f))] → va_S A s.heap H locs → ∀ (ls : Array Slot), lv_has ls 11 [(0, .ref b1), (2, .int (nI k)), (5, .int (nI (i + k))), (6, .int (hbase f i k sd)), (4, .int (nI (i + k / 16 * 16)))] → GG H locs (F0 m 152 ls []) := by
    intro  H locs hP hD hS ls hl
    apply hG1
    refine lv_iload hx hb dX8_hashOf_152 (lv_at hl 3 rfl) ?_
    refine lv_iload_n hx hb dX8_hashOf_154 rfl (lv_at hl 1 rfl) ?_
    refine lv_iadd hx hb dX8_hashOf_155 ?_
    refine lv_istore (lv' := [(6, .int ((hbase f i k sd) + (nI k))), (0, .ref b1), (2, .int (nI k)), (5, .int (nI (i + k))), (4, .int (nI (i + k / 16 * 16)))]) hx hb dX8_hashOf_156 hl (by decide) rfl (fun ls hl => ?_)
    have lp : ∀ (kf : Nat) (t : Nat) (ht : t ≤ k % 16 / 4), k % 16 / 4 - t < kf → ∀ (H : Heap) (locs : List Loc), va_P (dC, dI) vwCl [(b1, .inl (kB, cap, .inl f))] H → va_D A [(b1, .inl (kB, cap, .inl f))] → va_S A s.heap H locs → ∀ (ls : Array Slot), lv_has ls 11 [(0, .ref b1), (5, .int (nI (i + k))), (6, .int (hw4 f (i + k / 16 * 16) (hbase f i k sd + nI k) t)), (4, .int (nI (i + k / 16 * 16 + 4 * t)))] → GG H locs (F0 m 158 ls []) := by
      intro kf
      induction kf with
      | zero => intro t ht hm; exact absurd hm (Nat.not_lt_zero _)
      | succ kf ih =>
        intro t ht hm H locs hP hD hS ls hl
        apply hG1
        refine lv_iload hx hb dX8_hashOf_158 (lv_at hl 1 rfl) ?_
        refine lv_iload hx hb dX8_hashOf_160 (lv_at hl 3 rfl) ?_
        refine lv_isub hx hb dX8_hashOf_162 ?_
        refine lv_iconst (v := 4) hx hb dX8_hashOf_163 (by decide) ?_
        refine zb_icmp_lt (tgt := 195) (a := (((i + k : Nat) : Int) - ((i + k / 16 * 16 + 4 * t : Nat) : Int))) (b := 4) hx hb dX8_hashOf_164 (by decide) (zi_sub (nI_toInt (by omega)) (nI_toInt (by omega)) (by omega) (by omega)) (by decide) (fun c164 => ?_) (fun c164 => ?_)
        · have et9 : k % 16 / 4 = t := by omega
          subst et9
          have eq9 : ((nI (i + k / 16 * 16 + 4 * (k % 16 / 4))) : Int32) = (nI (i + k / 4 * 4)) := congrArg nI (by omega)
          have hl : lv_has ls 11 [(0, .ref b1), (5, .int (nI (i + k))), (6, .int (hw4 f (i + k / 16 * 16) (hbase f i k sd + nI k) (k % 16 / 4))), (4, .int (nI (i + k / 4 * 4)))] := by rw [← eq9]; exact hl
          have lq : ∀ (kf : Nat) (t : Nat) (ht : t ≤ k % 4), k % 4 - t < kf → ∀ (H : Heap) (locs : List Loc), va_P (dC, dI) vwCl [(b1, .inl (kB, cap, .inl f))] H → va_D A [(b1, .inl (kB, cap, .inl f))] → va_S A s.heap H locs → ∀ (ls : Array Slot), lv_has ls 11 [(0, .ref b1), (5, .int (nI (i + k))), (6, .int (hb1 f (i + k / 4 * 4) (hw4 f (i + k / 16 * 16) (hbase f i k sd + nI k) (k % 16 / 4)) t)), (4, .int (nI (i + k / 4 * 4 + t)))] → GG H locs (F0 m 195 ls []) := by
            intro kf
            induction kf with
            | zero => intro t ht hm; exact absurd hm (Nat.not_lt_zero _)
            | succ kf ih =>
              intro t ht hm H locs hP hD hS ls hl
              apply hG1
              refine lv_iload hx hb dX8_hashOf_195 (lv_at hl 3 rfl) ?_
              refine lv_iload hx hb dX8_hashOf_197 (lv_at hl 1 rfl) ?_
              refine zb_icmp_ge (tgt := 232) (a := ((i + k / 4 * 4 + t : Nat) : Int)) (b := ((i + k : Nat) : Int)) hx hb dX8_hashOf_199 (by decide) (nI_toInt (by omega)) (nI_toInt (by omega)) (fun c199 => ?_) (fun c199 => ?_)
              · have et9 : k % 4 = t := by omega
                subst et9
                refine lv_iload hx hb dX8_hashOf_232 (lv_at hl 2 rfl) ?_
                refine lv_iload hx hb dX8_hashOf_234 (lv_at hl 2 rfl) ?_
                refine lv_bipush (v := 15) hx hb dX8_hashOf_236 (by decide) ?_
                refine lv_iushr (v := (ushr (hb1 f (i + k / 4 * 4) (hw4 f (i + k / 16 * 16) (hbase f i k sd + nI k) (k % 16 / 4)) (k % 4)) 15)) hx hb dX8_hashOf_238 rfl ?_
                refine lv_ixor hx hb dX8_hashOf_239 ?_
                refine lv_ldc (v := (-2048144777)) hx hb hown (hts (.constant RX8 58 (-2048144777)) (by decide +kernel)) dX8_hashOf_240 ?_
                refine lv_imul hx hb dX8_hashOf_242 ?_
                refine lv_istore (lv' := [(6, .int (((hb1 f (i + k / 4 * 4) (hw4 f (i + k / 16 * 16) (hbase f i k sd + nI k) (k % 16 / 4)) (k % 4)) ^^^ (ushr (hb1 f (i + k / 4 * 4) (hw4 f (i + k / 16 * 16) (hbase f i k sd + nI k) (k % 16 / 4)) (k % 4)) 15)) * (-2048144777))), (0, .ref b1), (5, .int (nI (i + k))), (4, .int (nI (i + k / 4 * 4 + (k % 4))))]) hx hb dX8_hashOf_243 hl (by decide) rfl (fun ls hl => ?_)
                refine lv_iload hx hb dX8_hashOf_245 (lv_at hl 0 rfl) ?_
                refine lv_iload hx hb dX8_hashOf_247 (lv_at hl 0 rfl) ?_
                refine lv_bipush (v := 13) hx hb dX8_hashOf_249 (by decide) ?_
                refine lv_iushr (v := (ushr (((hb1 f (i + k / 4 * 4) (hw4 f (i + k / 16 * 16) (hbase f i k sd + nI k) (k % 16 / 4)) (k % 4)) ^^^ (ushr (hb1 f (i + k / 4 * 4) (hw4 f (i + k / 16 * 16) (hbase f i k sd + nI k) (k % 16 / 4)) (k % 4)) 15)) * (-2048144777)) 13)) hx hb dX8_hashOf_251 rfl ?_
                refine lv_ixor hx hb dX8_hashOf_252 ?_
                refine lv_ldc (v := (-1028477379)) hx hb hown (hts (.constant RX8 72 (-1028477379)) (by decide +kernel)) dX8_hashOf_253 ?_
                refine lv_imul hx hb dX8_hashOf_255 ?_
                refine lv_istore (lv' := [(6, .int (((((hb1 f (i + k / 4 * 4) (hw4 f (i + k / 16 * 16) (hbase f i k sd + nI k) (k % 16 / 4)) (k % 4)) ^^^ (ushr (hb1 f (i + k / 4 * 4) (hw4 f (i + k / 16 * 16) (hbase f i k sd + nI k) (k % 16 / 4)) (k % 4)) 15)) * (-2048144777)) ^^^ (ushr (((hb1 f (i + k / 4 * 4) (hw4 f (i + k / 16 * 16) (hbase f i k sd + nI k) (k % 16 / 4)) (k % 4)) ^^^ (ushr (hb1 f (i + k / 4 * 4) (hw4 f (i + k / 16 * 16) (hbase f i k sd + nI k) (k % 16 / 4)) (k % 4)) 15)) * (-2048144777)) 13)) * (-1028477379))), (0, .ref b1), (5, .int (nI (i + k))), (4, .int (nI (i + k / 4 * 4 + (k % 4))))]) hx hb dX8_hashOf_256 hl (by decide) rfl (fun ls hl => ?_)
                refine lv_iload hx hb dX8_hashOf_258 (lv_at hl 0 rfl) ?_
                refine lv_iload hx hb dX8_hashOf_260 (lv_at hl 0 rfl) ?_
                refine lv_bipush (v := 16) hx hb dX8_hashOf_262 (by decide) ?_
                refine lv_iushr (v := (ushr (((((hb1 f (i + k / 4 * 4) (hw4 f (i + k / 16 * 16) (hbase f i k sd + nI k) (k % 16 / 4)) (k % 4)) ^^^ (ushr (hb1 f (i + k / 4 * 4) (hw4 f (i + k / 16 * 16) (hbase f i k sd + nI k) (k % 16 / 4)) (k % 4)) 15)) * (-2048144777)) ^^^ (ushr (((hb1 f (i + k / 4 * 4) (hw4 f (i + k / 16 * 16) (hbase f i k sd + nI k) (k % 16 / 4)) (k % 4)) ^^^ (ushr (hb1 f (i + k / 4 * 4) (hw4 f (i + k / 16 * 16) (hbase f i k sd + nI k) (k % 16 / 4)) (k % 4)) 15)) * (-2048144777)) 13)) * (-1028477379)) 16)) hx hb dX8_hashOf_264 rfl ?_
                refine lv_ixor hx hb dX8_hashOf_265 ?_
                have hP9 := hP.sub (ws' := [(b1, .inl (kB, cap, .inl f))]) [0] rfl
                have hD9 := hD.sub (ws' := [(b1, .inl (kB, cap, .inl f))]) [0] (by decide) rfl
                exact W.iret (v := ((((((hb1 f (i + k / 4 * 4) (hw4 f (i + k / 16 * 16) (hbase f i k sd + nI k) (k % 16 / 4)) (k % 4)) ^^^ (ushr (hb1 f (i + k / 4 * 4) (hw4 f (i + k / 16 * 16) (hbase f i k sd + nI k) (k % 16 / 4)) (k % 4)) 15)) * (-2048144777)) ^^^ (ushr (((hb1 f (i + k / 4 * 4) (hw4 f (i + k / 16 * 16) (hbase f i k sd + nI k) (k % 16 / 4)) (k % 4)) ^^^ (ushr (hb1 f (i + k / 4 * 4) (hw4 f (i + k / 16 * 16) (hbase f i k sd + nI k) (k % 16 / 4)) (k % 4)) 15)) * (-2048144777)) 13)) * (-1028477379)) ^^^ (ushr (((((hb1 f (i + k / 4 * 4) (hw4 f (i + k / 16 * 16) (hbase f i k sd + nI k) (k % 16 / 4)) (k % 4)) ^^^ (ushr (hb1 f (i + k / 4 * 4) (hw4 f (i + k / 16 * 16) (hbase f i k sd + nI k) (k % 16 / 4)) (k % 4)) 15)) * (-2048144777)) ^^^ (ushr (((hb1 f (i + k / 4 * 4) (hw4 f (i + k / 16 * 16) (hbase f i k sd + nI k) (k % 16 / 4)) (k % 4)) ^^^ (ushr (hb1 f (i + k / 4 * 4) (hw4 f (i + k / 16 * 16) (hbase f i k sd + nI k) (k % 16 / 4)) (k % 4)) 15)) * (-2048144777)) 13)) * (-1028477379)) 16))) hx hb hr (fun t9 ht9 hW9 => ⟨⟨((((((hb1 f (i + k / 4 * 4) (hw4 f (i + k / 16 * 16) (hbase f i k sd + nI k) (k % 16 / 4)) (k % 4)) ^^^ (ushr (hb1 f (i + k / 4 * 4) (hw4 f (i + k / 16 * 16) (hbase f i k sd + nI k) (k % 16 / 4)) (k % 4)) 15)) * (-2048144777)) ^^^ (ushr (((hb1 f (i + k / 4 * 4) (hw4 f (i + k / 16 * 16) (hbase f i k sd + nI k) (k % 16 / 4)) (k % 4)) ^^^ (ushr (hb1 f (i + k / 4 * 4) (hw4 f (i + k / 16 * 16) (hbase f i k sd + nI k) (k % 16 / 4)) (k % 4)) 15)) * (-2048144777)) 13)) * (-1028477379)) ^^^ (ushr (((((hb1 f (i + k / 4 * 4) (hw4 f (i + k / 16 * 16) (hbase f i k sd + nI k) (k % 16 / 4)) (k % 4)) ^^^ (ushr (hb1 f (i + k / 4 * 4) (hw4 f (i + k / 16 * 16) (hbase f i k sd + nI k) (k % 16 / 4)) (k % 4)) 15)) * (-2048144777)) ^^^ (ushr (((hb1 f (i + k / 4 * 4) (hw4 f (i + k / 16 * 16) (hbase f i k sd + nI k) (k % 16 / 4)) (k % 4)) ^^^ (ushr (hb1 f (i + k / 4 * 4) (hw4 f (i + k / 16 * 16) (hbase f i k sd + nI k) (k % 16 / 4)) (k % 4)) 15)) * (-2048144777)) 13)) * (-1028477379)) 16)), (), rfl, rfl, by rw [ht9]; exact hP9, va_K.moved hW9.alike hK, hD9⟩, hS.F ht9⟩) hS.2.2 dX8_hashOf_266
              · refine lv_iload hx hb dX8_hashOf_202 (lv_at hl 2 rfl) ?_
                refine lv_ldc (v := 374761393) hx hb hown (hts (.constant RX8 64 374761393) (by decide +kernel)) dX8_hashOf_204 ?_
                refine lv_aload_n hx hb dX8_hashOf_206 rfl (lv_at hl 0 rfl) ?_
                refine lv_iload hx hb dX8_hashOf_207 (lv_at hl 3 rfl) ?_
                refine va_bald hx hb hK hP 0 0 rfl rfl (zin rfl (by omega) (by omega)) dX8_hashOf_209 ?_
                refine lv_is (y := (f (i + k / 4 * 4 + t))) (zld f rfl (by omega)) ?_
                refine lv_sipush (v := 255) hx hb dX8_hashOf_210 (by decide) ?_
                refine lv_iand hx hb dX8_hashOf_213 ?_
                refine lv_imul hx hb dX8_hashOf_214 ?_
                refine lv_iadd hx hb dX8_hashOf_215 ?_
                refine lv_bipush (v := 11) hx hb dX8_hashOf_216 (by decide) ?_
                refine z_calli (wr := [(b1, .inl (kB, cap, .inl f))]) (va_runS (As := [.int ((hb1 f (i + k / 4 * 4) (hw4 f (i + k / 16 * 16) (hbase f i k sd + nI k) (k % 16 / 4)) t) + (374761393 * ((f (i + k / 4 * 4 + t)) &&& 255))), .int 11]) (rest := []) ⟨hx, hb, hml, hown, hts⟩ (c_Mod_turned l dC dI kB kI ((hb1 f (i + k / 4 * 4) (hw4 f (i + k / 16 * 16) (hbase f i k sd + nI k) (k % 16 / 4)) t) + (374761393 * ((f (i + k / 4 * 4 + t)) &&& 255))) 11  H.size) (va_cwS 2 hts gX8_hashOf_X8_turned rfl rfl rfl (by decide +kernel) ⟨Nat.le_of_ble_eq_true rfl, Nat.le_of_ble_eq_true rfl⟩) (z_preS hK (hP.sub [] rfl) (hD.sub [] (by decide) rfl)) rfl rfl hl.1 rfl (lv_room (Nat.le_of_ble_eq_true rfl)) dX8_hashOf_218 ⟨Nat.le_of_ble_eq_true rfl, Nat.le_of_ble_eq_true rfl⟩) hK hP hD hS hA [] [0] rfl rfl (by decide) (by decide) (fun r1 uq2 H locs hw hP hD hS => ?_)
                replace hw : r1 = shl ((hb1 f (i + k / 4 * 4) (hw4 f (i + k / 16 * 16) (hbase f i k sd + nI k) (k % 16 / 4)) t) + (374761393 * ((f (i + k / 4 * 4 + t)) &&& 255))) 11 ||| ushr ((hb1 f (i + k / 4 * 4) (hw4 f (i + k / 16 * 16) (hbase f i k sd + nI k) (k % 16 / 4)) t) + (374761393 * ((f (i + k / 4 * 4 + t)) &&& 255))) (32 - 11) := hw
                have hP : va_P (dC, dI) vwCl [(b1, .inl (kB, cap, .inl f))] H := hP
                have hD : va_D A [(b1, .inl (kB, cap, .inl f))] := hD
                rw [show (32 : Int32) - 11 = 21 from by decide] at hw
                subst hw
                refine lv_ldc (v := (-1640531535)) hx hb hown (hts (.constant RX8 63 (-1640531535)) (by decide +kernel)) dX8_hashOf_221 ?_
                refine lv_imul hx hb dX8_hashOf_223 ?_
                refine lv_istore (lv' := [(6, .int ((rotl ((hb1 f (i + k / 4 * 4) (hw4 f (i + k / 16 * 16) (hbase f i k sd + nI k) (k % 16 / 4)) t) + (374761393 * ((f (i + k / 4 * 4 + t)) &&& 255))) 11 21) * (-1640531535))), (0, .ref b1), (5, .int (nI (i + k))), (4, .int (nI (i + k / 4 * 4 + t)))]) hx hb dX8_hashOf_224 hl (by decide) rfl (fun ls hl => ?_)
                refine lv_iinc (v := (nI ((i + k / 4 * 4 + t) + 1))) (lv' := [(4, .int (nI ((i + k / 4 * 4 + t) + 1))), (6, .int ((rotl ((hb1 f (i + k / 4 * 4) (hw4 f (i + k / 16 * 16) (hbase f i k sd + nI k) (k % 16 / 4)) t) + (374761393 * ((f (i + k / 4 * 4 + t)) &&& 255))) 11 21) * (-1640531535))), (0, .ref b1), (5, .int (nI (i + k)))]) hx hb dX8_hashOf_226 hl (k := 3) rfl (zn_inc (i + k / 4 * 4 + t) 1 (by decide)) (by decide) rfl (fun ls hl => ?_)
                refine lv_goto (tgt := 195) hx hb dX8_hashOf_229 (by decide) ?_
                exact hG2 _ _ _ (ih (t + 1) (by omega) (by omega) _ _ (hP.sub [0] rfl) (hD.sub [0] (by decide) rfl) hS ls (lv_sub hl [2, 3, 1, 0] rfl))
          exact hG2 _ _ _ (lq (k % 4 - 0 + 1) 0 (by omega) (Nat.lt_succ_self _) _ _ (hP.sub [0] rfl) (hD.sub [0] (by decide) rfl) hS ls (lv_sub hl [0, 1, 2, 3] rfl))
        · refine lv_iload hx hb dX8_hashOf_167 (lv_at hl 2 rfl) ?_
          refine lv_ldc (v := (-1028477379)) hx hb hown (hts (.constant RX8 72 (-1028477379)) (by decide +kernel)) dX8_hashOf_169 ?_
          refine lv_aload_n hx hb dX8_hashOf_171 rfl (lv_at hl 0 rfl) ?_
          refine lv_iload hx hb dX8_hashOf_172 (lv_at hl 3 rfl) ?_
          refine z_calli (wr := []) (va_runS (As := [.ref b1, .int (nI (i + k / 16 * 16 + 4 * t))]) (rest := [.int (-1028477379), .int (hw4 f (i + k / 16 * 16) (hbase f i k sd + nI k) t)]) ⟨hx, hb, hml, hown, hts⟩ (c_Mod_word l dC dI kB kI b1 cap f (i + k / 16 * 16 + 4 * t) (by omega) (by omega) H.size) (va_cwS 2 hts gX8_hashOf_X8_word rfl rfl rfl (by decide +kernel) ⟨Nat.le_of_ble_eq_true rfl, Nat.le_of_ble_eq_true rfl⟩) (z_preS hK (hP.sub [0] rfl) (hD.sub [0] (by decide) rfl)) rfl rfl hl.1 rfl (lv_room (Nat.le_of_ble_eq_true rfl)) dX8_hashOf_174 ⟨Nat.le_of_ble_eq_true rfl, Nat.le_of_ble_eq_true rfl⟩) hK hP hD hS hA [0] [] rfl rfl (by decide) (by decide) (fun r3 uq4 H locs hw hP hD hS => ?_)
          replace hw : r3 = wd f (i + k / 16 * 16 + 4 * t) := hw
          have hP : va_P (dC, dI) vwCl [(b1, .inl (kB, cap, .inl f))] H := hP
          have hD : va_D A [(b1, .inl (kB, cap, .inl f))] := hD
          subst hw
          refine lv_imul hx hb dX8_hashOf_177 ?_
          refine lv_iadd hx hb dX8_hashOf_178 ?_
          refine lv_bipush (v := 17) hx hb dX8_hashOf_179 (by decide) ?_
          refine z_calli (wr := [(b1, .inl (kB, cap, .inl f))]) (va_runS (As := [.int ((hw4 f (i + k / 16 * 16) (hbase f i k sd + nI k) t) + ((-1028477379) * (wd f (i + k / 16 * 16 + 4 * t)))), .int 17]) (rest := []) ⟨hx, hb, hml, hown, hts⟩ (c_Mod_turned l dC dI kB kI ((hw4 f (i + k / 16 * 16) (hbase f i k sd + nI k) t) + ((-1028477379) * (wd f (i + k / 16 * 16 + 4 * t)))) 17  H.size) (va_cwS 2 hts gX8_hashOf_X8_turned rfl rfl rfl (by decide +kernel) ⟨Nat.le_of_ble_eq_true rfl, Nat.le_of_ble_eq_true rfl⟩) (z_preS hK (hP.sub [] rfl) (hD.sub [] (by decide) rfl)) rfl rfl hl.1 rfl (lv_room (Nat.le_of_ble_eq_true rfl)) dX8_hashOf_181 ⟨Nat.le_of_ble_eq_true rfl, Nat.le_of_ble_eq_true rfl⟩) hK hP hD hS hA [] [0] rfl rfl (by decide) (by decide) (fun r5 uq6 H locs hw hP hD hS => ?_)
          replace hw : r5 = shl ((hw4 f (i + k / 16 * 16) (hbase f i k sd + nI k) t) + ((-1028477379) * (wd f (i + k / 16 * 16 + 4 * t)))) 17 ||| ushr ((hw4 f (i + k / 16 * 16) (hbase f i k sd + nI k) t) + ((-1028477379) * (wd f (i + k / 16 * 16 + 4 * t)))) (32 - 17) := hw
          have hP : va_P (dC, dI) vwCl [(b1, .inl (kB, cap, .inl f))] H := hP
          have hD : va_D A [(b1, .inl (kB, cap, .inl f))] := hD
          rw [show (32 : Int32) - 17 = 15 from by decide] at hw
          subst hw
          refine lv_ldc (v := 668265263) hx hb hown (hts (.constant RX8 73 668265263) (by decide +kernel)) dX8_hashOf_184 ?_
          refine lv_imul hx hb dX8_hashOf_186 ?_
          refine lv_istore (lv' := [(6, .int ((rotl ((hw4 f (i + k / 16 * 16) (hbase f i k sd + nI k) t) + ((-1028477379) * (wd f (i + k / 16 * 16 + 4 * t)))) 17 15) * 668265263)), (0, .ref b1), (5, .int (nI (i + k))), (4, .int (nI (i + k / 16 * 16 + 4 * t)))]) hx hb dX8_hashOf_187 hl (by decide) rfl (fun ls hl => ?_)
          refine lv_iinc (v := (nI ((i + k / 16 * 16 + 4 * t) + 4))) (lv' := [(4, .int (nI ((i + k / 16 * 16 + 4 * t) + 4))), (6, .int ((rotl ((hw4 f (i + k / 16 * 16) (hbase f i k sd + nI k) t) + ((-1028477379) * (wd f (i + k / 16 * 16 + 4 * t)))) 17 15) * 668265263)), (0, .ref b1), (5, .int (nI (i + k)))]) hx hb dX8_hashOf_189 hl (k := 3) rfl (zn_inc (i + k / 16 * 16 + 4 * t) 4 (by decide)) (by decide) rfl (fun ls hl => ?_)
          refine lv_goto (tgt := 158) hx hb dX8_hashOf_192 (by decide) ?_
          exact hG2 _ _ _ (ih (t + 1) (by omega) (by omega) _ _ (hP.sub [0] rfl) (hD.sub [0] (by decide) rfl) hS ls (lv_sub hl [2, 3, 1, 0] rfl))
    exact hG2 _ _ _ (lp (k % 16 / 4 - 0 + 1) 0 (by omega) (Nat.lt_succ_self _) _ _ (hP.sub [0] rfl) (hD.sub [0] (by decide) rfl) hS ls (lv_sub hl [1, 3, 0, 4] rfl))
  refine zb_icmp_lt (tgt := 152) (a := ((k : Nat) : Int)) (b := 16) hx hb dX8_hashOf_17 (by decide) (nI_toInt (by omega)) (by decide) (fun c17 => ?_) (fun c17 => ?_)
  · have eq9 : ((nI i) : Int32) = (nI (i + k / 16 * 16)) := congrArg nI (by omega)
    have hl : lv_has ls 11 [(6, .int (sd + 374761393)), (5, .int (nI (i + k))), (4, .int (nI (i + k / 16 * 16))), (0, .ref b1), (1, .int (nI i)), (2, .int (nI k)), (3, .int sd)] := by rw [← eq9]; exact hl
    have eq9 : ((sd + 374761393) : Int32) = (hbase f i k sd) := by unfold hbase; rw [if_neg (by omega)]
    have hl : lv_has ls 11 [(6, .int (hbase f i k sd)), (5, .int (nI (i + k))), (4, .int (nI (i + k / 16 * 16))), (0, .ref b1), (1, .int (nI i)), (2, .int (nI k)), (3, .int sd)] := by rw [← eq9]; exact hl
    exact hG2 _ _ _ (jn    _ _ (hP.sub [0] rfl) (hD.sub [0] (by decide) rfl) hS ls (lv_sub hl [3, 5, 1, 0, 2] rfl))
  · refine lv_iload_n hx hb dX8_hashOf_20 rfl (lv_at hl 6 rfl) ?_
    refine lv_ldc (v := (-1640531535)) hx hb hown (hts (.constant RX8 63 (-1640531535)) (by decide +kernel)) dX8_hashOf_21 ?_
    refine lv_iadd hx hb dX8_hashOf_23 ?_
    refine lv_ldc (v := (-2048144777)) hx hb hown (hts (.constant RX8 58 (-2048144777)) (by decide +kernel)) dX8_hashOf_24 ?_
    refine lv_iadd hx hb dX8_hashOf_26 ?_
    refine lv_istore (lv' := [(7, .int ((sd + (-1640531535)) + (-2048144777))), (6, .int (sd + 374761393)), (5, .int (nI (i + k))), (4, .int (nI i)), (0, .ref b1), (1, .int (nI i)), (2, .int (nI k)), (3, .int sd)]) hx hb dX8_hashOf_27 hl (by decide) rfl (fun ls hl => ?_)
    refine lv_iload_n hx hb dX8_hashOf_29 rfl (lv_at hl 7 rfl) ?_
    refine lv_ldc (v := (-2048144777)) hx hb hown (hts (.constant RX8 58 (-2048144777)) (by decide +kernel)) dX8_hashOf_30 ?_
    refine lv_iadd hx hb dX8_hashOf_32 ?_
    refine lv_istore (lv' := [(8, .int (sd + (-2048144777))), (7, .int ((sd + (-1640531535)) + (-2048144777))), (6, .int (sd + 374761393)), (5, .int (nI (i + k))), (4, .int (nI i)), (0, .ref b1), (1, .int (nI i)), (2, .int (nI k)), (3, .int sd)]) hx hb dX8_hashOf_33 hl (by decide) rfl (fun ls hl => ?_)
    refine lv_iload_n hx hb dX8_hashOf_35 rfl (lv_at hl 8 rfl) ?_
    refine lv_istore (lv' := [(9, .int sd), (8, .int (sd + (-2048144777))), (7, .int ((sd + (-1640531535)) + (-2048144777))), (6, .int (sd + 374761393)), (5, .int (nI (i + k))), (4, .int (nI i)), (0, .ref b1), (1, .int (nI i)), (2, .int (nI k)), (3, .int sd)]) hx hb dX8_hashOf_36 hl (by decide) rfl (fun ls hl => ?_)
    refine lv_iload_n hx hb dX8_hashOf_38 rfl (lv_at hl 9 rfl) ?_
    refine lv_ldc (v := (-1640531535)) hx hb hown (hts (.constant RX8 63 (-1640531535)) (by decide +kernel)) dX8_hashOf_39 ?_
    refine lv_isub hx hb dX8_hashOf_41 ?_
    refine lv_istore (lv' := [(10, .int (sd - (-1640531535))), (9, .int sd), (8, .int (sd + (-2048144777))), (7, .int ((sd + (-1640531535)) + (-2048144777))), (6, .int (sd + 374761393)), (5, .int (nI (i + k))), (4, .int (nI i)), (0, .ref b1), (1, .int (nI i)), (2, .int (nI k)), (3, .int sd)]) hx hb dX8_hashOf_42 hl (by decide) rfl (fun ls hl => ?_)
    have lr : ∀ (kf : Nat) (t : Nat) (ht : t ≤ k / 16) (hk : 16 ≤ k), k / 16 - t < kf → ∀ (H : Heap) (locs : List Loc), va_P (dC, dI) vwCl [(b1, .inl (kB, cap, .inl f))] H → va_D A [(b1, .inl (kB, cap, .inl f))] → va_S A s.heap H locs → ∀ (ls : Array Slot), lv_has ls 11 [(0, .ref b1), (2, .int (nI k)), (5, .int (nI (i + k))), (7, .int ((six f i sd t).1)), (8, .int ((six f i sd t).2.1)), (9, .int ((six f i sd t).2.2.1)), (10, .int ((six f i sd t).2.2.2)), (4, .int (nI (i + 16 * t))), (6, .int (sd + 374761393))] → GG H locs (F0 m 44 ls []) := by
      intro kf
      induction kf with
      | zero => intro t ht hk hm; exact absurd hm (Nat.not_lt_zero _)
      | succ kf ih =>
        intro t ht hk hm H locs hP hD hS ls hl
        apply hG1
        refine lv_iload hx hb dX8_hashOf_44 (lv_at hl 2 rfl) ?_
        refine lv_iload hx hb dX8_hashOf_46 (lv_at hl 7 rfl) ?_
        refine lv_isub hx hb dX8_hashOf_48 ?_
        refine lv_bipush (v := 16) hx hb dX8_hashOf_49 (by decide) ?_
        refine zb_icmp_lt (tgt := 120) (a := (((i + k : Nat) : Int) - ((i + 16 * t : Nat) : Int))) (b := 16) hx hb dX8_hashOf_51 (by decide) (zi_sub (nI_toInt (by omega)) (nI_toInt (by omega)) (by omega) (by omega)) (by decide) (fun c51 => ?_) (fun c51 => ?_)
        · have et9 : k / 16 = t := by omega
          subst et9
          refine lv_iload hx hb dX8_hashOf_120 (lv_at hl 3 rfl) ?_
          refine lv_iconst (v := 1) hx hb dX8_hashOf_122 (by decide) ?_
          refine z_calli (wr := [(b1, .inl (kB, cap, .inl f))]) (va_runS (As := [.int ((six f i sd (k / 16)).1), .int 1]) (rest := []) ⟨hx, hb, hml, hown, hts⟩ (c_Mod_turned l dC dI kB kI ((six f i sd (k / 16)).1) 1  H.size) (va_cwS 2 hts gX8_hashOf_X8_turned rfl rfl rfl (by decide +kernel) ⟨Nat.le_of_ble_eq_true rfl, Nat.le_of_ble_eq_true rfl⟩) (z_preS hK (hP.sub [] rfl) (hD.sub [] (by decide) rfl)) rfl rfl hl.1 rfl (lv_room (Nat.le_of_ble_eq_true rfl)) dX8_hashOf_123 ⟨Nat.le_of_ble_eq_true rfl, Nat.le_of_ble_eq_true rfl⟩) hK hP hD hS hA [] [0] rfl rfl (by decide) (by decide) (fun r7 uq8 H locs hw hP hD hS => ?_)
          replace hw : r7 = shl ((six f i sd (k / 16)).1) 1 ||| ushr ((six f i sd (k / 16)).1) (32 - 1) := hw
          have hP : va_P (dC, dI) vwCl [(b1, .inl (kB, cap, .inl f))] H := hP
          have hD : va_D A [(b1, .inl (kB, cap, .inl f))] := hD
          rw [show (32 : Int32) - 1 = 31 from by decide] at hw
          subst hw
          refine lv_iload hx hb dX8_hashOf_126 (lv_at hl 4 rfl) ?_
          refine lv_bipush (v := 7) hx hb dX8_hashOf_128 (by decide) ?_
          refine z_calli (wr := [(b1, .inl (kB, cap, .inl f))]) (va_runS (As := [.int ((six f i sd (k / 16)).2.1), .int 7]) (rest := [.int (rotl ((six f i sd (k / 16)).1) 1 31)]) ⟨hx, hb, hml, hown, hts⟩ (c_Mod_turned l dC dI kB kI ((six f i sd (k / 16)).2.1) 7  H.size) (va_cwS 2 hts gX8_hashOf_X8_turned rfl rfl rfl (by decide +kernel) ⟨Nat.le_of_ble_eq_true rfl, Nat.le_of_ble_eq_true rfl⟩) (z_preS hK (hP.sub [] rfl) (hD.sub [] (by decide) rfl)) rfl rfl hl.1 rfl (lv_room (Nat.le_of_ble_eq_true rfl)) dX8_hashOf_130 ⟨Nat.le_of_ble_eq_true rfl, Nat.le_of_ble_eq_true rfl⟩) hK hP hD hS hA [] [0] rfl rfl (by decide) (by decide) (fun r9 uq10 H locs hw hP hD hS => ?_)
          replace hw : r9 = shl ((six f i sd (k / 16)).2.1) 7 ||| ushr ((six f i sd (k / 16)).2.1) (32 - 7) := hw
          have hP : va_P (dC, dI) vwCl [(b1, .inl (kB, cap, .inl f))] H := hP
          have hD : va_D A [(b1, .inl (kB, cap, .inl f))] := hD
          rw [show (32 : Int32) - 7 = 25 from by decide] at hw
          subst hw
          refine lv_iadd hx hb dX8_hashOf_133 ?_
          refine lv_iload hx hb dX8_hashOf_134 (lv_at hl 5 rfl) ?_
          refine lv_bipush (v := 12) hx hb dX8_hashOf_136 (by decide) ?_
          refine z_calli (wr := [(b1, .inl (kB, cap, .inl f))]) (va_runS (As := [.int ((six f i sd (k / 16)).2.2.1), .int 12]) (rest := [.int ((rotl ((six f i sd (k / 16)).1) 1 31) + (rotl ((six f i sd (k / 16)).2.1) 7 25))]) ⟨hx, hb, hml, hown, hts⟩ (c_Mod_turned l dC dI kB kI ((six f i sd (k / 16)).2.2.1) 12  H.size) (va_cwS 2 hts gX8_hashOf_X8_turned rfl rfl rfl (by decide +kernel) ⟨Nat.le_of_ble_eq_true rfl, Nat.le_of_ble_eq_true rfl⟩) (z_preS hK (hP.sub [] rfl) (hD.sub [] (by decide) rfl)) rfl rfl hl.1 rfl (lv_room (Nat.le_of_ble_eq_true rfl)) dX8_hashOf_138 ⟨Nat.le_of_ble_eq_true rfl, Nat.le_of_ble_eq_true rfl⟩) hK hP hD hS hA [] [0] rfl rfl (by decide) (by decide) (fun r11 uq12 H locs hw hP hD hS => ?_)
          replace hw : r11 = shl ((six f i sd (k / 16)).2.2.1) 12 ||| ushr ((six f i sd (k / 16)).2.2.1) (32 - 12) := hw
          have hP : va_P (dC, dI) vwCl [(b1, .inl (kB, cap, .inl f))] H := hP
          have hD : va_D A [(b1, .inl (kB, cap, .inl f))] := hD
          rw [show (32 : Int32) - 12 = 20 from by decide] at hw
          subst hw
          refine lv_iadd hx hb dX8_hashOf_141 ?_
          refine lv_iload hx hb dX8_hashOf_142 (lv_at hl 6 rfl) ?_
          refine lv_bipush (v := 18) hx hb dX8_hashOf_144 (by decide) ?_
          refine z_calli (wr := [(b1, .inl (kB, cap, .inl f))]) (va_runS (As := [.int ((six f i sd (k / 16)).2.2.2), .int 18]) (rest := [.int (((rotl ((six f i sd (k / 16)).1) 1 31) + (rotl ((six f i sd (k / 16)).2.1) 7 25)) + (rotl ((six f i sd (k / 16)).2.2.1) 12 20))]) ⟨hx, hb, hml, hown, hts⟩ (c_Mod_turned l dC dI kB kI ((six f i sd (k / 16)).2.2.2) 18  H.size) (va_cwS 2 hts gX8_hashOf_X8_turned rfl rfl rfl (by decide +kernel) ⟨Nat.le_of_ble_eq_true rfl, Nat.le_of_ble_eq_true rfl⟩) (z_preS hK (hP.sub [] rfl) (hD.sub [] (by decide) rfl)) rfl rfl hl.1 rfl (lv_room (Nat.le_of_ble_eq_true rfl)) dX8_hashOf_146 ⟨Nat.le_of_ble_eq_true rfl, Nat.le_of_ble_eq_true rfl⟩) hK hP hD hS hA [] [0] rfl rfl (by decide) (by decide) (fun r13 uq14 H locs hw hP hD hS => ?_)
          replace hw : r13 = shl ((six f i sd (k / 16)).2.2.2) 18 ||| ushr ((six f i sd (k / 16)).2.2.2) (32 - 18) := hw
          have hP : va_P (dC, dI) vwCl [(b1, .inl (kB, cap, .inl f))] H := hP
          have hD : va_D A [(b1, .inl (kB, cap, .inl f))] := hD
          rw [show (32 : Int32) - 18 = 14 from by decide] at hw
          subst hw
          refine lv_iadd hx hb dX8_hashOf_149 ?_
          refine lv_istore (lv' := [(6, .int ((((rotl ((six f i sd (k / 16)).1) 1 31) + (rotl ((six f i sd (k / 16)).2.1) 7 25)) + (rotl ((six f i sd (k / 16)).2.2.1) 12 20)) + (rotl ((six f i sd (k / 16)).2.2.2) 18 14))), (0, .ref b1), (2, .int (nI k)), (5, .int (nI (i + k))), (7, .int ((six f i sd (k / 16)).1)), (8, .int ((six f i sd (k / 16)).2.1)), (9, .int ((six f i sd (k / 16)).2.2.1)), (10, .int ((six f i sd (k / 16)).2.2.2)), (4, .int (nI (i + 16 * (k / 16))))]) hx hb dX8_hashOf_150 hl (by decide) rfl (fun ls hl => ?_)
          have eq9 : (((((rotl ((six f i sd (k / 16)).1) 1 31) + (rotl ((six f i sd (k / 16)).2.1) 7 25)) + (rotl ((six f i sd (k / 16)).2.2.1) 12 20)) + (rotl ((six f i sd (k / 16)).2.2.2) 18 14)) : Int32) = (hbase f i k sd) := by unfold hbase; rw [if_pos (by omega)]; rfl
          have hl : lv_has ls 11 [(6, .int (hbase f i k sd)), (0, .ref b1), (2, .int (nI k)), (5, .int (nI (i + k))), (7, .int ((six f i sd (k / 16)).1)), (8, .int ((six f i sd (k / 16)).2.1)), (9, .int ((six f i sd (k / 16)).2.2.1)), (10, .int ((six f i sd (k / 16)).2.2.2)), (4, .int (nI (i + 16 * (k / 16))))] := by rw [← eq9]; exact hl
          have eq9 : ((nI (i + 16 * (k / 16))) : Int32) = (nI (i + k / 16 * 16)) := congrArg nI (by omega)
          have hl : lv_has ls 11 [(6, .int (hbase f i k sd)), (0, .ref b1), (2, .int (nI k)), (5, .int (nI (i + k))), (7, .int ((six f i sd (k / 16)).1)), (8, .int ((six f i sd (k / 16)).2.1)), (9, .int ((six f i sd (k / 16)).2.2.1)), (10, .int ((six f i sd (k / 16)).2.2.2)), (4, .int (nI (i + k / 16 * 16)))] := by rw [← eq9]; exact hl
          exact hG2 _ _ _ (jn    _ _ (hP.sub [0] rfl) (hD.sub [0] (by decide) rfl) hS ls (lv_sub hl [1, 2, 3, 0, 8] rfl))
        · refine lv_iload hx hb dX8_hashOf_54 (lv_at hl 3 rfl) ?_
          refine lv_aload_n hx hb dX8_hashOf_56 rfl (lv_at hl 0 rfl) ?_
          refine lv_iload hx hb dX8_hashOf_57 (lv_at hl 7 rfl) ?_
          refine z_calli (wr := []) (va_runS (As := [.ref b1, .int (nI (i + 16 * t))]) (rest := [.int ((six f i sd t).1)]) ⟨hx, hb, hml, hown, hts⟩ (c_Mod_word l dC dI kB kI b1 cap f (i + 16 * t) (by omega) (by omega) H.size) (va_cwS 2 hts gX8_hashOf_X8_word rfl rfl rfl (by decide +kernel) ⟨Nat.le_of_ble_eq_true rfl, Nat.le_of_ble_eq_true rfl⟩) (z_preS hK (hP.sub [0] rfl) (hD.sub [0] (by decide) rfl)) rfl rfl hl.1 rfl (lv_room (Nat.le_of_ble_eq_true rfl)) dX8_hashOf_59 ⟨Nat.le_of_ble_eq_true rfl, Nat.le_of_ble_eq_true rfl⟩) hK hP hD hS hA [0] [] rfl rfl (by decide) (by decide) (fun r15 uq16 H locs hw hP hD hS => ?_)
          replace hw : r15 = wd f (i + 16 * t) := hw
          have hP : va_P (dC, dI) vwCl [(b1, .inl (kB, cap, .inl f))] H := hP
          have hD : va_D A [(b1, .inl (kB, cap, .inl f))] := hD
          subst hw
          refine z_calli (wr := [(b1, .inl (kB, cap, .inl f))]) (va_runS (As := [.int ((six f i sd t).1), .int (wd f (i + 16 * t))]) (rest := []) ⟨hx, hb, hml, hown, hts⟩ (c_Mod_round l dC dI kB kI ((six f i sd t).1) (wd f (i + 16 * t))  H.size) (va_cwS 2 hts gX8_hashOf_X8_round rfl rfl rfl (by decide +kernel) ⟨Nat.le_of_ble_eq_true rfl, Nat.le_of_ble_eq_true rfl⟩) (z_preS hK (hP.sub [] rfl) (hD.sub [] (by decide) rfl)) rfl rfl hl.1 rfl (lv_room (Nat.le_of_ble_eq_true rfl)) dX8_hashOf_62 ⟨Nat.le_of_ble_eq_true rfl, Nat.le_of_ble_eq_true rfl⟩) hK hP hD hS hA [] [0] rfl rfl (by decide) (by decide) (fun r17 uq18 H locs hw hP hD hS => ?_)
          replace hw : r17 = rndF ((six f i sd t).1) (wd f (i + 16 * t)) := hw
          have hP : va_P (dC, dI) vwCl [(b1, .inl (kB, cap, .inl f))] H := hP
          have hD : va_D A [(b1, .inl (kB, cap, .inl f))] := hD
          subst hw
          refine lv_istore (lv' := [(7, .int (rndF ((six f i sd t).1) (wd f (i + 16 * t)))), (0, .ref b1), (2, .int (nI k)), (5, .int (nI (i + k))), (8, .int ((six f i sd t).2.1)), (9, .int ((six f i sd t).2.2.1)), (10, .int ((six f i sd t).2.2.2)), (4, .int (nI (i + 16 * t))), (6, .int (sd + 374761393))]) hx hb dX8_hashOf_65 hl (by decide) rfl (fun ls hl => ?_)
          refine lv_iload hx hb dX8_hashOf_67 (lv_at hl 4 rfl) ?_
          refine lv_aload_n hx hb dX8_hashOf_69 rfl (lv_at hl 1 rfl) ?_
          refine lv_iload hx hb dX8_hashOf_70 (lv_at hl 7 rfl) ?_
          refine lv_iconst (v := 4) hx hb dX8_hashOf_72 (by decide) ?_
          refine lv_iadd hx hb dX8_hashOf_73 ?_
          refine lv_is (y := (nI ((i + 16 * t) + 4))) ((zn_add rfl (show (4 : Int32) = nI 4 from rfl))) ?_
          refine z_calli (wr := []) (va_runS (As := [.ref b1, .int (nI ((i + 16 * t) + 4))]) (rest := [.int ((six f i sd t).2.1)]) ⟨hx, hb, hml, hown, hts⟩ (c_Mod_word l dC dI kB kI b1 cap f ((i + 16 * t) + 4) (by omega) (by omega) H.size) (va_cwS 2 hts gX8_hashOf_X8_word rfl rfl rfl (by decide +kernel) ⟨Nat.le_of_ble_eq_true rfl, Nat.le_of_ble_eq_true rfl⟩) (z_preS hK (hP.sub [0] rfl) (hD.sub [0] (by decide) rfl)) rfl rfl hl.1 rfl (lv_room (Nat.le_of_ble_eq_true rfl)) dX8_hashOf_74 ⟨Nat.le_of_ble_eq_true rfl, Nat.le_of_ble_eq_true rfl⟩) hK hP hD hS hA [0] [] rfl rfl (by decide) (by decide) (fun r19 uq20 H locs hw hP hD hS => ?_)
          replace hw : r19 = wd f ((i + 16 * t) + 4) := hw
          have hP : va_P (dC, dI) vwCl [(b1, .inl (kB, cap, .inl f))] H := hP
          have hD : va_D A [(b1, .inl (kB, cap, .inl f))] := hD
          subst hw
          refine z_calli (wr := [(b1, .inl (kB, cap, .inl f))]) (va_runS (As := [.int ((six f i sd t).2.1), .int (wd f (i + 16 * t + 4))]) (rest := []) ⟨hx, hb, hml, hown, hts⟩ (c_Mod_round l dC dI kB kI ((six f i sd t).2.1) (wd f (i + 16 * t + 4))  H.size) (va_cwS 2 hts gX8_hashOf_X8_round rfl rfl rfl (by decide +kernel) ⟨Nat.le_of_ble_eq_true rfl, Nat.le_of_ble_eq_true rfl⟩) (z_preS hK (hP.sub [] rfl) (hD.sub [] (by decide) rfl)) rfl rfl hl.1 rfl (lv_room (Nat.le_of_ble_eq_true rfl)) dX8_hashOf_77 ⟨Nat.le_of_ble_eq_true rfl, Nat.le_of_ble_eq_true rfl⟩) hK hP hD hS hA [] [0] rfl rfl (by decide) (by decide) (fun r21 uq22 H locs hw hP hD hS => ?_)
          replace hw : r21 = rndF ((six f i sd t).2.1) (wd f (i + 16 * t + 4)) := hw
          have hP : va_P (dC, dI) vwCl [(b1, .inl (kB, cap, .inl f))] H := hP
          have hD : va_D A [(b1, .inl (kB, cap, .inl f))] := hD
          subst hw
          refine lv_istore (lv' := [(8, .int (rndF ((six f i sd t).2.1) (wd f (i + 16 * t + 4)))), (7, .int (rndF ((six f i sd t).1) (wd f (i + 16 * t)))), (0, .ref b1), (2, .int (nI k)), (5, .int (nI (i + k))), (9, .int ((six f i sd t).2.2.1)), (10, .int ((six f i sd t).2.2.2)), (4, .int (nI (i + 16 * t))), (6, .int (sd + 374761393))]) hx hb dX8_hashOf_80 hl (by decide) rfl (fun ls hl => ?_)
          refine lv_iload hx hb dX8_hashOf_82 (lv_at hl 5 rfl) ?_
          refine lv_aload_n hx hb dX8_hashOf_84 rfl (lv_at hl 2 rfl) ?_
          refine lv_iload hx hb dX8_hashOf_85 (lv_at hl 7 rfl) ?_
          refine lv_bipush (v := 8) hx hb dX8_hashOf_87 (by decide) ?_
          refine lv_iadd hx hb dX8_hashOf_89 ?_
          refine lv_is (y := (nI ((i + 16 * t) + 8))) ((zn_add rfl (show (8 : Int32) = nI 8 from rfl))) ?_
          refine z_calli (wr := []) (va_runS (As := [.ref b1, .int (nI ((i + 16 * t) + 8))]) (rest := [.int ((six f i sd t).2.2.1)]) ⟨hx, hb, hml, hown, hts⟩ (c_Mod_word l dC dI kB kI b1 cap f ((i + 16 * t) + 8) (by omega) (by omega) H.size) (va_cwS 2 hts gX8_hashOf_X8_word rfl rfl rfl (by decide +kernel) ⟨Nat.le_of_ble_eq_true rfl, Nat.le_of_ble_eq_true rfl⟩) (z_preS hK (hP.sub [0] rfl) (hD.sub [0] (by decide) rfl)) rfl rfl hl.1 rfl (lv_room (Nat.le_of_ble_eq_true rfl)) dX8_hashOf_90 ⟨Nat.le_of_ble_eq_true rfl, Nat.le_of_ble_eq_true rfl⟩) hK hP hD hS hA [0] [] rfl rfl (by decide) (by decide) (fun r23 uq24 H locs hw hP hD hS => ?_)
          replace hw : r23 = wd f ((i + 16 * t) + 8) := hw
          have hP : va_P (dC, dI) vwCl [(b1, .inl (kB, cap, .inl f))] H := hP
          have hD : va_D A [(b1, .inl (kB, cap, .inl f))] := hD
          subst hw
          refine z_calli (wr := [(b1, .inl (kB, cap, .inl f))]) (va_runS (As := [.int ((six f i sd t).2.2.1), .int (wd f (i + 16 * t + 8))]) (rest := []) ⟨hx, hb, hml, hown, hts⟩ (c_Mod_round l dC dI kB kI ((six f i sd t).2.2.1) (wd f (i + 16 * t + 8))  H.size) (va_cwS 2 hts gX8_hashOf_X8_round rfl rfl rfl (by decide +kernel) ⟨Nat.le_of_ble_eq_true rfl, Nat.le_of_ble_eq_true rfl⟩) (z_preS hK (hP.sub [] rfl) (hD.sub [] (by decide) rfl)) rfl rfl hl.1 rfl (lv_room (Nat.le_of_ble_eq_true rfl)) dX8_hashOf_93 ⟨Nat.le_of_ble_eq_true rfl, Nat.le_of_ble_eq_true rfl⟩) hK hP hD hS hA [] [0] rfl rfl (by decide) (by decide) (fun r25 uq26 H locs hw hP hD hS => ?_)
          replace hw : r25 = rndF ((six f i sd t).2.2.1) (wd f (i + 16 * t + 8)) := hw
          have hP : va_P (dC, dI) vwCl [(b1, .inl (kB, cap, .inl f))] H := hP
          have hD : va_D A [(b1, .inl (kB, cap, .inl f))] := hD
          subst hw
          refine lv_istore (lv' := [(9, .int (rndF ((six f i sd t).2.2.1) (wd f (i + 16 * t + 8)))), (8, .int (rndF ((six f i sd t).2.1) (wd f (i + 16 * t + 4)))), (7, .int (rndF ((six f i sd t).1) (wd f (i + 16 * t)))), (0, .ref b1), (2, .int (nI k)), (5, .int (nI (i + k))), (10, .int ((six f i sd t).2.2.2)), (4, .int (nI (i + 16 * t))), (6, .int (sd + 374761393))]) hx hb dX8_hashOf_96 hl (by decide) rfl (fun ls hl => ?_)
          refine lv_iload hx hb dX8_hashOf_98 (lv_at hl 6 rfl) ?_
          refine lv_aload_n hx hb dX8_hashOf_100 rfl (lv_at hl 3 rfl) ?_
          refine lv_iload hx hb dX8_hashOf_101 (lv_at hl 7 rfl) ?_
          refine lv_bipush (v := 12) hx hb dX8_hashOf_103 (by decide) ?_
          refine lv_iadd hx hb dX8_hashOf_105 ?_
          refine lv_is (y := (nI ((i + 16 * t) + 12))) ((zn_add rfl (show (12 : Int32) = nI 12 from rfl))) ?_
          refine z_calli (wr := []) (va_runS (As := [.ref b1, .int (nI ((i + 16 * t) + 12))]) (rest := [.int ((six f i sd t).2.2.2)]) ⟨hx, hb, hml, hown, hts⟩ (c_Mod_word l dC dI kB kI b1 cap f ((i + 16 * t) + 12) (by omega) (by omega) H.size) (va_cwS 2 hts gX8_hashOf_X8_word rfl rfl rfl (by decide +kernel) ⟨Nat.le_of_ble_eq_true rfl, Nat.le_of_ble_eq_true rfl⟩) (z_preS hK (hP.sub [0] rfl) (hD.sub [0] (by decide) rfl)) rfl rfl hl.1 rfl (lv_room (Nat.le_of_ble_eq_true rfl)) dX8_hashOf_106 ⟨Nat.le_of_ble_eq_true rfl, Nat.le_of_ble_eq_true rfl⟩) hK hP hD hS hA [0] [] rfl rfl (by decide) (by decide) (fun r27 uq28 H locs hw hP hD hS => ?_)
          replace hw : r27 = wd f ((i + 16 * t) + 12) := hw
          have hP : va_P (dC, dI) vwCl [(b1, .inl (kB, cap, .inl f))] H := hP
          have hD : va_D A [(b1, .inl (kB, cap, .inl f))] := hD
          subst hw
          refine z_calli (wr := [(b1, .inl (kB, cap, .inl f))]) (va_runS (As := [.int ((six f i sd t).2.2.2), .int (wd f (i + 16 * t + 12))]) (rest := []) ⟨hx, hb, hml, hown, hts⟩ (c_Mod_round l dC dI kB kI ((six f i sd t).2.2.2) (wd f (i + 16 * t + 12))  H.size) (va_cwS 2 hts gX8_hashOf_X8_round rfl rfl rfl (by decide +kernel) ⟨Nat.le_of_ble_eq_true rfl, Nat.le_of_ble_eq_true rfl⟩) (z_preS hK (hP.sub [] rfl) (hD.sub [] (by decide) rfl)) rfl rfl hl.1 rfl (lv_room (Nat.le_of_ble_eq_true rfl)) dX8_hashOf_109 ⟨Nat.le_of_ble_eq_true rfl, Nat.le_of_ble_eq_true rfl⟩) hK hP hD hS hA [] [0] rfl rfl (by decide) (by decide) (fun r29 uq30 H locs hw hP hD hS => ?_)
          replace hw : r29 = rndF ((six f i sd t).2.2.2) (wd f (i + 16 * t + 12)) := hw
          have hP : va_P (dC, dI) vwCl [(b1, .inl (kB, cap, .inl f))] H := hP
          have hD : va_D A [(b1, .inl (kB, cap, .inl f))] := hD
          subst hw
          refine lv_istore (lv' := [(10, .int (rndF ((six f i sd t).2.2.2) (wd f (i + 16 * t + 12)))), (9, .int (rndF ((six f i sd t).2.2.1) (wd f (i + 16 * t + 8)))), (8, .int (rndF ((six f i sd t).2.1) (wd f (i + 16 * t + 4)))), (7, .int (rndF ((six f i sd t).1) (wd f (i + 16 * t)))), (0, .ref b1), (2, .int (nI k)), (5, .int (nI (i + k))), (4, .int (nI (i + 16 * t))), (6, .int (sd + 374761393))]) hx hb dX8_hashOf_112 hl (by decide) rfl (fun ls hl => ?_)
          refine lv_iinc (v := (nI ((i + 16 * t) + 16))) (lv' := [(4, .int (nI ((i + 16 * t) + 16))), (10, .int (rndF ((six f i sd t).2.2.2) (wd f (i + 16 * t + 12)))), (9, .int (rndF ((six f i sd t).2.2.1) (wd f (i + 16 * t + 8)))), (8, .int (rndF ((six f i sd t).2.1) (wd f (i + 16 * t + 4)))), (7, .int (rndF ((six f i sd t).1) (wd f (i + 16 * t)))), (0, .ref b1), (2, .int (nI k)), (5, .int (nI (i + k))), (6, .int (sd + 374761393))]) hx hb dX8_hashOf_114 hl (k := 7) rfl (zn_inc (i + 16 * t) 16 (by decide)) (by decide) rfl (fun ls hl => ?_)
          refine lv_goto (tgt := 44) hx hb dX8_hashOf_117 (by decide) ?_
          exact hG2 _ _ _ (ih (t + 1) (by omega) (by omega) (by omega) _ _ (hP.sub [0] rfl) (hD.sub [0] (by decide) rfl) hS ls (lv_sub hl [5, 6, 7, 4, 3, 2, 1, 0, 8] rfl))
    exact hG2 _ _ _ (lr (k / 16 - 0 + 1) 0 (by omega) (by omega) (Nat.lt_succ_self _) _ _ (hP.sub [0] rfl) (hD.sub [0] (by decide) rfl) hS ls (lv_sub hl [7, 9, 5, 3, 2, 1, 0, 6, 4] rfl))
