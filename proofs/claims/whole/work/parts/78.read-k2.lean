set_option maxHeartbeats 4000000 in
set_option maxRecDepth 100000 in
theorem c_Frd_readEnd (l : Launch) (dC : Nat → ClassId) (dI : Nat → Nat → Nat) (kB kI : ClassId) (d0 : Nat) (g0 : Nat) (e0 : Nat) (f0 : Nat) (k0 : Nat) (d5 : Int32) (d8 : Int32) (d9 : Int64) (d11 : Int32) (x1 : Int32) (x2 : Int32) (g1 : Nat) (e1 : Nat) (f : Nat → Int32) (oo : Nat → Int32) (n : Nat) (aa : Nat) (zz : Nat) (fb : Nat) (fl : Nat) (tol : Nat) (fr : Nat) (hn : n ≤ 150000) (ha : aa + 4 ≤ n) (hfl : fl < 256) (hfb : fb ≤ zz) (hz : zz ≤ 140000) (htol : fl / 8 % 2 = 1 → d9 = lN tol) (htl : tol < 2 ^ 64) : zMi l yX2_readEnd wsX2_readEnd ({ frames := 4, cells := 0, slots := 0, locals := 103 }) (dC, dI) kB kI [.ref d0] [(d0, .inr (2, [.ref g0, .ref e0, .ref f0, .ref k0, .int (nI aa), .int d5, .int (nI fb), .int (nI fl), .int d8, .long d9, .int (nI fr), .int d11])), (f0, .inr (1, [.int x1, .int x2])), (g0, .inr (5, [.ref g1, .int (nI n)])), (g1, .inl (kB, 150000, .inl f)), (e0, .inr (5, [.ref e1, .int (nI zz)])), (e1, .inl (kB, 140000, .inl oo))] 0 0 (fun (r : Int32) => fun uu : Nat × Int32 × Nat × Int32 × Int32 => (∃ w : Nat, endR f n fl tol fb aa zz oo = .inr w ∧ r = 1 ∧ uu.1 = w ∧ uu.2.1 = 0 ∧ uu.2.2.1 = fr + 1 ∧ uu.2.2.2.1 = x1 ∧ uu.2.2.2.2 = x2 ∧ aa + 4 ≤ w ∧ w ≤ n) ∨ (∃ w y : Nat, endR f n fl tol fb aa zz oo = .inl (w, y) ∧ r = 0 ∧ uu.2.2.2.1 = nI w ∧ uu.2.2.2.2 = nI y)) (fun uu : Nat × Int32 × Nat × Int32 × Int32 => [(d0, .inr (2, [.ref g0, .ref e0, .ref f0, .ref k0, .int (nI uu.1), .int uu.2.1, .int (nI fb), .int (nI fl), .int d8, .long d9, .int (nI uu.2.2.1), .int d11])), (f0, .inr (1, [.int uu.2.2.2.1, .int uu.2.2.2.2])), (g0, .inr (5, [.ref g1, .int (nI n)])), (g1, .inl (kB, 150000, .inl f)), (e0, .inr (5, [.ref e1, .int (nI zz)])), (e1, .inl (kB, 140000, .inl oo))]) := by
  intro sz
  refine Met.ofW (cc := cX2_readEnd) (maxL := 2) (ret := (some .boolean)) (by decide) rfl ?_
  intro p e s m args below meth c s₁ B hml hv
  obtain ⟨rfl, hsz, hP, hK, hD0⟩ := hv
  have hx := B.exec
  have hb := B.bytes
  have hr := B.returns
  have hts := atoms_spec (ws := wsX2_readEnd) B.pre
  have hown : s.vm.findClass RX2 = some m.cls := findClass_of_methodNamed B.named
  have hlocks := B.notSynchronized
  subst hsz
  have hD := hD0.self (sz := s.heap.size)
  generalize hAe : va_A [(d0, .inr (2, [.ref g0, .ref e0, .ref f0, .ref k0, .int (nI aa), .int d5, .int (nI fb), .int (nI fl), .int d8, .long d9, .int (nI fr), .int d11])), (f0, .inr (1, [.int x1, .int x2])), (g0, .inr (5, [.ref g1, .int (nI n)])), (g1, .inl (kB, 150000, .inl f)), (e0, .inr (5, [.ref e1, .int (nI zz)])), (e1, .inl (kB, 140000, .inl oo))] s.heap.size = A at hD ⊢
  have hA : ∀ q : Nat, s.heap.size ≤ q → A q := fun q h => by rw [← hAe]; exact Or.inr h
  have hS : va_S A s.heap s.heap [] := va_S.rf
  have hP : va_P (dC, dI) vwCl [(d0, .inr (2, [.ref g0, .ref e0, .ref f0, .ref k0, .int (nI aa), .int d5, .int (nI fb), .int (nI fl), .int d8, .long d9, .int (nI fr), .int d11])), (f0, .inr (1, [.int x1, .int x2])), (g0, .inr (5, [.ref g1, .int (nI n)])), (g1, .inl (kB, 150000, .inl f)), (e0, .inr (5, [.ref e1, .int (nI zz)])), (e1, .inl (kB, 140000, .inl oo))] s.heap := hP
  have hl := lv_entry ([.ref d0]) (n := 2) (Nat.le_of_ble_eq_true rfl)
  rw [lg_entry_eq]
  generalize (lg_sl ([.ref d0]) ++ List.replicate (2 - (lg_sl ([.ref d0])).length) Slot.unset).toArray = ls at hl ⊢
  have hl : lv_has ls 2 [(0, .ref d0)] := hl
  refine zG (fun GG hG1 hG2 => ?_)
  refine lv_aload_n hx hb dX2_readEnd_0 rfl (lv_at hl 0 rfl) ?_
  refine va_get (D := (dC, dI)) (ci := 2) (v := .ref e0) (C := RX2) (T := TX2) (N := 12) hx hb hts (by decide +kernel) hown hK hP 0 rfl rfl 1 (by decide) (hts (.fieldLink RX2 15 "SequenceFrames$FrameReader" "output" "LSequenceFrames$Row;") (by decide +kernel)) (fun _ h9 => h9) rfl dX2_readEnd_1 ?_
  refine va_get (D := (dC, dI)) (ci := 5) (v := .int (nI zz)) (C := RX5) (T := TX5) (N := 2) hx hb hts (by decide +kernel) hown hK hP 4 rfl rfl 1 (by decide) (hts (.fieldLink RX2 31 "SequenceFrames$Row" "size" "I") (by decide +kernel)) (fun _ h9 => h9) rfl dX2_readEnd_4 ?_
  refine lv_aload_n hx hb dX2_readEnd_7 rfl (lv_at hl 0 rfl) ?_
  refine va_get (D := (dC, dI)) (ci := 2) (v := .int (nI fb)) (C := RX2) (T := TX2) (N := 12) hx hb hts (by decide +kernel) hown hK hP 0 rfl rfl 6 (by decide) (hts (.fieldLink RX2 102 "SequenceFrames$FrameReader" "frameStart" "I") (by decide +kernel)) (fun _ h9 => h9) rfl dX2_readEnd_8 ?_
  refine lv_isub hx hb dX2_readEnd_11 ?_
  refine lv_is (y := (nI (zz - fb))) ((zn_sub rfl rfl (by omega)).trans (congrArg nI (by omega))) ?_
  have jn : ∀  (hsz : fl / 8 % 2 = 1 → tol = zz - fb) (H : Heap) (locs : List Loc), va_P (dC, dI) vwCl [(d0, .inr (2, [.ref g0, .ref e0, .ref f0, .ref k0, .int (nI aa), .int d5, .int (nI fb), .int (nI fl), .int d8, .long d9, .int (nI fr), .int d11])), (f0, .inr (1, [.int x1, .int x2])), (g0, .inr (5, [.ref g1, .int (nI n)])), (g1, .inl (kB, 150000, .inl f)), (e0, .inr (5, [.ref e1, .int (nI zz)])), (e1, .inl (kB, 140000, .inl oo))] H → va_D A [(d0, .inr (2, [.ref g0, .ref e0, .ref f0, .ref k0, .int (nI aa), .int d5, .int (nI fb), .int (nI fl), .int d8, .long d9, .int (nI fr), .int d11])), (f0, .inr (1, [.int x1, .int x2])), (g0, .inr (5, [.ref g1, .int (nI n)])), (g1, .inl (kB, 150000, .inl f)), (e0, .inr (5, [.ref e1, .int (nI zz)])), (e1, .inl (kB, 140000, .inl oo))] → va_S A s.heap H locs → ∀ (ls : Array Slot), lv_has ls 2 [(0, .ref d0), (1, .int (nI (zz - fb)))] → GG H locs (F0 m 47 ls []) := by
    intro hsz H locs hP hD hS ls hl
    apply hG1
    have jm : ∀ (a5 : Nat) (ha5 : a5 = aa + 4 + 4 * (fl / 4 % 2)) (hn5 : a5 ≤ n) (hck : fl / 4 % 2 = 1 → wd f (aa + 4) = hashF oo fb (zz - fb) 0) (H : Heap) (locs : List Loc), va_P (dC, dI) vwCl [(d0, .inr (2, [.ref g0, .ref e0, .ref f0, .ref k0, .int (nI a5), .int d5, .int (nI fb), .int (nI fl), .int d8, .long d9, .int (nI fr), .int d11])), (f0, .inr (1, [.int x1, .int x2])), (g0, .inr (5, [.ref g1, .int (nI n)])), (g1, .inl (kB, 150000, .inl f)), (e0, .inr (5, [.ref e1, .int (nI zz)])), (e1, .inl (kB, 140000, .inl oo))] H → va_D A [(d0, .inr (2, [.ref g0, .ref e0, .ref f0, .ref k0, .int (nI a5), .int d5, .int (nI fb), .int (nI fl), .int d8, .long d9, .int (nI fr), .int d11])), (f0, .inr (1, [.int x1, .int x2])), (g0, .inr (5, [.ref g1, .int (nI n)])), (g1, .inl (kB, 150000, .inl f)), (e0, .inr (5, [.ref e1, .int (nI zz)])), (e1, .inl (kB, 140000, .inl oo))] → va_S A s.heap H locs → ∀ (ls : Array Slot), lv_has ls 2 [(0, .ref d0)] → GG H locs (F0 m 86 ls []) := by
      intro a5 ha5 hn5 hck H locs hP hD hS ls hl
      apply hG1
      refine lv_aload_n hx hb dX2_readEnd_86 rfl (lv_at hl 0 rfl) ?_
      refine lv_iconst (v := 0) hx hb dX2_readEnd_87 (by decide) ?_
      refine va_put (D := (dC, dI)) (ci := 2) (v := .int 0) (ty := .boolean) (C := RX2) (T := TX2) (N := 12) hx hb hts (by decide +kernel) tyX2 tyX2_ok nmX2 hown hK hP hD hS 0 rfl rfl 5 (by decide) (hts (.fieldLink RX2 37 "SequenceFrames$FrameReader" "inFrame" "Z") (by decide +kernel)) (fun _ h9 => h9) rfl (by decide +kernel) (by decide) (by decide) (Nat.le_of_ble_eq_true rfl) dX2_readEnd_88 (fun H locs hP hD hS => ?_)
      have hP : va_P (dC, dI) vwCl [(d0, .inr (2, [.ref g0, .ref e0, .ref f0, .ref k0, .int (nI a5), .int 0, .int (nI fb), .int (nI fl), .int d8, .long d9, .int (nI fr), .int d11])), (f0, .inr (1, [.int x1, .int x2])), (g0, .inr (5, [.ref g1, .int (nI n)])), (g1, .inl (kB, 150000, .inl f)), (e0, .inr (5, [.ref e1, .int (nI zz)])), (e1, .inl (kB, 140000, .inl oo))] H := hP
      have hD : va_D A [(d0, .inr (2, [.ref g0, .ref e0, .ref f0, .ref k0, .int (nI a5), .int 0, .int (nI fb), .int (nI fl), .int d8, .long d9, .int (nI fr), .int d11])), (f0, .inr (1, [.int x1, .int x2])), (g0, .inr (5, [.ref g1, .int (nI n)])), (g1, .inl (kB, 150000, .inl f)), (e0, .inr (5, [.ref e1, .int (nI zz)])), (e1, .inl (kB, 140000, .inl oo))] := hD
      refine lv_aload_n hx hb dX2_readEnd_91 rfl (lv_at hl 0 rfl) ?_
      refine lv_dup hx hb dX2_readEnd_92 rfl ?_
      refine va_get (D := (dC, dI)) (ci := 2) (v := .int (nI fr)) (C := RX2) (T := TX2) (N := 12) hx hb hts (by decide +kernel) hown hK hP 0 rfl rfl 10 (by decide) (hts (.fieldLink RX2 83 "SequenceFrames$FrameReader" "framesRead" "I") (by decide +kernel)) (fun _ h9 => h9) rfl dX2_readEnd_93 ?_
      refine lv_iconst (v := 1) hx hb dX2_readEnd_96 (by decide) ?_
      refine lv_iadd hx hb dX2_readEnd_97 ?_
      refine lv_is (y := (nI (fr + 1))) ((zn_add rfl (show (1 : Int32) = nI 1 from rfl))) ?_
      refine va_put (D := (dC, dI)) (ci := 2) (v := .int (nI (fr + 1))) (ty := .int) (C := RX2) (T := TX2) (N := 12) hx hb hts (by decide +kernel) tyX2 tyX2_ok nmX2 hown hK hP hD hS 0 rfl rfl 10 (by decide) (hts (.fieldLink RX2 83 "SequenceFrames$FrameReader" "framesRead" "I") (by decide +kernel)) (fun _ h9 => h9) rfl (by decide +kernel) rfl rfl (Nat.le_of_ble_eq_true rfl) dX2_readEnd_98 (fun H locs hP hD hS => ?_)
      have hP : va_P (dC, dI) vwCl [(d0, .inr (2, [.ref g0, .ref e0, .ref f0, .ref k0, .int (nI a5), .int 0, .int (nI fb), .int (nI fl), .int d8, .long d9, .int (nI (fr + 1)), .int d11])), (f0, .inr (1, [.int x1, .int x2])), (g0, .inr (5, [.ref g1, .int (nI n)])), (g1, .inl (kB, 150000, .inl f)), (e0, .inr (5, [.ref e1, .int (nI zz)])), (e1, .inl (kB, 140000, .inl oo))] H := hP
      have hD : va_D A [(d0, .inr (2, [.ref g0, .ref e0, .ref f0, .ref k0, .int (nI a5), .int 0, .int (nI fb), .int (nI fl), .int d8, .long d9, .int (nI (fr + 1)), .int d11])), (f0, .inr (1, [.int x1, .int x2])), (g0, .inr (5, [.ref g1, .int (nI n)])), (g1, .inl (kB, 150000, .inl f)), (e0, .inr (5, [.ref e1, .int (nI zz)])), (e1, .inl (kB, 140000, .inl oo))] := hD
      refine lv_iconst (v := 1) hx hb dX2_readEnd_101 (by decide) ?_
      have hP9 := hP.sub (ws' := [(d0, .inr (2, [.ref g0, .ref e0, .ref f0, .ref k0, .int (nI a5), .int 0, .int (nI fb), .int (nI fl), .int d8, .long d9, .int (nI (fr + 1)), .int d11])), (f0, .inr (1, [.int x1, .int x2])), (g0, .inr (5, [.ref g1, .int (nI n)])), (g1, .inl (kB, 150000, .inl f)), (e0, .inr (5, [.ref e1, .int (nI zz)])), (e1, .inl (kB, 140000, .inl oo))]) [0, 1, 2, 3, 4, 5] rfl
      have hD9 := hD.sub (ws' := [(d0, .inr (2, [.ref g0, .ref e0, .ref f0, .ref k0, .int (nI a5), .int 0, .int (nI fb), .int (nI fl), .int d8, .long d9, .int (nI (fr + 1)), .int d11])), (f0, .inr (1, [.int x1, .int x2])), (g0, .inr (5, [.ref g1, .int (nI n)])), (g1, .inl (kB, 150000, .inl f)), (e0, .inr (5, [.ref e1, .int (nI zz)])), (e1, .inl (kB, 140000, .inl oo))]) [0, 1, 2, 3, 4, 5] (by decide) rfl
      exact W.zret (v := 1) hx hb hr (by decide) (fun t9 ht9 hW9 => ⟨⟨1, (a5, 0, (fr + 1), x1, x2), rfl, (show (∃ w : Nat, endR f n fl tol fb aa zz oo = .inr w ∧ 1 = 1 ∧ a5 = w ∧ 0 = 0 ∧ (fr + 1) = fr + 1 ∧ x1 = x1 ∧ x2 = x2 ∧ aa + 4 ≤ w ∧ w ≤ n) ∨ (∃ w y : Nat, endR f n fl tol fb aa zz oo = .inl (w, y) ∧ 1 = 0 ∧ x1 = nI w ∧ x2 = nI y) from (Or.inl ⟨a5, by rw [ha5]; exact endR_ok hsz (by omega) hck, rfl, rfl, rfl, rfl, rfl, rfl, by omega, by omega⟩)), by rw [ht9]; exact hP9, va_K.moved hW9.alike hK, hD9⟩, hS.F ht9⟩) hS.2.2 dX2_readEnd_102
    refine lv_aload_n hx hb dX2_readEnd_47 rfl (lv_at hl 0 rfl) ?_
    refine lv_dup hx hb dX2_readEnd_48 rfl ?_
    refine va_get (D := (dC, dI)) (ci := 2) (v := .int (nI aa)) (C := RX2) (T := TX2) (N := 12) hx hb hts (by decide +kernel) hown hK hP 0 rfl rfl 4 (by decide) (hts (.fieldLink RX2 41 "SequenceFrames$FrameReader" "at" "I") (by decide +kernel)) (fun _ h9 => h9) rfl dX2_readEnd_49 ?_
    refine lv_iconst (v := 4) hx hb dX2_readEnd_52 (by decide) ?_
    refine lv_iadd hx hb dX2_readEnd_53 ?_
    refine lv_is (y := (nI (aa + 4))) ((zn_add rfl (show (4 : Int32) = nI 4 from rfl))) ?_
    refine va_put (D := (dC, dI)) (ci := 2) (v := .int (nI (aa + 4))) (ty := .int) (C := RX2) (T := TX2) (N := 12) hx hb hts (by decide +kernel) tyX2 tyX2_ok nmX2 hown hK hP hD hS 0 rfl rfl 4 (by decide) (hts (.fieldLink RX2 41 "SequenceFrames$FrameReader" "at" "I") (by decide +kernel)) (fun _ h9 => h9) rfl (by decide +kernel) rfl rfl (Nat.le_of_ble_eq_true rfl) dX2_readEnd_54 (fun H locs hP hD hS => ?_)
    have hP : va_P (dC, dI) vwCl [(d0, .inr (2, [.ref g0, .ref e0, .ref f0, .ref k0, .int (nI (aa + 4)), .int d5, .int (nI fb), .int (nI fl), .int d8, .long d9, .int (nI fr), .int d11])), (f0, .inr (1, [.int x1, .int x2])), (g0, .inr (5, [.ref g1, .int (nI n)])), (g1, .inl (kB, 150000, .inl f)), (e0, .inr (5, [.ref e1, .int (nI zz)])), (e1, .inl (kB, 140000, .inl oo))] H := hP
    have hD : va_D A [(d0, .inr (2, [.ref g0, .ref e0, .ref f0, .ref k0, .int (nI (aa + 4)), .int d5, .int (nI fb), .int (nI fl), .int d8, .long d9, .int (nI fr), .int d11])), (f0, .inr (1, [.int x1, .int x2])), (g0, .inr (5, [.ref g1, .int (nI n)])), (g1, .inl (kB, 150000, .inl f)), (e0, .inr (5, [.ref e1, .int (nI zz)])), (e1, .inl (kB, 140000, .inl oo))] := hD
    refine lv_aload_n hx hb dX2_readEnd_57 rfl (lv_at hl 0 rfl) ?_
    refine va_get (D := (dC, dI)) (ci := 2) (v := .int (nI fl)) (C := RX2) (T := TX2) (N := 12) hx hb hts (by decide +kernel) hown hK hP 0 rfl rfl 7 (by decide) (hts (.fieldLink RX2 105 "SequenceFrames$FrameReader" "flags" "I") (by decide +kernel)) (fun _ h9 => h9) rfl dX2_readEnd_58 ?_
    refine lv_iconst (v := 4) hx hb dX2_readEnd_61 (by decide) ?_
    refine lv_iand hx hb dX2_readEnd_62 ?_
    refine lv_is (y := (nI (4 * (fl / 4 % 2)))) (and4b fl hfl) ?_
    refine zb_if_eq (tgt := 86) (a := ((4 * (fl / 4 % 2) : Nat) : Int)) hx hb dX2_readEnd_63 (by decide) (nI_toInt (by omega)) (fun c63 => ?_) (fun c63 => ?_)
    · exact hG2 _ _ _ (jm (aa + 4) (by omega) (by omega) (fun h => absurd h (by omega))  _ _ (hP.sub [0, 1, 2, 3, 4, 5] rfl) (hD.sub [0, 1, 2, 3, 4, 5] (by decide) rfl) hS ls (lv_sub hl [0] rfl))
    · refine lv_aload_n hx hb dX2_readEnd_66 rfl (lv_at hl 0 rfl) ?_
      refine lv_aload_n hx hb dX2_readEnd_67 rfl (lv_at hl 0 rfl) ?_
      refine va_get (D := (dC, dI)) (ci := 2) (v := .ref e0) (C := RX2) (T := TX2) (N := 12) hx hb hts (by decide +kernel) hown hK hP 0 rfl rfl 1 (by decide) (hts (.fieldLink RX2 15 "SequenceFrames$FrameReader" "output" "LSequenceFrames$Row;") (by decide +kernel)) (fun _ h9 => h9) rfl dX2_readEnd_68 ?_
      refine lv_aload_n hx hb dX2_readEnd_71 rfl (lv_at hl 0 rfl) ?_
      refine va_get (D := (dC, dI)) (ci := 2) (v := .int (nI fb)) (C := RX2) (T := TX2) (N := 12) hx hb hts (by decide +kernel) hown hK hP 0 rfl rfl 6 (by decide) (hts (.fieldLink RX2 102 "SequenceFrames$FrameReader" "frameStart" "I") (by decide +kernel)) (fun _ h9 => h9) rfl dX2_readEnd_72 ?_
      refine lv_iload_n hx hb dX2_readEnd_75 rfl (lv_at hl 1 rfl) ?_
      refine lv_bipush (v := 11) hx hb dX2_readEnd_76 (by decide) ?_
      refine z_calli (wr := []) (va_runV (As := [.ref e0, .int (nI fb), .int (nI (zz - fb)), .int 11]) (rest := []) ⟨hx, hb, hml, hown, hts⟩ (c_Frd_readCheckO l dC dI kB kI d0 g0 e0 f0 k0 d5 (nI fb) (nI fl) d8 d9 (nI fr) d11 x1 x2 g1 f n (aa + 4) e1 oo zz fb (zz - fb) 11 (by omega) (by omega) (by omega) (by omega) H.size) (cwV 4 hts gX2_readEnd_X2_readCheck rfl rfl rfl (by decide +kernel) ⟨Nat.le_of_ble_eq_true rfl, Nat.le_of_ble_eq_true rfl⟩) (z_preV hK (hP.sub [0, 1, 2, 3, 4, 5] rfl) (hD.sub [0, 1, 2, 3, 4, 5] (by decide) rfl) (va_recv hK hP (ci := 2) (q0 := 0) rfl rfl)) rfl rfl hl.1 rfl (lv_room (Nat.le_of_ble_eq_true rfl)) dX2_readEnd_78 ⟨Nat.le_of_ble_eq_true rfl, Nat.le_of_ble_eq_true rfl⟩) hK hP hD hS hA [0, 1, 2, 3, 4, 5] [] rfl rfl (by decide) (by decide) (fun r1 uq2 H locs hv hP hD hS => ?_)
      obtain ⟨a4, fa4, fp4⟩ := uq2
      replace hv : ((aa + 4) + 4 ≤ n ∧ wd f (aa + 4) = hashF oo fb (zz - fb) 0 ∧ r1 = 1 ∧ a4 = (aa + 4) + 4 ∧ fa4 = x1 ∧ fp4 = x2) ∨ (n < (aa + 4) + 4 ∧ r1 = 0 ∧ fa4 = 1 ∧ fp4 = nI n) ∨ ((aa + 4) + 4 ≤ n ∧ wd f (aa + 4) ≠ hashF oo fb (zz - fb) 0 ∧ r1 = 0 ∧ fa4 = 11 ∧ fp4 = nI (aa + 4)) := hv
      have hP : va_P (dC, dI) vwCl [(d0, .inr (2, [.ref g0, .ref e0, .ref f0, .ref k0, .int (nI a4), .int d5, .int (nI fb), .int (nI fl), .int d8, .long d9, .int (nI fr), .int d11])), (f0, .inr (1, [.int fa4, .int fp4])), (g0, .inr (5, [.ref g1, .int (nI n)])), (g1, .inl (kB, 150000, .inl f)), (e0, .inr (5, [.ref e1, .int (nI zz)])), (e1, .inl (kB, 140000, .inl oo))] H := hP
      have hD : va_D A [(d0, .inr (2, [.ref g0, .ref e0, .ref f0, .ref k0, .int (nI a4), .int d5, .int (nI fb), .int (nI fl), .int d8, .long d9, .int (nI fr), .int d11])), (f0, .inr (1, [.int fa4, .int fp4])), (g0, .inr (5, [.ref g1, .int (nI n)])), (g1, .inl (kB, 150000, .inl f)), (e0, .inr (5, [.ref e1, .int (nI zz)])), (e1, .inl (kB, 140000, .inl oo))] := hD
      rcases hv with hv | hv | hv
      · obtain ⟨h1, h2, er, ea, hfa, hfp⟩ := hv
        subst er
        subst ea
        replace hfa := hfa.symm; subst hfa
        replace hfp := hfp.symm; subst hfp
        refine lv_if_ne (tgt := 86) hx hb dX2_readEnd_81 (by decide) (fun _ => ?_) (fun c => absurd c (by decide))
        exact hG2 _ _ _ (jm (aa + 4 + 4) (by omega) (by omega) (fun _ => h2)  _ _ (hP.sub [0, 1, 2, 3, 4, 5] rfl) (hD.sub [0, 1, 2, 3, 4, 5] (by decide) rfl) hS ls (lv_sub hl [0] rfl))
      · obtain ⟨h1, er, hfa, hfp⟩ := hv
        subst er
        refine lv_if_ne (tgt := 86) hx hb dX2_readEnd_81 (by decide) (fun c => absurd c (by decide)) (fun _ => ?_)
        refine lv_iconst (v := 0) hx hb dX2_readEnd_84 (by decide) ?_
        have hP9 := hP.sub (ws' := [(d0, .inr (2, [.ref g0, .ref e0, .ref f0, .ref k0, .int (nI a4), .int d5, .int (nI fb), .int (nI fl), .int d8, .long d9, .int (nI fr), .int d11])), (f0, .inr (1, [.int fa4, .int fp4])), (g0, .inr (5, [.ref g1, .int (nI n)])), (g1, .inl (kB, 150000, .inl f)), (e0, .inr (5, [.ref e1, .int (nI zz)])), (e1, .inl (kB, 140000, .inl oo))]) [0, 1, 2, 3, 4, 5] rfl
        have hD9 := hD.sub (ws' := [(d0, .inr (2, [.ref g0, .ref e0, .ref f0, .ref k0, .int (nI a4), .int d5, .int (nI fb), .int (nI fl), .int d8, .long d9, .int (nI fr), .int d11])), (f0, .inr (1, [.int fa4, .int fp4])), (g0, .inr (5, [.ref g1, .int (nI n)])), (g1, .inl (kB, 150000, .inl f)), (e0, .inr (5, [.ref e1, .int (nI zz)])), (e1, .inl (kB, 140000, .inl oo))]) [0, 1, 2, 3, 4, 5] (by decide) rfl
        exact W.zret (v := 0) hx hb hr (by decide) (fun t9 ht9 hW9 => ⟨⟨0, (a4, d5, fr, fa4, fp4), rfl, (show (∃ w : Nat, endR f n fl tol fb aa zz oo = .inr w ∧ 0 = 1 ∧ a4 = w ∧ d5 = 0 ∧ fr = fr + 1 ∧ fa4 = x1 ∧ fp4 = x2 ∧ aa + 4 ≤ w ∧ w ≤ n) ∨ (∃ w y : Nat, endR f n fl tol fb aa zz oo = .inl (w, y) ∧ 0 = 0 ∧ fa4 = nI w ∧ fp4 = nI y) from (Or.inr ⟨1, n, endR_1 hsz (by omega), rfl, hfa, hfp⟩)), by rw [ht9]; exact hP9, va_K.moved hW9.alike hK, hD9⟩, hS.F ht9⟩) hS.2.2 dX2_readEnd_85
      · obtain ⟨h1, h2, er, hfa, hfp⟩ := hv
        subst er
        refine lv_if_ne (tgt := 86) hx hb dX2_readEnd_81 (by decide) (fun c => absurd c (by decide)) (fun _ => ?_)
        refine lv_iconst (v := 0) hx hb dX2_readEnd_84 (by decide) ?_
        have hP9 := hP.sub (ws' := [(d0, .inr (2, [.ref g0, .ref e0, .ref f0, .ref k0, .int (nI a4), .int d5, .int (nI fb), .int (nI fl), .int d8, .long d9, .int (nI fr), .int d11])), (f0, .inr (1, [.int fa4, .int fp4])), (g0, .inr (5, [.ref g1, .int (nI n)])), (g1, .inl (kB, 150000, .inl f)), (e0, .inr (5, [.ref e1, .int (nI zz)])), (e1, .inl (kB, 140000, .inl oo))]) [0, 1, 2, 3, 4, 5] rfl
        have hD9 := hD.sub (ws' := [(d0, .inr (2, [.ref g0, .ref e0, .ref f0, .ref k0, .int (nI a4), .int d5, .int (nI fb), .int (nI fl), .int d8, .long d9, .int (nI fr), .int d11])), (f0, .inr (1, [.int fa4, .int fp4])), (g0, .inr (5, [.ref g1, .int (nI n)])), (g1, .inl (kB, 150000, .inl f)), (e0, .inr (5, [.ref e1, .int (nI zz)])), (e1, .inl (kB, 140000, .inl oo))]) [0, 1, 2, 3, 4, 5] (by decide) rfl
        exact W.zret (v := 0) hx hb hr (by decide) (fun t9 ht9 hW9 => ⟨⟨0, (a4, d5, fr, fa4, fp4), rfl, (show (∃ w : Nat, endR f n fl tol fb aa zz oo = .inr w ∧ 0 = 1 ∧ a4 = w ∧ d5 = 0 ∧ fr = fr + 1 ∧ fa4 = x1 ∧ fp4 = x2 ∧ aa + 4 ≤ w ∧ w ≤ n) ∨ (∃ w y : Nat, endR f n fl tol fb aa zz oo = .inl (w, y) ∧ 0 = 0 ∧ fa4 = nI w ∧ fp4 = nI y) from (Or.inr ⟨11, aa + 4, endR_11 hsz (by omega) (by omega) h2, rfl, hfa, hfp⟩)), by rw [ht9]; exact hP9, va_K.moved hW9.alike hK, hD9⟩, hS.F ht9⟩) hS.2.2 dX2_readEnd_85
  refine lv_istore_n (lv' := [(1, .int (nI (zz - fb))), (0, .ref d0)]) hx hb dX2_readEnd_12 rfl hl (by decide) rfl (fun ls hl => ?_)
  refine lv_aload_n hx hb dX2_readEnd_13 rfl (lv_at hl 1 rfl) ?_
  refine va_get (D := (dC, dI)) (ci := 2) (v := .int (nI fl)) (C := RX2) (T := TX2) (N := 12) hx hb hts (by decide +kernel) hown hK hP 0 rfl rfl 7 (by decide) (hts (.fieldLink RX2 105 "SequenceFrames$FrameReader" "flags" "I") (by decide +kernel)) (fun _ h9 => h9) rfl dX2_readEnd_14 ?_
  refine lv_bipush (v := 8) hx hb dX2_readEnd_17 (by decide) ?_
  refine lv_iand hx hb dX2_readEnd_19 ?_
  refine lv_is (y := (nI (8 * (fl / 8 % 2)))) (and8b fl hfl) ?_
  refine zb_if_eq (tgt := 47) (a := ((8 * (fl / 8 % 2) : Nat) : Int)) hx hb dX2_readEnd_20 (by decide) (nI_toInt (by omega)) (fun c20 => ?_) (fun c20 => ?_)
  · exact hG2 _ _ _ (jn  (fun h => absurd h (by omega))  _ _ (hP.sub [0, 1, 2, 3, 4, 5] rfl) (hD.sub [0, 1, 2, 3, 4, 5] (by decide) rfl) hS ls (lv_sub hl [1, 0] rfl))
  · have h81 : fl / 8 % 2 = 1 := by omega
    have etl := htol h81
    refine lv_aload_n hx hb dX2_readEnd_23 rfl (lv_at hl 1 rfl) ?_
    refine va_get (D := (dC, dI)) (ci := 2) (v := .long d9) (C := RX2) (T := TX2) (N := 12) hx hb hts (by decide +kernel) hown hK hP 0 rfl rfl 9 (by decide) (hts (.fieldLink RX2 113 "SequenceFrames$FrameReader" "toldSize" "J") (by decide +kernel)) (fun _ h9 => h9) rfl dX2_readEnd_24 ?_
    refine lv_iload_n hx hb dX2_readEnd_27 rfl (lv_at hl 0 rfl) ?_
    refine lv_i2l (v := (lN (zz - fb))) hx hb dX2_readEnd_28 (zln_i2l rfl (by omega)) ?_
    refine zb_lcmp_eq (tgt := 47) (a := (d9).toInt) (b := ((zz - fb : Nat) : Int)) hx hb dX2_readEnd_29 dX2_readEnd_30 (by decide) rfl (pk_lT (by omega)) (fun c30 => ?_) (fun c30 => ?_)
    · exact hG2 _ _ _ (jn  (fun _ => (lN_cmp htl (by omega)).mp (by rw [← etl]; exact c30))  _ _ (hP.sub [0, 1, 2, 3, 4, 5] rfl) (hD.sub [0, 1, 2, 3, 4, 5] (by decide) rfl) hS ls (lv_sub hl [1, 0] rfl))
    · refine lv_aload_n hx hb dX2_readEnd_33 rfl (lv_at hl 1 rfl) ?_
      refine va_get (D := (dC, dI)) (ci := 2) (v := .ref f0) (C := RX2) (T := TX2) (N := 12) hx hb hts (by decide +kernel) hown hK hP 0 rfl rfl 2 (by decide) (hts (.fieldLink RX2 18 "SequenceFrames$FrameReader" "fault" "LSequenceFrames$Fault;") (by decide +kernel)) (fun _ h9 => h9) rfl dX2_readEnd_34 ?_
      refine lv_bipush (v := 10) hx hb dX2_readEnd_37 (by decide) ?_
      refine lv_aload_n hx hb dX2_readEnd_39 rfl (lv_at hl 1 rfl) ?_
      refine va_get (D := (dC, dI)) (ci := 2) (v := .int (nI aa)) (C := RX2) (T := TX2) (N := 12) hx hb hts (by decide +kernel) hown hK hP 0 rfl rfl 4 (by decide) (hts (.fieldLink RX2 41 "SequenceFrames$FrameReader" "at" "I") (by decide +kernel)) (fun _ h9 => h9) rfl dX2_readEnd_40 ?_
      refine z_calli (wr := [(d0, .inr (2, [.ref g0, .ref e0, .ref f0, .ref k0, .int (nI aa), .int d5, .int (nI fb), .int (nI fl), .int d8, .long d9, .int (nI fr), .int d11])), (g0, .inr (5, [.ref g1, .int (nI n)])), (g1, .inl (kB, 150000, .inl f)), (e0, .inr (5, [.ref e1, .int (nI zz)])), (e1, .inl (kB, 140000, .inl oo))]) (va_runV (As := [.int 10, .int (nI aa)]) (rest := []) ⟨hx, hb, hml, hown, hts⟩ (c_Fault_refuse l dC dI kB kI f0 x1 x2 10 (nI aa)  s.heap.size) (cwV 2 hts gX2_readEnd_X1_refuse rfl rfl rfl (by decide +kernel) ⟨Nat.le_of_ble_eq_true rfl, Nat.le_of_ble_eq_true rfl⟩) (z_preV hK (hP.sub [1] rfl) (hD.sub [1] (by decide) rfl) (va_recv hK hP (ci := 1) (q0 := 1) rfl rfl)) rfl rfl hl.1 rfl (lv_room (Nat.le_of_ble_eq_true rfl)) dX2_readEnd_43 ⟨Nat.le_of_ble_eq_true rfl, Nat.le_of_ble_eq_true rfl⟩) hK hP hD hS hA [1] [0, 2, 3, 4, 5] rfl rfl (by decide) (by decide) (fun r3 uq4 H locs hv hP hD hS => ?_)
      replace hv : r3 = 0 := hv
      have hP : va_P (dC, dI) vwCl [(d0, .inr (2, [.ref g0, .ref e0, .ref f0, .ref k0, .int (nI aa), .int d5, .int (nI fb), .int (nI fl), .int d8, .long d9, .int (nI fr), .int d11])), (g0, .inr (5, [.ref g1, .int (nI n)])), (g1, .inl (kB, 150000, .inl f)), (e0, .inr (5, [.ref e1, .int (nI zz)])), (e1, .inl (kB, 140000, .inl oo)), (f0, .inr (1, [.int 10, .int (nI aa)]))] H := hP
      have hD : va_D A [(d0, .inr (2, [.ref g0, .ref e0, .ref f0, .ref k0, .int (nI aa), .int d5, .int (nI fb), .int (nI fl), .int d8, .long d9, .int (nI fr), .int d11])), (g0, .inr (5, [.ref g1, .int (nI n)])), (g1, .inl (kB, 150000, .inl f)), (e0, .inr (5, [.ref e1, .int (nI zz)])), (e1, .inl (kB, 140000, .inl oo)), (f0, .inr (1, [.int 10, .int (nI aa)]))] := hD
      subst hv
      have hP9 := hP.sub (ws' := [(d0, .inr (2, [.ref g0, .ref e0, .ref f0, .ref k0, .int (nI aa), .int d5, .int (nI fb), .int (nI fl), .int d8, .long d9, .int (nI fr), .int d11])), (f0, .inr (1, [.int 10, .int (nI aa)])), (g0, .inr (5, [.ref g1, .int (nI n)])), (g1, .inl (kB, 150000, .inl f)), (e0, .inr (5, [.ref e1, .int (nI zz)])), (e1, .inl (kB, 140000, .inl oo))]) [0, 5, 1, 2, 3, 4] rfl
      have hD9 := hD.sub (ws' := [(d0, .inr (2, [.ref g0, .ref e0, .ref f0, .ref k0, .int (nI aa), .int d5, .int (nI fb), .int (nI fl), .int d8, .long d9, .int (nI fr), .int d11])), (f0, .inr (1, [.int 10, .int (nI aa)])), (g0, .inr (5, [.ref g1, .int (nI n)])), (g1, .inl (kB, 150000, .inl f)), (e0, .inr (5, [.ref e1, .int (nI zz)])), (e1, .inl (kB, 140000, .inl oo))]) [0, 5, 1, 2, 3, 4] (by decide) rfl
      exact W.zret (v := 0) hx hb hr (by decide) (fun t9 ht9 hW9 => ⟨⟨0, (aa, d5, fr, 10, (nI aa)), rfl, (show (∃ w : Nat, endR f n fl tol fb aa zz oo = .inr w ∧ 0 = 1 ∧ aa = w ∧ d5 = 0 ∧ fr = fr + 1 ∧ 10 = x1 ∧ (nI aa) = x2 ∧ aa + 4 ≤ w ∧ w ≤ n) ∨ (∃ w y : Nat, endR f n fl tol fb aa zz oo = .inl (w, y) ∧ 0 = 0 ∧ 10 = nI w ∧ (nI aa) = nI y) from (Or.inr ⟨10, aa, endR_10 h81 (fun h => c30 (by rw [etl]; exact (lN_cmp htl (by omega)).mpr h)), rfl, rfl, rfl⟩)), by rw [ht9]; exact hP9, va_K.moved hW9.alike hK, hD9⟩, hS.F ht9⟩) hS.2.2 dX2_readEnd_46
