set_option maxHeartbeats 4000000 in
set_option maxRecDepth 100000 in
theorem c_Pck_headSize (l : Launch) (dC : Nat → ClassId) (dI : Nat → Nat → Nat) (kB kI : ClassId) (lk : Bool) (ck : Bool) (sz : Bool) (ca : Bool)  : zMi l yX4_headSize wsX4_headSize ({ frames := 0, cells := 0, slots := 0, locals := 0 }) (dC, dI) kB kI [.int (nI (flN lk ck sz ca))] [] 0 0 (fun (r : Int32) => fun _ : Unit => r = nI (7 + 8 * sz.toNat)) (fun _ : Unit => []) := by
  intro sz
  refine Met.ofW (cc := cX4_headSize) (maxL := 1) (ret := (some .int)) (by decide) rfl ?_
  intro p e s m args below meth c s₁ B hml hv
  obtain ⟨rfl, hsz, hP, hK, hD0⟩ := hv
  have hx := B.exec
  have hb := B.bytes
  have hr := B.returns
  have hts := atoms_spec (ws := wsX4_headSize) B.pre
  have hown : s.vm.findClass RX4 = some m.cls := findClass_of_methodNamed B.named
  have hlocks := B.notSynchronized
  subst hsz
  have hD := hD0.self (sz := s.heap.size)
  generalize hAe : va_A [] s.heap.size = A at hD ⊢
  have hA : ∀ q : Nat, s.heap.size ≤ q → A q := fun q h => by rw [← hAe]; exact Or.inr h
  have hS : va_S A s.heap s.heap [] := va_S.rf
  have hP : va_P (dC, dI) vwCl [] s.heap := hP
  have hl := lv_entry ([.int (nI (flN lk ck sz ca))]) (n := 1) (Nat.le_of_ble_eq_true rfl)
  rw [lg_entry_eq]
  generalize (lg_sl ([.int (nI (flN lk ck sz ca))]) ++ List.replicate (1 - (lg_sl ([.int (nI (flN lk ck sz ca))])).length) Slot.unset).toArray = ls at hl ⊢
  have hl : lv_has ls 1 [(0, .int (nI (flN lk ck sz ca)))] := hl
  refine zG (fun GG hG1 hG2 => ?_)
  have bb := Bool.toNat_le sz
  refine lv_iload_n hx hb dX4_headSize_0 rfl (lv_at hl 0 rfl) ?_
  refine lv_bipush (v := 8) hx hb dX4_headSize_1 (by decide) ?_
  refine lv_iand hx hb dX4_headSize_3 ?_
  refine lv_is (y := (nI (8 * sz.toNat))) (fl8 lk ck sz ca) ?_
  refine zb_if_eq (tgt := 12) (a := ((8 * sz.toNat : Nat) : Int)) hx hb dX4_headSize_4 (by decide) (nI_toInt (by omega)) (fun c4 => ?_) (fun c4 => ?_)
  · refine lv_bipush (v := 7) hx hb dX4_headSize_12 (by decide) ?_
    have hP9 := hP.sub (ws' := []) [] rfl
    have hD9 := hD.sub (ws' := []) [] (by decide) rfl
    exact W.iret (v := 7) hx hb hr (fun t9 ht9 hW9 => ⟨⟨7, (), rfl, (by rw [show sz.toNat = 0 by omega]; rfl), by rw [ht9]; exact hP9, va_K.moved hW9.alike hK, hD9⟩, hS.F ht9⟩) hS.2.2 dX4_headSize_14
  · refine lv_bipush (v := 15) hx hb dX4_headSize_7 (by decide) ?_
    refine lv_goto (tgt := 14) hx hb dX4_headSize_9 (by decide) ?_
    have hP9 := hP.sub (ws' := []) [] rfl
    have hD9 := hD.sub (ws' := []) [] (by decide) rfl
    exact W.iret (v := 15) hx hb hr (fun t9 ht9 hW9 => ⟨⟨15, (), rfl, (by rw [show sz.toNat = 1 by omega]; rfl), by rw [ht9]; exact hP9, va_K.moved hW9.alike hK, hD9⟩, hS.F ht9⟩) hS.2.2 dX4_headSize_14
