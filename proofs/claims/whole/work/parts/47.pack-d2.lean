set_option maxHeartbeats 4000000 in
set_option maxRecDepth 100000 in
theorem c_Pck_endSize (l : Launch) (dC : Nat → ClassId) (dI : Nat → Nat → Nat) (kB kI : ClassId) (lk : Bool) (ck : Bool) (sz : Bool) (ca : Bool)  : zMi l yX4_endSize wsX4_endSize ({ frames := 0, cells := 0, slots := 0, locals := 0 }) (dC, dI) kB kI [.int (nI (flN lk ck sz ca))] [] 0 0 (fun (r : Int32) => fun _ : Unit => r = nI (4 + 4 * ca.toNat)) (fun _ : Unit => []) := by
  intro sz
  refine Met.ofW (cc := cX4_endSize) (maxL := 1) (ret := (some .int)) (by decide) rfl ?_
  intro p e s m args below meth c s₁ B hml hv
  obtain ⟨rfl, hsz, hP, hK, hD0⟩ := hv
  have hx := B.exec
  have hb := B.bytes
  have hr := B.returns
  have hts := atoms_spec (ws := wsX4_endSize) B.pre
  have hown : s.vm.findClass RX4 = some m.cls := findClass_of_methodNamed B.named
  have hlocks := B.notSynchronized
  subst hsz
  have hD := hD0.self (sz := s.heap.size)
  generalize hAe : va_A [] s.heap.size = A at hD ⊢
  have hA : ∀ q : Nat, s.heap.size ≤ q → A q := fun q h => by rw [← hAe]; exact Or.inr h
  have hS : va_S A s.heap s.heap [] := va_S.rf
  have hP : va_P (dC, dI) vwCl [] s.heap := hP
  have hl := lv_entry ([.int (nI (flN lk ck sz ca))]) (n := 1) (Nat.le_of_ble_eq_true rfl)
  rw [lg_entry_eq]
  generalize (lg_sl ([.int (nI (flN lk ck sz ca))]) ++ List.replicate (1 - (lg_sl ([.int (nI (flN lk ck sz ca))])).length) Slot.unset).toArray = ls at hl ⊢
  have hl : lv_has ls 1 [(0, .int (nI (flN lk ck sz ca)))] := hl
  refine zG (fun GG hG1 hG2 => ?_)
  have bb := Bool.toNat_le ca
  refine lv_iload_n hx hb dX4_endSize_0 rfl (lv_at hl 0 rfl) ?_
  refine lv_iconst (v := 4) hx hb dX4_endSize_1 (by decide) ?_
  refine lv_iand hx hb dX4_endSize_2 ?_
  refine lv_is (y := (nI (4 * ca.toNat))) (fl4 lk ck sz ca) ?_
  refine zb_if_eq (tgt := 11) (a := ((4 * ca.toNat : Nat) : Int)) hx hb dX4_endSize_3 (by decide) (nI_toInt (by omega)) (fun c3 => ?_) (fun c3 => ?_)
  · refine lv_iconst (v := 4) hx hb dX4_endSize_11 (by decide) ?_
    have hP9 := hP.sub (ws' := []) [] rfl
    have hD9 := hD.sub (ws' := []) [] (by decide) rfl
    exact W.iret (v := 4) hx hb hr (fun t9 ht9 hW9 => ⟨⟨4, (), rfl, (by rw [show ca.toNat = 0 by omega]; rfl), by rw [ht9]; exact hP9, va_K.moved hW9.alike hK, hD9⟩, hS.F ht9⟩) hS.2.2 dX4_endSize_12
  · refine lv_bipush (v := 8) hx hb dX4_endSize_6 (by decide) ?_
    refine lv_goto (tgt := 12) hx hb dX4_endSize_8 (by decide) ?_
    have hP9 := hP.sub (ws' := []) [] rfl
    have hD9 := hD.sub (ws' := []) [] (by decide) rfl
    exact W.iret (v := 8) hx hb hr (fun t9 ht9 hW9 => ⟨⟨8, (), rfl, (by rw [show ca.toNat = 1 by omega]; rfl), by rw [ht9]; exact hP9, va_K.moved hW9.alike hK, hD9⟩, hS.F ht9⟩) hS.2.2 dX4_endSize_12
