set_option maxHeartbeats 4000000 in
set_option maxRecDepth 100000 in
theorem c_Row_addRun (l : Launch) (dC : Nat → ClassId) (dI : Nat → Nat → Nat) (kB kI : ClassId) (a0 : Nat) (a1 : Nat) (cap : Nat) (n : Nat) (f : Nat → Int32) (y : Int32) (k : Nat) (hn : n + k ≤ cap) (hc : cap ≤ 150000) : zMv l yX5_addRun wsX5_addRun ({ frames := 1, cells := 0, slots := 0, locals := 21 }) (dC, dI) kB kI [.ref a0, .int y, .int (nI k)] [(a0, .inr (5, [.ref a1, .int (nI n)])), (a1, .inl (kB, cap, .inl f))] 0 0 (fun _ : Unit => True) (fun _ : Unit => [(a0, .inr (5, [.ref a1, .int (nI (n + k))])), (a1, .inl (kB, cap, .inl (apF f n k (fun _ => i2b y))))]) := by
  intro sz
  refine Met.ofW (cc := cX5_addRun) (maxL := 4) (ret := none) (by decide) rfl ?_
  intro p e s m args below meth c s₁ B hml hv
  obtain ⟨rfl, hsz, hP, hK, hD0⟩ := hv
  have hx := B.exec
  have hb := B.bytes
  have hr := B.returns
  have hts := atoms_spec (ws := wsX5_addRun) B.pre
  have hown : s.vm.findClass RX5 = some m.cls := findClass_of_methodNamed B.named
  have hlocks := B.notSynchronized
  subst hsz
  have hD := hD0.self (sz := s.heap.size)
  generalize hAe : va_A [(a0, .inr (5, [.ref a1, .int (nI n)])), (a1, .inl (kB, cap, .inl f))] s.heap.size = A at hD ⊢
  have hA : ∀ q : Nat, s.heap.size ≤ q → A q := fun q h => by rw [← hAe]; exact Or.inr h
  have hS : va_S A s.heap s.heap [] := va_S.rf
  have hP : va_P (dC, dI) vwCl [(a0, .inr (5, [.ref a1, .int (nI n)])), (a1, .inl (kB, cap, .inl f))] s.heap := hP
  have hl := lv_entry ([.ref a0, .int y, .int (nI k)]) (n := 4) (Nat.le_of_ble_eq_true rfl)
  rw [lg_entry_eq]
  generalize (lg_sl ([.ref a0, .int y, .int (nI k)]) ++ List.replicate (4 - (lg_sl ([.ref a0, .int y, .int (nI k)])).length) Slot.unset).toArray = ls at hl ⊢
  have hl : lv_has ls 4 [(0, .ref a0), (1, .int y), (2, .int (nI k))] := hl
  refine zG (fun GG hG1 hG2 => ?_)
  refine lv_iconst (v := 0) hx hb dX5_addRun_0 (by decide) ?_
  refine lv_istore_n (lv' := [(3, .int 0), (0, .ref a0), (1, .int y), (2, .int (nI k))]) hx hb dX5_addRun_1 rfl hl (by decide) rfl (fun ls hl => ?_)
  have eq9 : f = (apF f n 0 (fun _ => i2b y)) := (apF_0 f n (fun _ => i2b y)).symm
  have hP : va_P (dC, dI) vwCl [(a0, .inr (5, [.ref a1, .int (nI n)])), (a1, .inl (kB, cap, .inl (apF f n 0 (fun _ => i2b y))))] s.heap := by rw [← eq9]; exact hP
  have hD : va_D A [(a0, .inr (5, [.ref a1, .int (nI n)])), (a1, .inl (kB, cap, .inl (apF f n 0 (fun _ => i2b y))))] := by rw [← eq9]; exact hD
  have lp : ∀ (kf : Nat) (t : Nat) (ht : t ≤ k), k - t < kf → ∀ (H : Heap) (locs : List Loc), va_P (dC, dI) vwCl [(a0, .inr (5, [.ref a1, .int (nI (n + t))])), (a1, .inl (kB, cap, .inl (apF f n t (fun _ => i2b y))))] H → va_D A [(a0, .inr (5, [.ref a1, .int (nI (n + t))])), (a1, .inl (kB, cap, .inl (apF f n t (fun _ => i2b y))))] → va_S A s.heap H locs → ∀ (ls : Array Slot), lv_has ls 4 [(0, .ref a0), (1, .int y), (2, .int (nI k)), (3, .int (nI t))] → GG H locs (F0 m 2 ls []) := by
    intro kf
    induction kf with
    | zero => intro t ht hm; exact absurd hm (Nat.not_lt_zero _)
    | succ kf ih =>
      intro t ht hm H locs hP hD hS ls hl
      apply hG1
      refine lv_iload_n hx hb dX5_addRun_2 rfl (lv_at hl 3 rfl) ?_
      refine lv_iload_n hx hb dX5_addRun_3 rfl (lv_at hl 2 rfl) ?_
      refine zb_icmp_ge (tgt := 18) (a := ((t : Nat) : Int)) (b := ((k : Nat) : Int)) hx hb dX5_addRun_4 (by decide) (nI_toInt (by omega)) (nI_toInt (by omega)) (fun c4 => ?_) (fun c4 => ?_)
      · have et9 : k = t := by omega
        subst et9
        have hP9 := hP.sub (ws' := [(a0, .inr (5, [.ref a1, .int (nI (n + k))])), (a1, .inl (kB, cap, .inl (apF f n k (fun _ => i2b y))))]) [0, 1] rfl
        have hD9 := hD.sub (ws' := [(a0, .inr (5, [.ref a1, .int (nI (n + k))])), (a1, .inl (kB, cap, .inl (apF f n k (fun _ => i2b y))))]) [0, 1] (by decide) rfl
        exact W.vret hx hb hr (fun t9 ht9 hW9 => ⟨⟨(), rfl, trivial, by rw [ht9]; exact hP9, va_K.moved hW9.alike hK, hD9⟩, hS.F ht9⟩) hS.2.2 dX5_addRun_18
      · refine lv_aload_n hx hb dX5_addRun_7 rfl (lv_at hl 0 rfl) ?_
        refine lv_iload_n hx hb dX5_addRun_8 rfl (lv_at hl 1 rfl) ?_
        refine z_callv (wr := []) (va_runV (As := [.int y]) (rest := []) ⟨hx, hb, hml, hown, hts⟩ (c_Row_add l dC dI kB kI a0 a1 cap (n + t) (apF f n t (fun _ => i2b y)) y (by omega) (by omega) H.size) (cwV 1 hts gX5_addRun_X5_add rfl rfl rfl (by decide +kernel) ⟨Nat.le_of_ble_eq_true rfl, Nat.le_of_ble_eq_true rfl⟩) (z_preV hK (hP.sub [0, 1] rfl) (hD.sub [0, 1] (by decide) rfl) (va_recv hK hP (ci := 5) (q0 := 0) rfl rfl)) rfl rfl hl.1 rfl (lv_room (Nat.le_of_ble_eq_true rfl)) dX5_addRun_9 ⟨Nat.le_of_ble_eq_true rfl, Nat.le_of_ble_eq_true rfl⟩) hK hP hD hS hA [0, 1] [] rfl rfl (by decide) (by decide) (fun u2 H locs hw hP hD hS => ?_)
        have hw : True := hw
        have hP : va_P (dC, dI) vwCl [(a0, .inr (5, [.ref a1, .int (nI ((n + t) + 1))])), (a1, .inl (kB, cap, .inl (upd (apF f n t (fun _ => i2b y)) (n + t) (i2b y))))] H := hP
        have hD : va_D A [(a0, .inr (5, [.ref a1, .int (nI ((n + t) + 1))])), (a1, .inl (kB, cap, .inl (upd (apF f n t (fun _ => i2b y)) (n + t) (i2b y))))] := hD
        have eq9 : (upd (apF f n t (fun _ => i2b y)) (n + t) (i2b y)) = (apF f n (t + 1) (fun _ => i2b y)) := apF_s f n t (fun _ => i2b y)
        have hP : va_P (dC, dI) vwCl [(a0, .inr (5, [.ref a1, .int (nI ((n + t) + 1))])), (a1, .inl (kB, cap, .inl (apF f n (t + 1) (fun _ => i2b y))))] H := by rw [← eq9]; exact hP
        have hD : va_D A [(a0, .inr (5, [.ref a1, .int (nI ((n + t) + 1))])), (a1, .inl (kB, cap, .inl (apF f n (t + 1) (fun _ => i2b y))))] := by rw [← eq9]; exact hD
        refine lv_iinc (v := (nI (t + 1))) (lv' := [(3, .int (nI (t + 1))), (0, .ref a0), (1, .int y), (2, .int (nI k))]) hx hb dX5_addRun_12 hl (k := 3) rfl (zn_inc t 1 (by decide)) (by decide) rfl (fun ls hl => ?_)
        refine lv_goto (tgt := 2) hx hb dX5_addRun_15 (by decide) ?_
        exact hG2 _ _ _ (ih (t + 1) (by omega) (by omega) _ _ (hP.sub [0, 1] rfl) (hD.sub [0, 1] (by decide) rfl) hS ls (lv_sub hl [1, 2, 3, 0] rfl))
  exact hG2 _ _ _ (lp (k - 0 + 1) 0 (by omega) (Nat.lt_succ_self _) _ _ (hP.sub [0, 1] rfl) (hD.sub [0, 1] (by decide) rfl) hS ls (lv_sub hl [1, 2, 3, 0] rfl))

set_option maxHeartbeats 4000000 in
set_option maxRecDepth 100000 in
theorem c_Row_addNumber (l : Launch) (dC : Nat → ClassId) (dI : Nat → Nat → Nat) (kB kI : ClassId) (a0 : Nat) (a1 : Nat) (cap : Nat) (n : Nat) (f : Nat → Int32) (v : Int64) (k : Nat) (hn : n + k ≤ cap) (hc : cap ≤ 150000) (hk : k ≤ 8) : zMv l yX5_addNumber wsX5_addNumber ({ frames := 1, cells := 0, slots := 0, locals := 21 }) (dC, dI) kB kI [.ref a0, .long v, .int (nI k)] [(a0, .inr (5, [.ref a1, .int (nI n)])), (a1, .inl (kB, cap, .inl f))] 0 0 (fun _ : Unit => True) (fun _ : Unit => [(a0, .inr (5, [.ref a1, .int (nI (n + k))])), (a1, .inl (kB, cap, .inl (apF f n k (loB v))))]) := by
  intro sz
  refine Met.ofW (cc := cX5_addNumber) (maxL := 5) (ret := none) (by decide) rfl ?_
  intro p e s m args below meth c s₁ B hml hv
  obtain ⟨rfl, hsz, hP, hK, hD0⟩ := hv
  have hx := B.exec
  have hb := B.bytes
  have hr := B.returns
  have hts := atoms_spec (ws := wsX5_addNumber) B.pre
  have hown : s.vm.findClass RX5 = some m.cls := findClass_of_methodNamed B.named
  have hlocks := B.notSynchronized
  subst hsz
  have hD := hD0.self (sz := s.heap.size)
  generalize hAe : va_A [(a0, .inr (5, [.ref a1, .int (nI n)])), (a1, .inl (kB, cap, .inl f))] s.heap.size = A at hD ⊢
  have hA : ∀ q : Nat, s.heap.size ≤ q → A q := fun q h => by rw [← hAe]; exact Or.inr h
  have hS : va_S A s.heap s.heap [] := va_S.rf
  have hP : va_P (dC, dI) vwCl [(a0, .inr (5, [.ref a1, .int (nI n)])), (a1, .inl (kB, cap, .inl f))] s.heap := hP
  have hl := lv_entry ([.ref a0, .long v, .int (nI k)]) (n := 5) (Nat.le_of_ble_eq_true rfl)
  rw [lg_entry_eq]
  generalize (lg_sl ([.ref a0, .long v, .int (nI k)]) ++ List.replicate (5 - (lg_sl ([.ref a0, .long v, .int (nI k)])).length) Slot.unset).toArray = ls at hl ⊢
  have hl : lv_has ls 5 [(0, .ref a0), (1, .long v), (3, .int (nI k))] := hl
  refine zG (fun GG hG1 hG2 => ?_)
  refine lv_iconst (v := 0) hx hb dX5_addNumber_0 (by decide) ?_
  refine lv_istore (lv' := [(4, .int 0), (0, .ref a0), (1, .long v), (3, .int (nI k))]) hx hb dX5_addNumber_1 hl (by decide) rfl (fun ls hl => ?_)
  have eq9 : f = (apF f n 0 (loB v)) := (apF_0 f n (loB v)).symm
  have hP : va_P (dC, dI) vwCl [(a0, .inr (5, [.ref a1, .int (nI n)])), (a1, .inl (kB, cap, .inl (apF f n 0 (loB v))))] s.heap := by rw [← eq9]; exact hP
  have hD : va_D A [(a0, .inr (5, [.ref a1, .int (nI n)])), (a1, .inl (kB, cap, .inl (apF f n 0 (loB v))))] := by rw [← eq9]; exact hD
  have lp : ∀ (kf : Nat) (t : Nat) (ht : t ≤ k), k - t < kf → ∀ (H : Heap) (locs : List Loc), va_P (dC, dI) vwCl [(a0, .inr (5, [.ref a1, .int (nI (n + t))])), (a1, .inl (kB, cap, .inl (apF f n t (loB v))))] H → va_D A [(a0, .inr (5, [.ref a1, .int (nI (n + t))])), (a1, .inl (kB, cap, .inl (apF f n t (loB v))))] → va_S A s.heap H locs → ∀ (ls : Array Slot), lv_has ls 5 [(0, .ref a0), (1, .long v), (3, .int (nI k)), (4, .int (nI t))] → GG H locs (F0 m 3 ls []) := by
    intro kf
    induction kf with
    | zero => intro t ht hm; exact absurd hm (Nat.not_lt_zero _)
    | succ kf ih =>
      intro t ht hm H locs hP hD hS ls hl
      apply hG1
      refine lv_iload hx hb dX5_addNumber_3 (lv_at hl 3 rfl) ?_
      refine lv_iload_n hx hb dX5_addNumber_5 rfl (lv_at hl 2 rfl) ?_
      refine zb_icmp_ge (tgt := 27) (a := ((t : Nat) : Int)) (b := ((k : Nat) : Int)) hx hb dX5_addNumber_6 (by decide) (nI_toInt (by omega)) (nI_toInt (by omega)) (fun c6 => ?_) (fun c6 => ?_)
      · have et9 : k = t := by omega
        subst et9
        have hP9 := hP.sub (ws' := [(a0, .inr (5, [.ref a1, .int (nI (n + k))])), (a1, .inl (kB, cap, .inl (apF f n k (loB v))))]) [0, 1] rfl
        have hD9 := hD.sub (ws' := [(a0, .inr (5, [.ref a1, .int (nI (n + k))])), (a1, .inl (kB, cap, .inl (apF f n k (loB v))))]) [0, 1] (by decide) rfl
        exact W.vret hx hb hr (fun t9 ht9 hW9 => ⟨⟨(), rfl, trivial, by rw [ht9]; exact hP9, va_K.moved hW9.alike hK, hD9⟩, hS.F ht9⟩) hS.2.2 dX5_addNumber_27
      · refine lv_aload_n hx hb dX5_addNumber_9 rfl (lv_at hl 0 rfl) ?_
        refine lv_lload_n hx hb dX5_addNumber_10 rfl (lv_at hl 1 rfl) ?_
        refine lv_bipush (v := 8) hx hb dX5_addNumber_11 (by decide) ?_
        refine lv_iload hx hb dX5_addNumber_13 (lv_at hl 3 rfl) ?_
        refine lv_imul hx hb dX5_addNumber_15 ?_
        refine lv_is (y := (nI (8 * t))) ((zn_mul rfl rfl)) ?_
        refine lv_lushr (v := (lushr v (nI (8 * t)))) hx hb dX5_addNumber_16 rfl ?_
        refine lv_l2i (v := ((lushr v (nI (8 * t))).toInt32)) hx hb dX5_addNumber_17 rfl ?_
        refine z_callv (wr := []) (va_runV (As := [.int ((lushr v (nI (8 * t))).toInt32)]) (rest := []) ⟨hx, hb, hml, hown, hts⟩ (c_Row_add l dC dI kB kI a0 a1 cap (n + t) (apF f n t (loB v)) ((lushr v (nI (8 * t))).toInt32) (by omega) (by omega) H.size) (cwV 1 hts gX5_addNumber_X5_add rfl rfl rfl (by decide +kernel) ⟨Nat.le_of_ble_eq_true rfl, Nat.le_of_ble_eq_true rfl⟩) (z_preV hK (hP.sub [0, 1] rfl) (hD.sub [0, 1] (by decide) rfl) (va_recv hK hP (ci := 5) (q0 := 0) rfl rfl)) rfl rfl hl.1 rfl (lv_room (Nat.le_of_ble_eq_true rfl)) dX5_addNumber_18 ⟨Nat.le_of_ble_eq_true rfl, Nat.le_of_ble_eq_true rfl⟩) hK hP hD hS hA [0, 1] [] rfl rfl (by decide) (by decide) (fun u2 H locs hw hP hD hS => ?_)
        have hw : True := hw
        have hP : va_P (dC, dI) vwCl [(a0, .inr (5, [.ref a1, .int (nI ((n + t) + 1))])), (a1, .inl (kB, cap, .inl (upd (apF f n t (loB v)) (n + t) (i2b ((lushr v (nI (8 * t))).toInt32)))))] H := hP
        have hD : va_D A [(a0, .inr (5, [.ref a1, .int (nI ((n + t) + 1))])), (a1, .inl (kB, cap, .inl (upd (apF f n t (loB v)) (n + t) (i2b ((lushr v (nI (8 * t))).toInt32)))))] := hD
        have eq9 : (upd (apF f n t (loB v)) (n + t) (i2b ((lushr v (nI (8 * t))).toInt32))) = (apF f n (t + 1) (loB v)) := apF_s f n t (loB v)
        have hP : va_P (dC, dI) vwCl [(a0, .inr (5, [.ref a1, .int (nI ((n + t) + 1))])), (a1, .inl (kB, cap, .inl (apF f n (t + 1) (loB v))))] H := by rw [← eq9]; exact hP
        have hD : va_D A [(a0, .inr (5, [.ref a1, .int (nI ((n + t) + 1))])), (a1, .inl (kB, cap, .inl (apF f n (t + 1) (loB v))))] := by rw [← eq9]; exact hD
        refine lv_iinc (v := (nI (t + 1))) (lv' := [(4, .int (nI (t + 1))), (0, .ref a0), (1, .long v), (3, .int (nI k))]) hx hb dX5_addNumber_21 hl (k := 3) rfl (zn_inc t 1 (by decide)) (by decide) rfl (fun ls hl => ?_)
        refine lv_goto (tgt := 3) hx hb dX5_addNumber_24 (by decide) ?_
        exact hG2 _ _ _ (ih (t + 1) (by omega) (by omega) _ _ (hP.sub [0, 1] rfl) (hD.sub [0, 1] (by decide) rfl) hS ls (lv_sub hl [1, 2, 3, 0] rfl))
  exact hG2 _ _ _ (lp (k - 0 + 1) 0 (by omega) (Nat.lt_succ_self _) _ _ (hP.sub [0, 1] rfl) (hD.sub [0, 1] (by decide) rfl) hS ls (lv_sub hl [1, 2, 3, 0] rfl))

set_option maxHeartbeats 4000000 in
set_option maxRecDepth 100000 in
theorem c_Row_addHighestFirst (l : Launch) (dC : Nat → ClassId) (dI : Nat → Nat → Nat) (kB kI : ClassId) (a0 : Nat) (a1 : Nat) (cap : Nat) (n : Nat) (f : Nat → Int32) (v : Int64) (x : Int32) (xi : Int) (hn : n ≤ cap) (hc : cap ≤ 150000) (xh : x.toInt = xi) : zMi l yX5_addHighestFirst wsX5_addHighestFirst ({ frames := 1, cells := 0, slots := 0, locals := 21 }) (dC, dI) kB kI [.ref a0, .long v, .int x] [(a0, .inr (5, [.ref a1, .int (nI n)])), (a1, .inl (kB, cap, .inl f))] 0 0 (fun (r : Int32) => fun uu : (Nat → Int32) × Nat => (∃ k : Nat, xi = k ∧ 1 ≤ k ∧ k ≤ 8 ∧ ((n + k ≤ cap ∧ r = nI (n + k) ∧ uu.2 = n + k ∧ uu.1 = apF f n k (hiB v k)) ∨ (cap < n + k ∧ r = -2 ∧ uu.2 = n ∧ uu.1 = f))) ∨ ((xi < 1 ∨ 8 < xi) ∧ r = -1 ∧ uu.2 = n ∧ uu.1 = f)) (fun uu : (Nat → Int32) × Nat => [(a0, .inr (5, [.ref a1, .int (nI uu.2)])), (a1, .inl (kB, cap, .inl uu.1))]) := by
  intro sz
  refine Met.ofW (cc := cX5_addHighestFirst) (maxL := 5) (ret := (some .int)) (by decide) rfl ?_
  intro p e s m args below meth c s₁ B hml hv
  obtain ⟨rfl, hsz, hP, hK, hD0⟩ := hv
  have hx := B.exec
  have hb := B.bytes
  have hr := B.returns
  have hts := atoms_spec (ws := wsX5_addHighestFirst) B.pre
  have hown : s.vm.findClass RX5 = some m.cls := findClass_of_methodNamed B.named
  have hlocks := B.notSynchronized
  subst hsz
  have hD := hD0.self (sz := s.heap.size)
  generalize hAe : va_A [(a0, .inr (5, [.ref a1, .int (nI n)])), (a1, .inl (kB, cap, .inl f))] s.heap.size = A at hD ⊢
  have hA : ∀ q : Nat, s.heap.size ≤ q → A q := fun q h => by rw [← hAe]; exact Or.inr h
  have hS : va_S A s.heap s.heap [] := va_S.rf
  have hP : va_P (dC, dI) vwCl [(a0, .inr (5, [.ref a1, .int (nI n)])), (a1, .inl (kB, cap, .inl f))] s.heap := hP
  have hl := lv_entry ([.ref a0, .long v, .int x]) (n := 5) (Nat.le_of_ble_eq_true rfl)
  rw [lg_entry_eq]
  generalize (lg_sl ([.ref a0, .long v, .int x]) ++ List.replicate (5 - (lg_sl ([.ref a0, .long v, .int x])).length) Slot.unset).toArray = ls at hl ⊢
  have hl : lv_has ls 5 [(0, .ref a0), (1, .long v), (3, .int x)] := hl
  refine zG (fun GG hG1 hG2 => ?_)
  refine lv_iload_n hx hb dX5_addHighestFirst_0 rfl (lv_at hl 2 rfl) ?_
  refine lv_iconst (v := 1) hx hb dX5_addHighestFirst_1 (by decide) ?_
  refine zb_icmp_lt (tgt := 11) (a := xi) (b := 1) hx hb dX5_addHighestFirst_2 (by decide) xh (by decide) (fun c2 => ?_) (fun c2 => ?_)
  · refine lv_iconst (v := (-1)) hx hb dX5_addHighestFirst_11 (by decide) ?_
    have hP9 := hP.sub (ws' := [(a0, .inr (5, [.ref a1, .int (nI n)])), (a1, .inl (kB, cap, .inl f))]) [0, 1] rfl
    have hD9 := hD.sub (ws' := [(a0, .inr (5, [.ref a1, .int (nI n)])), (a1, .inl (kB, cap, .inl f))]) [0, 1] (by decide) rfl
    exact W.iret (v := (-1)) hx hb hr (fun t9 ht9 hW9 => ⟨⟨(-1), (f, n), rfl, (by right; exact ⟨by omega, rfl, rfl, rfl⟩), by rw [ht9]; exact hP9, va_K.moved hW9.alike hK, hD9⟩, hS.F ht9⟩) hS.2.2 dX5_addHighestFirst_12
  · refine lv_iload_n hx hb dX5_addHighestFirst_5 rfl (lv_at hl 2 rfl) ?_
    refine lv_bipush (v := 8) hx hb dX5_addHighestFirst_6 (by decide) ?_
    refine zb_icmp_le (tgt := 13) (a := xi) (b := 8) hx hb dX5_addHighestFirst_8 (by decide) xh (by decide) (fun c8 => ?_) (fun c8 => ?_)
    · obtain ⟨k, kb, xe⟩ := z_nat (x := x) (by omega)
      subst xe
      rw [nI_toInt kb] at xh
      subst xh
      refine lv_iload_n hx hb dX5_addHighestFirst_13 rfl (lv_at hl 2 rfl) ?_
      refine lv_aload_n hx hb dX5_addHighestFirst_14 rfl (lv_at hl 0 rfl) ?_
      refine z_calli (wr := []) (va_runV (As := []) (rest := [.int (nI k)]) ⟨hx, hb, hml, hown, hts⟩ (c_Row_room l dC dI kB kI a0 a1 cap n f (by omega) (by omega) s.heap.size) (cwV 0 hts gX5_addHighestFirst_X5_room rfl rfl rfl (by decide +kernel) ⟨Nat.le_of_ble_eq_true rfl, Nat.le_of_ble_eq_true rfl⟩) (z_preV hK (hP.sub [0, 1] rfl) (hD.sub [0, 1] (by decide) rfl) (va_recv hK hP (ci := 5) (q0 := 0) rfl rfl)) rfl rfl hl.1 rfl (lv_room (Nat.le_of_ble_eq_true rfl)) dX5_addHighestFirst_15 ⟨Nat.le_of_ble_eq_true rfl, Nat.le_of_ble_eq_true rfl⟩) hK hP hD hS hA [0, 1] [] rfl rfl (by decide) (by decide) (fun r1 u2 H locs hw hP hD hS => ?_)
      have hw : r1 = nI (cap - n) := hw
      have hP : va_P (dC, dI) vwCl [(a0, .inr (5, [.ref a1, .int (nI n)])), (a1, .inl (kB, cap, .inl f))] H := hP
      have hD : va_D A [(a0, .inr (5, [.ref a1, .int (nI n)])), (a1, .inl (kB, cap, .inl f))] := hD
      subst hw
      refine zb_icmp_le (tgt := 24) (a := ((k : Nat) : Int)) (b := ((cap - n : Nat) : Int)) hx hb dX5_addHighestFirst_18 (by decide) (nI_toInt (by omega)) (nI_toInt (by omega)) (fun c18 => ?_) (fun c18 => ?_)
      · refine lv_iload_n hx hb dX5_addHighestFirst_24 rfl (lv_at hl 2 rfl) ?_
        refine lv_iconst (v := 1) hx hb dX5_addHighestFirst_25 (by decide) ?_
        refine lv_isub hx hb dX5_addHighestFirst_26 ?_
        refine lv_istore (lv' := [(4, .int ((nI k) - 1)), (0, .ref a0), (1, .long v), (3, .int (nI k))]) hx hb dX5_addHighestFirst_27 hl (by decide) rfl (fun ls hl => ?_)
        have eq9 : f = (apF f n 0 (hiB v k)) := (apF_0 f n (hiB v k)).symm
        have hP : va_P (dC, dI) vwCl [(a0, .inr (5, [.ref a1, .int (nI n)])), (a1, .inl (kB, cap, .inl (apF f n 0 (hiB v k))))] H := by rw [← eq9]; exact hP
        have hD : va_D A [(a0, .inr (5, [.ref a1, .int (nI n)])), (a1, .inl (kB, cap, .inl (apF f n 0 (hiB v k))))] := by rw [← eq9]; exact hD
        have lp : ∀ (kf : Nat) (u : Nat) (t : Nat) (hu : u + t = k), u < kf → ∀ (H : Heap) (locs : List Loc), va_P (dC, dI) vwCl [(a0, .inr (5, [.ref a1, .int (nI (n + t))])), (a1, .inl (kB, cap, .inl (apF f n t (hiB v k))))] H → va_D A [(a0, .inr (5, [.ref a1, .int (nI (n + t))])), (a1, .inl (kB, cap, .inl (apF f n t (hiB v k))))] → va_S A s.heap H locs → ∀ (ls : Array Slot), lv_has ls 5 [(0, .ref a0), (1, .long v), (3, .int (nI k)), (4, .int ((nI u) - 1))] → GG H locs (F0 m 29 ls []) := by
          intro kf
          induction kf with
          | zero => intro u t hu hm; exact absurd hm (Nat.not_lt_zero _)
          | succ kf ih =>
            intro u t hu hm H locs hP hD hS ls hl
            apply hG1
            refine lv_iload hx hb dX5_addHighestFirst_29 (lv_at hl 3 rfl) ?_
            refine zb_if_lt (tgt := 52) (a := (((u : Nat) : Int) - 1)) hx hb dX5_addHighestFirst_31 (by decide) (zi_sub (nI_toInt (by omega)) (by decide) (by omega) (by omega)) (fun c31 => ?_) (fun c31 => ?_)
            · have et9 : k = t := by omega
              subst et9
              refine lv_aload_n hx hb dX5_addHighestFirst_52 rfl (lv_at hl 0 rfl) ?_
              refine va_get (D := (dC, dI)) (ci := 5) (v := .int (nI (n + k))) (C := RX5) (T := TX5) (N := 2) hx hb hts (by decide +kernel) hown hK hP 0 rfl rfl 1 (by decide) (hts (.fieldLink RX5 21 "SequenceFrames$Row" "size" "I") (by decide +kernel)) (fun _ h9 => h9) rfl dX5_addHighestFirst_53 ?_
              have hP9 := hP.sub (ws' := [(a0, .inr (5, [.ref a1, .int (nI (n + k))])), (a1, .inl (kB, cap, .inl (apF f n k (hiB v k))))]) [0, 1] rfl
              have hD9 := hD.sub (ws' := [(a0, .inr (5, [.ref a1, .int (nI (n + k))])), (a1, .inl (kB, cap, .inl (apF f n k (hiB v k))))]) [0, 1] (by decide) rfl
              exact W.iret (v := (nI (n + k))) hx hb hr (fun t9 ht9 hW9 => ⟨⟨(nI (n + k)), ((apF f n k (hiB v k)), (n + k)), rfl, (by left; exact ⟨k, rfl, by omega, by omega, Or.inl ⟨by omega, rfl, rfl, rfl⟩⟩), by rw [ht9]; exact hP9, va_K.moved hW9.alike hK, hD9⟩, hS.F ht9⟩) hS.2.2 dX5_addHighestFirst_56
            · obtain ⟨z, ez⟩ : ∃ z, u = z + 1 := ⟨u - 1, by omega⟩
              subst ez
              have eq9 : (((nI (z + 1)) - 1) : Int32) = (nI z) := nI_pred z
              have hl : lv_has ls 5 [(0, .ref a0), (1, .long v), (3, .int (nI k)), (4, .int (nI z))] := by rw [← eq9]; exact hl
              refine lv_aload_n hx hb dX5_addHighestFirst_34 rfl (lv_at hl 0 rfl) ?_
              refine lv_lload_n hx hb dX5_addHighestFirst_35 rfl (lv_at hl 1 rfl) ?_
              refine lv_bipush (v := 8) hx hb dX5_addHighestFirst_36 (by decide) ?_
              refine lv_iload hx hb dX5_addHighestFirst_38 (lv_at hl 3 rfl) ?_
              refine lv_imul hx hb dX5_addHighestFirst_40 ?_
              refine lv_is (y := (nI (8 * z))) ((zn_mul rfl rfl)) ?_
              refine lv_lushr (v := (lushr v (nI (8 * z)))) hx hb dX5_addHighestFirst_41 rfl ?_
              refine lv_l2i (v := ((lushr v (nI (8 * z))).toInt32)) hx hb dX5_addHighestFirst_42 rfl ?_
              refine z_callv (wr := []) (va_runV (As := [.int ((lushr v (nI (8 * z))).toInt32)]) (rest := []) ⟨hx, hb, hml, hown, hts⟩ (c_Row_add l dC dI kB kI a0 a1 cap (n + t) (apF f n t (hiB v k)) ((lushr v (nI (8 * z))).toInt32) (by omega) (by omega) H.size) (cwV 1 hts gX5_addHighestFirst_X5_add rfl rfl rfl (by decide +kernel) ⟨Nat.le_of_ble_eq_true rfl, Nat.le_of_ble_eq_true rfl⟩) (z_preV hK (hP.sub [0, 1] rfl) (hD.sub [0, 1] (by decide) rfl) (va_recv hK hP (ci := 5) (q0 := 0) rfl rfl)) rfl rfl hl.1 rfl (lv_room (Nat.le_of_ble_eq_true rfl)) dX5_addHighestFirst_43 ⟨Nat.le_of_ble_eq_true rfl, Nat.le_of_ble_eq_true rfl⟩) hK hP hD hS hA [0, 1] [] rfl rfl (by decide) (by decide) (fun u4 H locs hw hP hD hS => ?_)
              have hw : True := hw
              have hP : va_P (dC, dI) vwCl [(a0, .inr (5, [.ref a1, .int (nI ((n + t) + 1))])), (a1, .inl (kB, cap, .inl (upd (apF f n t (hiB v k)) (n + t) (i2b ((lushr v (nI (8 * z))).toInt32)))))] H := hP
              have hD : va_D A [(a0, .inr (5, [.ref a1, .int (nI ((n + t) + 1))])), (a1, .inl (kB, cap, .inl (upd (apF f n t (hiB v k)) (n + t) (i2b ((lushr v (nI (8 * z))).toInt32)))))] := hD
              have eq9 : (upd (apF f n t (hiB v k)) (n + t) (i2b ((lushr v (nI (8 * z))).toInt32))) = (apF f n (t + 1) (hiB v k)) := by rw [← apF_s f n t (hiB v k)]; unfold hiB; rw [show k - 1 - t = z by omega]
              have hP : va_P (dC, dI) vwCl [(a0, .inr (5, [.ref a1, .int (nI ((n + t) + 1))])), (a1, .inl (kB, cap, .inl (apF f n (t + 1) (hiB v k))))] H := by rw [← eq9]; exact hP
              have hD : va_D A [(a0, .inr (5, [.ref a1, .int (nI ((n + t) + 1))])), (a1, .inl (kB, cap, .inl (apF f n (t + 1) (hiB v k))))] := by rw [← eq9]; exact hD
              refine lv_iinc (v := ((nI z) - 1)) (lv' := [(4, .int ((nI z) - 1)), (0, .ref a0), (1, .long v), (3, .int (nI k))]) hx hb dX5_addHighestFirst_46 hl (k := 3) rfl (zn_dec _) (by decide) rfl (fun ls hl => ?_)
              refine lv_goto (tgt := 29) hx hb dX5_addHighestFirst_49 (by decide) ?_
              exact hG2 _ _ _ (ih z (t + 1) (by omega) (by omega) _ _ (hP.sub [0, 1] rfl) (hD.sub [0, 1] (by decide) rfl) hS ls (lv_sub hl [1, 2, 3, 0] rfl))
        exact hG2 _ _ _ (lp (k + 1) k 0 (by omega) (Nat.lt_succ_self _) _ _ (hP.sub [0, 1] rfl) (hD.sub [0, 1] (by decide) rfl) hS ls (lv_sub hl [1, 2, 3, 0] rfl))
      · refine lv_bipush (v := (-2)) hx hb dX5_addHighestFirst_21 (by decide) ?_
        have hP9 := hP.sub (ws' := [(a0, .inr (5, [.ref a1, .int (nI n)])), (a1, .inl (kB, cap, .inl f))]) [0, 1] rfl
        have hD9 := hD.sub (ws' := [(a0, .inr (5, [.ref a1, .int (nI n)])), (a1, .inl (kB, cap, .inl f))]) [0, 1] (by decide) rfl
        exact W.iret (v := (-2)) hx hb hr (fun t9 ht9 hW9 => ⟨⟨(-2), (f, n), rfl, (by left; exact ⟨k, rfl, by omega, by omega, Or.inr ⟨by omega, rfl, rfl, rfl⟩⟩), by rw [ht9]; exact hP9, va_K.moved hW9.alike hK, hD9⟩, hS.F ht9⟩) hS.2.2 dX5_addHighestFirst_23
    · refine lv_iconst (v := (-1)) hx hb dX5_addHighestFirst_11 (by decide) ?_
      have hP9 := hP.sub (ws' := [(a0, .inr (5, [.ref a1, .int (nI n)])), (a1, .inl (kB, cap, .inl f))]) [0, 1] rfl
      have hD9 := hD.sub (ws' := [(a0, .inr (5, [.ref a1, .int (nI n)])), (a1, .inl (kB, cap, .inl f))]) [0, 1] (by decide) rfl
      exact W.iret (v := (-1)) hx hb hr (fun t9 ht9 hW9 => ⟨⟨(-1), (f, n), rfl, (by right; exact ⟨by omega, rfl, rfl, rfl⟩), by rw [ht9]; exact hP9, va_K.moved hW9.alike hK, hD9⟩, hS.F ht9⟩) hS.2.2 dX5_addHighestFirst_12

set_option maxHeartbeats 4000000 in
set_option maxRecDepth 100000 in
theorem c_Row_addAgain (l : Launch) (dC : Nat → ClassId) (dI : Nat → Nat → Nat) (kB kI : ClassId) (a0 : Nat) (a1 : Nat) (cap : Nat) (n : Nat) (f : Nat → Int32) (d : Nat) (k : Nat) (hn : n + k ≤ cap) (hc : cap ≤ 150000) (hd : 1 ≤ d) (hdn : d ≤ n) (hf : bytF f) : zMv l yX5_addAgain wsX5_addAgain ({ frames := 1, cells := 0, slots := 0, locals := 20 }) (dC, dI) kB kI [.ref a0, .int (nI d), .int (nI k)] [(a0, .inr (5, [.ref a1, .int (nI n)])), (a1, .inl (kB, cap, .inl f))] 0 0 (fun _ : Unit => True) (fun _ : Unit => [(a0, .inr (5, [.ref a1, .int (nI (n + k))])), (a1, .inl (kB, cap, .inl (agF f n d k)))]) := by
  intro sz
  refine Met.ofW (cc := cX5_addAgain) (maxL := 4) (ret := none) (by decide) rfl ?_
  intro p e s m args below meth c s₁ B hml hv
  obtain ⟨rfl, hsz, hP, hK, hD0⟩ := hv
  have hx := B.exec
  have hb := B.bytes
  have hr := B.returns
  have hts := atoms_spec (ws := wsX5_addAgain) B.pre
  have hown : s.vm.findClass RX5 = some m.cls := findClass_of_methodNamed B.named
  have hlocks := B.notSynchronized
  subst hsz
  have hD := hD0.self (sz := s.heap.size)
  generalize hAe : va_A [(a0, .inr (5, [.ref a1, .int (nI n)])), (a1, .inl (kB, cap, .inl f))] s.heap.size = A at hD ⊢
  have hA : ∀ q : Nat, s.heap.size ≤ q → A q := fun q h => by rw [← hAe]; exact Or.inr h
  have hS : va_S A s.heap s.heap [] := va_S.rf
  have hP : va_P (dC, dI) vwCl [(a0, .inr (5, [.ref a1, .int (nI n)])), (a1, .inl (kB, cap, .inl f))] s.heap := hP
  have hl := lv_entry ([.ref a0, .int (nI d), .int (nI k)]) (n := 4) (Nat.le_of_ble_eq_true rfl)
  rw [lg_entry_eq]
  generalize (lg_sl ([.ref a0, .int (nI d), .int (nI k)]) ++ List.replicate (4 - (lg_sl ([.ref a0, .int (nI d), .int (nI k)])).length) Slot.unset).toArray = ls at hl ⊢
  have hl : lv_has ls 4 [(0, .ref a0), (1, .int (nI d)), (2, .int (nI k))] := hl
  refine zG (fun GG hG1 hG2 => ?_)
  refine lv_iload_n hx hb dX5_addAgain_0 rfl (lv_at hl 1 rfl) ?_
  refine lv_iconst (v := 1) hx hb dX5_addAgain_1 (by decide) ?_
  refine zb_icmp_lt (tgt := 21) (a := ((d : Nat) : Int)) (b := 1) hx hb dX5_addAgain_2 (by decide) (nI_toInt (by omega)) (by decide) (fun c2 => ?_) (fun c2 => ?_)
  · omega
  · refine lv_iload_n hx hb dX5_addAgain_5 rfl (lv_at hl 1 rfl) ?_
    refine lv_aload_n hx hb dX5_addAgain_6 rfl (lv_at hl 0 rfl) ?_
    refine va_get (D := (dC, dI)) (ci := 5) (v := .int (nI n)) (C := RX5) (T := TX5) (N := 2) hx hb hts (by decide +kernel) hown hK hP 0 rfl rfl 1 (by decide) (hts (.fieldLink RX5 21 "SequenceFrames$Row" "size" "I") (by decide +kernel)) (fun _ h9 => h9) rfl dX5_addAgain_7 ?_
    refine zb_icmp_gt (tgt := 21) (a := ((d : Nat) : Int)) (b := ((n : Nat) : Int)) hx hb dX5_addAgain_10 (by decide) (nI_toInt (by omega)) (nI_toInt (by omega)) (fun c10 => ?_) (fun c10 => ?_)
    · omega
    · refine lv_iload_n hx hb dX5_addAgain_13 rfl (lv_at hl 2 rfl) ?_
      refine lv_aload_n hx hb dX5_addAgain_14 rfl (lv_at hl 0 rfl) ?_
      refine z_calli (wr := []) (va_runV (As := []) (rest := [.int (nI k)]) ⟨hx, hb, hml, hown, hts⟩ (c_Row_room l dC dI kB kI a0 a1 cap n f (by omega) (by omega) s.heap.size) (cwV 0 hts gX5_addAgain_X5_room rfl rfl rfl (by decide +kernel) ⟨Nat.le_of_ble_eq_true rfl, Nat.le_of_ble_eq_true rfl⟩) (z_preV hK (hP.sub [0, 1] rfl) (hD.sub [0, 1] (by decide) rfl) (va_recv hK hP (ci := 5) (q0 := 0) rfl rfl)) rfl rfl hl.1 rfl (lv_room (Nat.le_of_ble_eq_true rfl)) dX5_addAgain_15 ⟨Nat.le_of_ble_eq_true rfl, Nat.le_of_ble_eq_true rfl⟩) hK hP hD hS hA [0, 1] [] rfl rfl (by decide) (by decide) (fun r1 u2 H locs hw hP hD hS => ?_)
      have hw : r1 = nI (cap - n) := hw
      have hP : va_P (dC, dI) vwCl [(a0, .inr (5, [.ref a1, .int (nI n)])), (a1, .inl (kB, cap, .inl f))] H := hP
      have hD : va_D A [(a0, .inr (5, [.ref a1, .int (nI n)])), (a1, .inl (kB, cap, .inl f))] := hD
      subst hw
      refine zb_icmp_le (tgt := 22) (a := ((k : Nat) : Int)) (b := ((cap - n : Nat) : Int)) hx hb dX5_addAgain_18 (by decide) (nI_toInt (by omega)) (nI_toInt (by omega)) (fun c18 => ?_) (fun c18 => ?_)
      · refine lv_iconst (v := 0) hx hb dX5_addAgain_22 (by decide) ?_
        refine lv_istore_n (lv' := [(3, .int 0), (0, .ref a0), (1, .int (nI d)), (2, .int (nI k))]) hx hb dX5_addAgain_23 rfl hl (by decide) rfl (fun ls hl => ?_)
        have lp : ∀ (kf : Nat) (t : Nat) (ht : t ≤ k), k - t < kf → ∀ (H : Heap) (locs : List Loc), va_P (dC, dI) vwCl [(a0, .inr (5, [.ref a1, .int (nI (n + t))])), (a1, .inl (kB, cap, .inl (agF f n d t)))] H → va_D A [(a0, .inr (5, [.ref a1, .int (nI (n + t))])), (a1, .inl (kB, cap, .inl (agF f n d t)))] → va_S A s.heap H locs → ∀ (ls : Array Slot), lv_has ls 4 [(0, .ref a0), (1, .int (nI d)), (2, .int (nI k)), (3, .int (nI t))] → GG H locs (F0 m 24 ls []) := by
          intro kf
          induction kf with
          | zero => intro t ht hm; exact absurd hm (Nat.not_lt_zero _)
          | succ kf ih =>
            intro t ht hm H locs hP hD hS ls hl
            apply hG1
            refine lv_iload_n hx hb dX5_addAgain_24 rfl (lv_at hl 3 rfl) ?_
            refine lv_iload_n hx hb dX5_addAgain_25 rfl (lv_at hl 2 rfl) ?_
            refine zb_icmp_ge (tgt := 65) (a := ((t : Nat) : Int)) (b := ((k : Nat) : Int)) hx hb dX5_addAgain_26 (by decide) (nI_toInt (by omega)) (nI_toInt (by omega)) (fun c26 => ?_) (fun c26 => ?_)
            · have et9 : k = t := by omega
              subst et9
              have hP9 := hP.sub (ws' := [(a0, .inr (5, [.ref a1, .int (nI (n + k))])), (a1, .inl (kB, cap, .inl (agF f n d k)))]) [0, 1] rfl
              have hD9 := hD.sub (ws' := [(a0, .inr (5, [.ref a1, .int (nI (n + k))])), (a1, .inl (kB, cap, .inl (agF f n d k)))]) [0, 1] (by decide) rfl
              exact W.vret hx hb hr (fun t9 ht9 hW9 => ⟨⟨(), rfl, trivial, by rw [ht9]; exact hP9, va_K.moved hW9.alike hK, hD9⟩, hS.F ht9⟩) hS.2.2 dX5_addAgain_65
            · refine lv_aload_n hx hb dX5_addAgain_29 rfl (lv_at hl 0 rfl) ?_
              refine va_get (D := (dC, dI)) (ci := 5) (v := .ref a1) (C := RX5) (T := TX5) (N := 2) hx hb hts (by decide +kernel) hown hK hP 0 rfl rfl 0 (by decide) (hts (.fieldLink RX5 15 "SequenceFrames$Row" "bytes" "[B") (by decide +kernel)) (fun _ h9 => h9) rfl dX5_addAgain_30 ?_
              refine lv_aload_n hx hb dX5_addAgain_33 rfl (lv_at hl 0 rfl) ?_
              refine va_get (D := (dC, dI)) (ci := 5) (v := .int (nI (n + t))) (C := RX5) (T := TX5) (N := 2) hx hb hts (by decide +kernel) hown hK hP 0 rfl rfl 1 (by decide) (hts (.fieldLink RX5 21 "SequenceFrames$Row" "size" "I") (by decide +kernel)) (fun _ h9 => h9) rfl dX5_addAgain_34 ?_
              refine lv_aload_n hx hb dX5_addAgain_37 rfl (lv_at hl 0 rfl) ?_
              refine va_get (D := (dC, dI)) (ci := 5) (v := .ref a1) (C := RX5) (T := TX5) (N := 2) hx hb hts (by decide +kernel) hown hK hP 0 rfl rfl 0 (by decide) (hts (.fieldLink RX5 15 "SequenceFrames$Row" "bytes" "[B") (by decide +kernel)) (fun _ h9 => h9) rfl dX5_addAgain_38 ?_
              refine lv_aload_n hx hb dX5_addAgain_41 rfl (lv_at hl 0 rfl) ?_
              refine va_get (D := (dC, dI)) (ci := 5) (v := .int (nI (n + t))) (C := RX5) (T := TX5) (N := 2) hx hb hts (by decide +kernel) hown hK hP 0 rfl rfl 1 (by decide) (hts (.fieldLink RX5 21 "SequenceFrames$Row" "size" "I") (by decide +kernel)) (fun _ h9 => h9) rfl dX5_addAgain_42 ?_
              refine lv_iload_n hx hb dX5_addAgain_45 rfl (lv_at hl 1 rfl) ?_
              refine lv_isub hx hb dX5_addAgain_46 ?_
              refine va_bald hx hb hK hP 1 0 rfl rfl (zin (zn_sub rfl rfl (by omega)) (by omega) (by omega)) dX5_addAgain_47 ?_
              refine lv_is (y := ((agF f n d t) ((n + t) - d))) (zld (agF f n d t) (zn_sub rfl rfl (by omega)) (by omega)) ?_
              refine va_bast hx hb hK hP hD hS 1 0 rfl rfl (zin rfl (by omega) (by omega)) dX5_addAgain_48 (fun H locs hP hD hS => ?_)
              have ez := (congrArg (upd (agF f n d t) ((nI (n + t)) : Int32).toNatClampNeg) (show vp_nar .byte ((agF f n d t) ((n + t) - d)) = ((agF f n d t) ((n + t) - d)) from byt_nar (bytF_agF hf n d t _))).trans (zst (agF f n d t) ((agF f n d t) ((n + t) - d)) (i := (nI (n + t))) (j := (n + t)) rfl (by omega))
              have hP : va_P (dC, dI) vwCl [(a0, .inr (5, [.ref a1, .int (nI (n + t))])), (a1, .inl (kB, cap, .inl (upd (agF f n d t) (n + t) ((agF f n d t) ((n + t) - d)))))] H := by rw [← ez]; exact hP
              have hD : va_D A [(a0, .inr (5, [.ref a1, .int (nI (n + t))])), (a1, .inl (kB, cap, .inl (upd (agF f n d t) (n + t) ((agF f n d t) ((n + t) - d)))))] := by rw [← ez]; exact hD
              refine lv_aload_n hx hb dX5_addAgain_49 rfl (lv_at hl 0 rfl) ?_
              refine lv_dup hx hb dX5_addAgain_50 rfl ?_
              refine va_get (D := (dC, dI)) (ci := 5) (v := .int (nI (n + t))) (C := RX5) (T := TX5) (N := 2) hx hb hts (by decide +kernel) hown hK hP 0 rfl rfl 1 (by decide) (hts (.fieldLink RX5 21 "SequenceFrames$Row" "size" "I") (by decide +kernel)) (fun _ h9 => h9) rfl dX5_addAgain_51 ?_
              refine lv_iconst (v := 1) hx hb dX5_addAgain_54 (by decide) ?_
              refine lv_iadd hx hb dX5_addAgain_55 ?_
              refine lv_is (y := (nI ((n + t) + 1))) ((zn_add rfl rfl)) ?_
              refine va_put (D := (dC, dI)) (ci := 5) (v := .int (nI ((n + t) + 1))) (ty := .int) (C := RX5) (T := TX5) (N := 2) hx hb hts (by decide +kernel) tyX5 tyX5_ok nmX5 hown hK hP hD hS 0 rfl rfl 1 (by decide) (hts (.fieldLink RX5 21 "SequenceFrames$Row" "size" "I") (by decide +kernel)) (fun _ h9 => h9) rfl (by decide +kernel) rfl rfl (Nat.le_of_ble_eq_true rfl) dX5_addAgain_56 (fun H locs hP hD hS => ?_)
              have hP : va_P (dC, dI) vwCl [(a0, .inr (5, [.ref a1, .int (nI ((n + t) + 1))])), (a1, .inl (kB, cap, .inl (upd (agF f n d t) (n + t) ((agF f n d t) ((n + t) - d)))))] H := hP
              have hD : va_D A [(a0, .inr (5, [.ref a1, .int (nI ((n + t) + 1))])), (a1, .inl (kB, cap, .inl (upd (agF f n d t) (n + t) ((agF f n d t) ((n + t) - d)))))] := hD
              refine lv_iinc (v := (nI (t + 1))) (lv' := [(3, .int (nI (t + 1))), (0, .ref a0), (1, .int (nI d)), (2, .int (nI k))]) hx hb dX5_addAgain_59 hl (k := 3) rfl (zn_inc t 1 (by decide)) (by decide) rfl (fun ls hl => ?_)
              refine lv_goto (tgt := 24) hx hb dX5_addAgain_62 (by decide) ?_
              exact hG2 _ _ _ (ih (t + 1) (by omega) (by omega) _ _ (hP.sub [0, 1] rfl) (hD.sub [0, 1] (by decide) rfl) hS ls (lv_sub hl [1, 2, 3, 0] rfl))
        exact hG2 _ _ _ (lp (k - 0 + 1) 0 (by omega) (Nat.lt_succ_self _) _ _ (hP.sub [0, 1] rfl) (hD.sub [0, 1] (by decide) rfl) hS ls (lv_sub hl [1, 2, 3, 0] rfl))
      · omega
