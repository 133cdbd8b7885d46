set_option maxHeartbeats 4000000 in
set_option maxRecDepth 100000 in
theorem c_Arr_fill (l : Launch) (dC : Nat → ClassId) (dI : Nat → Nat → Nat) (kB kI : ClassId) (b0 : Nat) (n : Nat) (f : Nat → Int32) (y : Int32) (hn : n ≤ 200000) : zMv l yJ7_fill_53178 wsJ7_fill_53178 ({ frames := 0, cells := 0, slots := 0, locals := 0 }) (dC, dI) kB kI [.ref b0, .int y] [(b0, .inl (kI, n, .inl f))] 0 0 (fun _ : Unit => True) (fun _ : Unit => [(b0, .inl (kI, n, .inl (fun _ => y)))]) := by
  intro sz
  refine Met.ofW (cc := cJ7_fill_53178) (maxL := 4) (ret := none) (by decide) rfl ?_
  intro p e s m args below meth c s₁ B hml hv
  obtain ⟨rfl, hsz, hP, hK, hD0⟩ := hv
  have hx := B.exec
  have hb := B.bytes
  have hr := B.returns
  have hts := atoms_spec (ws := wsJ7_fill_53178) B.pre
  have hown : s.vm.findClass RJ7 = some m.cls := findClass_of_methodNamed B.named
  have hlocks := B.notSynchronized
  subst hsz
  have hD := hD0.self (sz := s.heap.size)
  generalize hAe : va_A [(b0, .inl (kI, n, .inl f))] s.heap.size = A at hD ⊢
  have hA : ∀ q : Nat, s.heap.size ≤ q → A q := fun q h => by rw [← hAe]; exact Or.inr h
  have hS : va_S A s.heap s.heap [] := va_S.rf
  have hP : va_P (dC, dI) vwCl [(b0, .inl (kI, n, .inl f))] s.heap := hP
  have hl := lv_entry ([.ref b0, .int y]) (n := 4) (Nat.le_of_ble_eq_true rfl)
  rw [lg_entry_eq]
  generalize (lg_sl ([.ref b0, .int y]) ++ List.replicate (4 - (lg_sl ([.ref b0, .int y])).length) Slot.unset).toArray = ls at hl ⊢
  have hl : lv_has ls 4 [(0, .ref b0), (1, .int y)] := hl
  refine zG (fun GG hG1 hG2 => ?_)
  refine lv_iconst (v := 0) hx hb dJ7_fill_53178_0 (by decide) ?_
  refine lv_istore_n (lv' := [(2, .int 0), (0, .ref b0), (1, .int y)]) hx hb dJ7_fill_53178_1 rfl hl (by decide) rfl (fun ls hl => ?_)
  refine lv_aload_n hx hb dJ7_fill_53178_2 rfl (lv_at hl 1 rfl) ?_
  refine va_alen (v := nI n) hx hb hK hP 0 1 rfl rfl rfl dJ7_fill_53178_3 ?_
  refine lv_istore_n (lv' := [(3, .int (nI n)), (2, .int 0), (0, .ref b0), (1, .int y)]) hx hb dJ7_fill_53178_4 rfl hl (by decide) rfl (fun ls hl => ?_)
  have lp : ∀ (kf : Nat) (u : Nat) (s9 : Nat → Int32) (hu : u ≤ n) (hz : ∀ j, j < u → s9 j = y), n - u < kf → ∀ (H : Heap) (locs : List Loc), va_P (dC, dI) vwCl [(b0, .inl (kI, n, .inl s9))] H → va_D A [(b0, .inl (kI, n, .inl s9))] → va_S A s.heap H locs → ∀ (ls : Array Slot), lv_has ls 4 [(3, .int (nI n)), (2, .int (nI u)), (0, .ref b0), (1, .int y)] → GG H locs (F0 m 5 ls []) := by
    intro kf
    induction kf with
    | zero => intro u s9 hu hz hm; exact absurd hm (Nat.not_lt_zero _)
    | succ kf ih =>
      intro u s9 hu hz hm H locs hP hD hS ls hl
      apply hG1
      refine lv_iload_n hx hb dJ7_fill_53178_5 rfl (lv_at hl 1 rfl) ?_
      refine lv_iload_n hx hb dJ7_fill_53178_6 rfl (lv_at hl 0 rfl) ?_
      refine zb_icmp_ge (tgt := 20) (a := ((u : Nat) : Int)) (b := ((n : Nat) : Int)) hx hb dJ7_fill_53178_7 (by decide) (nI_toInt (by omega)) (nI_toInt (by omega)) (fun c7 => ?_) (fun c7 => ?_)
      · obtain ⟨hP, hD⟩ := za_congr (g := (fun _ => y)) hP hD 0 rfl (fun j hj => hz j (by omega))
        have hP : va_P (dC, dI) vwCl [(b0, .inl (kI, n, .inl (fun _ => y)))] H := hP
        have hD : va_D A [(b0, .inl (kI, n, .inl (fun _ => y)))] := hD
        have hP9 := hP.sub (ws' := [(b0, .inl (kI, n, .inl (fun _ => y)))]) [0] rfl
        have hD9 := hD.sub (ws' := [(b0, .inl (kI, n, .inl (fun _ => y)))]) [0] (by decide) rfl
        exact W.vret hx hb hr (fun t9 ht9 hW9 => ⟨⟨(), rfl, trivial, by rw [ht9]; exact hP9, va_K.moved hW9.alike hK, hD9⟩, hS.F ht9⟩) hS.2.2 dJ7_fill_53178_20
      · refine lv_aload_n hx hb dJ7_fill_53178_10 rfl (lv_at hl 2 rfl) ?_
        refine lv_iload_n hx hb dJ7_fill_53178_11 rfl (lv_at hl 1 rfl) ?_
        refine lv_iload_n hx hb dJ7_fill_53178_12 rfl (lv_at hl 3 rfl) ?_
        refine va_iast hx hb hK hP hD hS 0 1 rfl rfl (zin rfl (by omega) (by omega)) dJ7_fill_53178_13 (fun H locs hP hD hS => ?_)
        have ez := zst s9 y (i := (nI u)) (j := u) rfl (by omega)
        have hP : va_P (dC, dI) vwCl [(b0, .inl (kI, n, .inl (upd s9 u y)))] H := by rw [← ez]; exact hP
        have hD : va_D A [(b0, .inl (kI, n, .inl (upd s9 u y)))] := by rw [← ez]; exact hD
        refine lv_iinc (v := (nI (u + 1))) (lv' := [(2, .int (nI (u + 1))), (3, .int (nI n)), (0, .ref b0), (1, .int y)]) hx hb dJ7_fill_53178_14 hl (k := 1) rfl (zn_inc u 1 (by decide)) (by decide) rfl (fun ls hl => ?_)
        refine lv_goto (tgt := 5) hx hb dJ7_fill_53178_17 (by decide) ?_
        exact hG2 _ _ _ (ih (u + 1) (upd s9 u y) (by omega) (fun j hj => (by by_cases h : j = u; (rw [h]; exact pk_us); exact (pk_un h).trans (hz j (by omega)))) (by omega) _ _ (hP.sub [0] rfl) (hD.sub [0] (by decide) rfl) hS ls (lv_sub hl [1, 0, 2, 3] rfl))
  exact hG2 _ _ _ (lp (n - 0 + 1) 0 f (by omega) (fun j hj => absurd hj (Nat.not_lt_zero j)) (Nat.lt_succ_self _) _ _ (hP.sub [0] rfl) (hD.sub [0] (by decide) rfl) hS ls (lv_sub hl [0, 1, 2, 3] rfl))
