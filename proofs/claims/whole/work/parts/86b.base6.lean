/-! PRIVATE CONSTRUCTORS OF NEST MATES -/
def zN (U : State) : Prop := va_Nw (.methodLinkNest RX7 31 yX3_init RX7) U ∧ va_Nw (.methodLinkNest RX7 38 yX6_init RX7) U ∧ va_Nw (.methodLinkNest RX7 100 yX1_init RX7) U
theorem zN.warm {s U : State} (hW : s.WarmedH U.vm) (h : zN s) : zN U := ⟨va_Nw.warmM hW h.1, va_Nw.warmM hW h.2.1, va_Nw.warmM hW h.2.2⟩
theorem zN.same {u U : State} (hv : u.vm = U.vm) (h : zN u) : zN U := ⟨va_Nw.same rfl hv h.1, va_Nw.same rfl hv h.2.1, va_Nw.same rfl hv h.2.2⟩
def zPreN (D : va_G) (cl : List vw_C) (tys : List (ClassId × FieldType)) (ws : va_W) (sz : Nat) : State → Prop := fun U => U.heap.size = sz ∧ va_P D cl ws U.heap ∧ va_K D cl tys U ∧ va_D (fun _ => True) ws ∧ zN U
abbrev zMiN (l : Launch) (y : MethodName) (ws : List Cond) (rm : Room) (D : va_G) (kB kI : ClassId) (av : List Value) (wc : va_W) (mc ms : Nat) {S : Type} (post : Int32 → S → Prop) (w1 : S → va_W) : Prop := ∀ sz : Nat, Met l y ws rm (va_Pc av (zPreN D vwCl (zT kB kI) wc sz)) (va_Qi post (zB D vwCl (zT kB kI) w1 (va_A wc sz)) (va_A wc sz)) mc ms (va_A wc sz)
abbrev zMvN (l : Launch) (y : MethodName) (ws : List Cond) (rm : Room) (D : va_G) (kB kI : ClassId) (av : List Value) (wc : va_W) (mc ms : Nat) {S : Type} (post : S → Prop) (w1 : S → va_W) : Prop := ∀ sz : Nat, Met l y ws rm (va_Pc av (zPreN D vwCl (zT kB kI) wc sz)) (va_Qv post (zB D vwCl (zT kB kI) w1 (va_A wc sz)) (va_A wc sz)) mc ms (va_A wc sz)
section ZNN
variable {s : State} {H : Heap} {As : List Value} {A : Nat → Prop} {D : va_G} {cl : List vw_C} {tys : List (ClassId × FieldType)} {wc : va_W}
theorem zPreN_blind {av : List Value} {sz : Nat} : FrameBlind (va_Pc av (zPreN D cl tys wc sz)) := fun a U g mk q => by
  obtain ⟨q0, q1, qP, qK, qD, qN⟩ := q
  exact ⟨q0, q1, qP, va_K.moved (u := U) (U := U.calling g mk a) (Vm.Alike.refl U.vm) qK, qD, zN.same (u := U) (U := U.calling g mk a) rfl qN⟩
theorem z_preVN {C : String} {b : Addr} (hN : zN s) (hK : va_K D cl tys s) (hP : va_P D cl wc H) (hD : va_D A wc) (hr : ∃ cell : Cell, H[b]? = some cell ∧ cell.vm.isStatics = false ∧ s.vm.findClass C = some cell.cls) : PreV s H C b (va_Pc (.ref b :: As) (zPreN D cl tys wc H.size)) As :=
  ⟨zPreN_blind, hr, fun U hU hW => ⟨rfl, by rw [hU], by rw [hU]; exact hP, va_K.moved hW.alike hK, hD.weaken (fun _ _ _ _ => trivial), zN.warm hW hN⟩⟩
theorem z_preSN (hN : zN s) (hK : va_K D cl tys s) (hP : va_P D cl wc H) (hD : va_D A wc) : PreS s H (va_Pc As (zPreN D cl tys wc H.size)) As :=
  ⟨zPreN_blind, fun U hU hW => ⟨rfl, by rw [hU], by rw [hU]; exact hP, va_K.moved hW.alike hK, hD.weaken (fun _ _ _ _ => trivial), zN.warm hW hN⟩⟩
end ZNN
