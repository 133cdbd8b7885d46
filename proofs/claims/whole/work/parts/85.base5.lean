/-! MAKING CELLS; STATIC TABLES -/
def optL (j : Nat) : Int32 := if j < 4 then 0 else if j = 4 then 4 else 1
def optM (j : Nat) : Int32 := if j < 4 then 1 else if j = 4 then 7 else 65536
def optD (j : Nat) : Int32 := if j < 4 then 0 else if j = 4 then 4 else 65536
theorem optL_i (j : Nat) : (optL j).toInt = optLo j := by
  unfold optL optLo
  split
  · rfl
  · split <;> rfl
theorem optM_i (j : Nat) : (optM j).toInt = optHi j := by
  unfold optM optHi
  split
  · rfl
  · split <;> rfl
def zO (A : Nat → Prop) (U : State) : Prop := ∃ t1 t2 : Nat, va_Z "SequenceFrames$Options" "LEAST" "[I" (.ref t1) A U U.heap ∧ va_Z "SequenceFrames$Options" "MOST" "[I" (.ref t2) A U U.heap ∧ va_T .int t1 6 (fun j => .int (optL j)) A U U.heap ∧ va_T .int t2 6 (fun j => .int (optM j)) A U U.heap
theorem zO.go {A B : Nat → Prop} {s U : State} {H : Heap} {locs : List Loc} (h : zO A s) (hS : va_S A s.heap H locs) (hBA : ∀ q, B q → A q) (hvm : s.vm.Alike U.vm) (hU : U.heap = H) : zO B U := by
  obtain ⟨t1, t2, h1, h2, h3, h4⟩ := h
  have hq : ∀ a : Nat, a < s.heap.size → ¬ A a → U.heap[a]? = s.heap[a]? := fun a x y => by rw [hU]; exact hS.2.1 a x y
  exact ⟨t1, t2, va_Z.moved hvm ((h1.kept hq).narrow hBA), va_Z.moved hvm ((h2.kept hq).narrow hBA), va_T.moved hvm ((h3.kept hq).narrow hBA), va_T.moved hvm ((h4.kept hq).narrow hBA)⟩
theorem zO.mv {A : Nat → Prop} {u U : State} (hvm : u.vm.Alike U.vm) (hh : U.heap = u.heap) (h : zO A u) : zO A U := by
  obtain ⟨t1, t2, h1, h2, h3, h4⟩ := h
  refine ⟨t1, t2, ?_, ?_, ?_, ?_⟩
  · rw [hh]; exact va_Z.moved hvm h1
  · rw [hh]; exact va_Z.moved hvm h2
  · rw [hh]; exact va_T.moved hvm h3
  · rw [hh]; exact va_T.moved hvm h4
def zPreO (D : va_G) (cl : List vw_C) (tys : List (ClassId × FieldType)) (ws : va_W) (sz : Nat) : State → Prop := fun U => U.heap.size = sz ∧ va_P D cl ws U.heap ∧ va_K D cl tys U ∧ va_D (fun _ => True) ws ∧ zO (va_A ws sz) U
abbrev zMiO (l : Launch) (y : MethodName) (ws : List Cond) (rm : Room) (D : va_G) (kB kI : ClassId) (av : List Value) (wc : va_W) (mc ms : Nat) {S : Type} (post : Int32 → S → Prop) (w1 : S → va_W) : Prop := ∀ sz : Nat, Met l y ws rm (va_Pc av (zPreO D vwCl (zT kB kI) wc sz)) (va_Qi post (zB D vwCl (zT kB kI) w1 (va_A wc sz)) (va_A wc sz)) mc ms (va_A wc sz)
section ZN
variable {p : Program} {l : Launch} {e : Env} {R : Room} {s : State} {m : MethodId} {args : Array Value} {below : List Frame} {meth : Method} {c : Code} {H : Heap} {locs : List Loc} {cells slots : Nat} {Q : State → Prop}
variable {cc : ByteArray} {pc : Nat} {ls : Array Slot} {rest st0 As : List Value} {a : Array Value} {A : Nat → Prop} {D : va_G} {cl : List vw_C} {tys : List (ClassId × FieldType)} {ws wc wr : va_W} {kB kI : ClassId} {mc ms : Nat}
theorem zPreO_blind {av : List Value} {sz : Nat} : FrameBlind (va_Pc av (zPreO D cl tys wc sz)) := fun a U g mk q => by
  obtain ⟨q0, q1, qP, qK, qD, qO⟩ := q
  exact ⟨q0, q1, qP, va_K.moved (u := U) (U := U.calling g mk a) (Vm.Alike.refl U.vm) qK, qD, zO.mv (u := U) (U := U.calling g mk a) (Vm.Alike.refl U.vm) rfl qO⟩
theorem z_preVO {C : String} {b : Addr} (hK : va_K D cl tys s) (hP : va_P D cl wc H) (hD : va_D A wc) (hO : zO A s) (hS : va_S A s.heap H locs) (hF : ∀ q, va_A wc H.size q → A q) (hr : ∃ cell : Cell, H[b]? = some cell ∧ cell.vm.isStatics = false ∧ s.vm.findClass C = some cell.cls) : PreV s H C b (va_Pc (.ref b :: As) (zPreO D cl tys wc H.size)) As :=
  ⟨zPreO_blind, hr, fun U hU hW => ⟨rfl, by rw [hU], by rw [hU]; exact hP, va_K.moved hW.alike hK, hD.weaken (fun _ _ _ _ => trivial), hO.go hS hF hW.alike hU⟩⟩
theorem z_nneg {N' : Nat} (hN : N' ≤ 1000000) : ¬ nI N' < 0 := fun h => by
  have h := Int32.lt_iff_toInt_lt.mp h
  rw [nI_toInt (by omega)] at h
  have h0 : (0 : Int32).toInt = 0 := rfl
  omega
theorem z_newB (hexec : p.tables.exec = Jvm.exec) (hb : c.code = cc) (harr : (Cond.arrayClass .byte).before args s = true) (hK : va_K D cl (zT kB kI) s) (hP : va_P D cl ws H) (hD : va_D A ws) (hS : va_S A s.heap H locs) (hA : ∀ q, s.heap.size ≤ q → A q) {n : Int32} {N' : Nat} (hn : n = nI N') (hN : N' ≤ 1000000) (hcells : cells + 1 ≤ R.cells) (hslots : slots + N' ≤ R.slots) (hdg : decode cc pc = .ok (.newarray .byte, 2))
    (kk : ∀ (q : Nat) (H1 : Heap), va_P D cl (ws ++ [(q, .inl (kB, N', .inl (fun _ => 0)))]) H1 → va_D A (ws ++ [(q, .inl (kB, N', .inl (fun _ => 0)))]) → va_S A s.heap H1 locs → W p l e R s m args below meth c H1 locs (cells + 1) (slots + N') Q (F0 m (pc + 2) ls (.ref q :: rest))) : W p l e R s m args below meth c H locs cells slots Q (F0 m pc ls (.int n :: rest)) := by
  subst hn
  refine va_newa (atype := .byte) (a0 := (N', .inl (fun _ => 0))) (ty := .byte) hexec hb harr rfl hK hP hD hS hA (fun cA => rfl) (z_nneg hN) (nI_clamp (by omega)) (by show N' * 1 ≤ 536870912; omega) hcells hslots hdg (fun q cA H1 hK1 hP1 hD1 hS1 => ?_)
  have e1 : s.vm.findClass ("[" ++ (FieldType.byte).toString) = some cA := (hK1.2 2 _ rfl).2
  have e2 : s.vm.findClass ("[" ++ (FieldType.byte).toString) = some kB := (hK.2 0 _ rfl).2
  obtain rfl : kB = cA := Option.some.inj (e2.symm.trans e1)
  exact kk q H1 hP1 hD1 hS1
theorem z_newI (hexec : p.tables.exec = Jvm.exec) (hb : c.code = cc) (harr : (Cond.arrayClass .int).before args s = true) (hK : va_K D cl (zT kB kI) s) (hP : va_P D cl ws H) (hD : va_D A ws) (hS : va_S A s.heap H locs) (hA : ∀ q, s.heap.size ≤ q → A q) {n : Int32} {N' : Nat} (hn : n = nI N') (hN : N' ≤ 1000000) (hcells : cells + 1 ≤ R.cells) (hslots : slots + N' ≤ R.slots) (hdg : decode cc pc = .ok (.newarray .int, 2))
    (kk : ∀ (q : Nat) (H1 : Heap), va_P D cl (ws ++ [(q, .inl (kI, N', .inl (fun _ => 0)))]) H1 → va_D A (ws ++ [(q, .inl (kI, N', .inl (fun _ => 0)))]) → va_S A s.heap H1 locs → W p l e R s m args below meth c H1 locs (cells + 1) (slots + N') Q (F0 m (pc + 2) ls (.ref q :: rest))) : W p l e R s m args below meth c H locs cells slots Q (F0 m pc ls (.int n :: rest)) := by
  subst hn
  refine va_newa (atype := .int) (a0 := (N', .inl (fun _ => 0))) (ty := .int) hexec hb harr rfl hK hP hD hS hA (fun cA => rfl) (z_nneg hN) (nI_clamp (by omega)) (by show N' * 4 ≤ 536870912; omega) hcells hslots hdg (fun q cA H1 hK1 hP1 hD1 hS1 => ?_)
  have e1 : s.vm.findClass ("[" ++ (FieldType.int).toString) = some cA := (hK1.2 2 _ rfl).2
  have e2 : s.vm.findClass ("[" ++ (FieldType.int).toString) = some kI := (hK.2 1 _ rfl).2
  obtain rfl : kI = cA := Option.some.inj (e2.symm.trans e1)
  exact kk q H1 hP1 hD1 hS1
theorem z_calliA {S : Type} {post : Int32 → S → Prop} {w1 : S → va_W} (hr : va_Run p l e R s m args below meth c H locs cells slots mc ms (F0 m pc ls st0) rest (va_Qi post (zB D cl tys w1 (va_A wc H.size)) (va_A wc H.size) a) (va_A wc H.size)) (hK : va_K D cl tys s) (hP : va_P D cl ws H) (hD : va_D A ws) (hS : va_S A s.heap H locs) (hA : ∀ q, s.heap.size ≤ q → A q) (isC isR : List Nat) (hC : isC.map (fun i => ws[i]?) = wc.map some) (hR : isR.map (fun i => ws[i]?) = wr.map some) (hn : va_nd isR = true) (hdis : ∀ i ∈ isR, i ∉ isC)
    (kk : ∀ (r : Int32) (u : S) (H1 : Heap) (locs1 : List Loc), post r u → va_P D cl (wr ++ w1 u) H1 → va_D A (wr ++ w1 u) → va_S A s.heap H1 locs1 → W p l e R s m args below meth c H1 locs1 (cells + mc) (slots + ms) Q (F0 m (pc + 3) ls (.int r :: rest))) : W p l e R s m args below meth c H locs cells slots Q (F0 m pc ls st0) := by
  have hF := va_free (wc := wc) hD hS hA isC hC
  refine va_calli hr hS (fun q _ h => hF q h) hF (fun r u t H1 locs1 ht hvm hw hB hz hk hS1 => ?_)
  obtain ⟨hP1, hK1, hD1⟩ := hB
  rw [ht] at hP1
  obtain ⟨hP2, hD2⟩ := va_join hP hD isC isR hC hR hn hdis hk hF hP1 hD1
  exact kk r u H1 locs1 hw hP2 hD2 hS1
theorem z_callvA {S : Type} {post : S → Prop} {w1 : S → va_W} (hr : va_Run p l e R s m args below meth c H locs cells slots mc ms (F0 m pc ls st0) rest (va_Qv post (zB D cl tys w1 (va_A wc H.size)) (va_A wc H.size) a) (va_A wc H.size)) (hK : va_K D cl tys s) (hP : va_P D cl ws H) (hD : va_D A ws) (hS : va_S A s.heap H locs) (hA : ∀ q, s.heap.size ≤ q → A q) (isC isR : List Nat) (hC : isC.map (fun i => ws[i]?) = wc.map some) (hR : isR.map (fun i => ws[i]?) = wr.map some) (hn : va_nd isR = true) (hdis : ∀ i ∈ isR, i ∉ isC)
    (kk : ∀ (u : S) (H1 : Heap) (locs1 : List Loc), post u → va_P D cl (wr ++ w1 u) H1 → va_D A (wr ++ w1 u) → va_S A s.heap H1 locs1 → W p l e R s m args below meth c H1 locs1 (cells + mc) (slots + ms) Q (F0 m (pc + 3) ls rest)) : W p l e R s m args below meth c H locs cells slots Q (F0 m pc ls st0) := by
  have hF := va_free (wc := wc) hD hS hA isC hC
  refine va_callv hr hS (fun q _ h => hF q h) hF (fun u t H1 locs1 ht hvm hw hB hz hk hS1 => ?_)
  obtain ⟨hP1, hK1, hD1⟩ := hB
  rw [ht] at hP1
  obtain ⟨hP2, hD2⟩ := va_join hP hD isC isR hC hR hn hdis hk hF hP1 hD1
  exact kk u H1 locs1 hw hP2 hD2 hS1
end ZN
theorem z_max0 {k : Nat} (h : k ≤ 1000000) : (if (0 : Int32) < nI k then nI k else 0) = nI k := by
  by_cases h0 : k = 0
  · subst h0; decide
  · rw [if_pos (show (0 : Int32) < nI k from nI_lt (a := 0) (by omega) (by omega))]
