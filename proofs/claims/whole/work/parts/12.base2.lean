/-! MORE OF MY BASE: longs, arrays behind their end, arraycopy of bytes -/
theorem zln_add {x y : Int64} {a b : Nat} (hx : x = lN a) (hy : y = lN b) : x + y = lN (a + b) := by subst hx; subst hy; exact lN_add a b
theorem zln_sub {x y : Int64} {a b : Nat} (hx : x = lN a) (hy : y = lN b) (h : b ≤ a) : x - y = lN (a - b) := by subst hx; subst hy; exact lN_sub h
theorem zln_i2l {x : Int32} {a : Nat} (hx : x = nI a) (h : a < 2 ^ 31) : x.toInt64 = lN a := by subst hx; exact nI_l h
theorem zln_l2i {x : Int64} {a : Nat} (hx : x = lN a) : x.toInt32 = nI a := by subst hx; exact lN_i a
theorem zl_cmp {x y : Int64} {a b : Int} (hx : x.toInt = a) (hy : y.toInt = b) : (a < b ∧ (lg_cmp x y).toInt = -1) ∨ (a = b ∧ (lg_cmp x y).toInt = 0) ∨ (b < a ∧ (lg_cmp x y).toInt = 1) := by
  subst hx; subst hy
  unfold lg_cmp
  by_cases h1 : y < x
  · rw [if_pos (show x > y from h1)]
    exact Or.inr (Or.inr ⟨Int64.lt_iff_toInt_lt.mp h1, rfl⟩)
  · rw [if_neg (show ¬ x > y from h1)]
    have h1 := mt Int64.lt_iff_toInt_lt.mpr h1
    by_cases h2 : x = y
    · rw [if_pos h2]
      exact Or.inr (Or.inl ⟨by rw [h2], rfl⟩)
    · rw [if_neg h2]
      have h2 := mt Int64.toInt_inj.mp h2
      exact Or.inl ⟨by omega, rfl⟩
theorem za_congr {D : va_G} {cl : List vw_C} {A : Nat → Prop} {ws : va_W} {H : Heap} (hP : va_P D cl ws H) (hD : va_D A ws) (q : Nat) {a : Nat} {cA : ClassId} {n : Nat} {f g : Nat → Int32} (h : ws[q]? = some (a, .inl (cA, n, .inl f))) (hfg : ∀ j, j < n → f j = g j) : va_P D cl (ws.set q (a, .inl (cA, n, .inl g))) H ∧ va_D A (ws.set q (a, .inl (cA, n, .inl g))) := by
  refine ⟨hP.set hD h ?_ (fun _ _ => rfl), hD.set h⟩
  have h0 : H[a]? = some (vp_cell cA (n, .inl f)) := hP q _ h
  show H[a]? = some (vp_cell cA (n, .inl g))
  rw [h0, vp_cell_i, vp_cell_i]
  unfold arrV
  congr 2
  apply Array.ext
  · simp
  · intro i h1 h2
    simp at h1
    simp [hfg i h1]
section ZL
variable {p : Program} {l : Launch} {e : Env} {R : Room} {s : State} {m : MethodId} {args : Array Value} {below : List Frame} {meth : Method} {c : Code} {H : Heap} {locs : List Loc} {cells slots : Nat} {Q : State → Prop}
variable {cc : ByteArray} {pc : Nat} {ls : Array Slot} {rest : List Value}
theorem zb_lcmp_eq {x y : Int64} {a b : Int} {off : Int} {tgt : Nat} (hexec : p.tables.exec = Jvm.exec) (hb : c.code = cc) (hd1 : decode cc pc = .ok (.lcmp, 1)) (hdg : decode cc (pc + 1) = .ok (.ifCond .eq off, 3)) (ht : ((pc + 1 : Nat) : Int) + off = (tgt : Int)) (hx : x.toInt = a) (hy : y.toInt = b) (kt : a = b → W p l e R s m args below meth c H locs cells slots Q (F0 m tgt ls rest)) (kf : a ≠ b → W p l e R s m args below meth c H locs cells slots Q (F0 m (pc + 4) ls rest)) : W p l e R s m args below meth c H locs cells slots Q (F0 m pc ls (.long y :: .long x :: rest)) := by
  have h := zl_cmp hx hy
  exact W.lcmp hexec hb hd1 (zb_if_eq hexec hb hdg ht rfl (fun h1 => kt (by omega)) (fun h1 => kf (by omega)))
theorem zb_lcmp_ne {x y : Int64} {a b : Int} {off : Int} {tgt : Nat} (hexec : p.tables.exec = Jvm.exec) (hb : c.code = cc) (hd1 : decode cc pc = .ok (.lcmp, 1)) (hdg : decode cc (pc + 1) = .ok (.ifCond .ne off, 3)) (ht : ((pc + 1 : Nat) : Int) + off = (tgt : Int)) (hx : x.toInt = a) (hy : y.toInt = b) (kt : a ≠ b → W p l e R s m args below meth c H locs cells slots Q (F0 m tgt ls rest)) (kf : a = b → W p l e R s m args below meth c H locs cells slots Q (F0 m (pc + 4) ls rest)) : W p l e R s m args below meth c H locs cells slots Q (F0 m pc ls (.long y :: .long x :: rest)) := by
  have h := zl_cmp hx hy
  exact W.lcmp hexec hb hd1 (zb_if_ne hexec hb hdg ht rfl (fun h1 => kt (by omega)) (fun h1 => kf (by omega)))
theorem zb_lcmp_lt {x y : Int64} {a b : Int} {off : Int} {tgt : Nat} (hexec : p.tables.exec = Jvm.exec) (hb : c.code = cc) (hd1 : decode cc pc = .ok (.lcmp, 1)) (hdg : decode cc (pc + 1) = .ok (.ifCond .lt off, 3)) (ht : ((pc + 1 : Nat) : Int) + off = (tgt : Int)) (hx : x.toInt = a) (hy : y.toInt = b) (kt : a < b → W p l e R s m args below meth c H locs cells slots Q (F0 m tgt ls rest)) (kf : b ≤ a → W p l e R s m args below meth c H locs cells slots Q (F0 m (pc + 4) ls rest)) : W p l e R s m args below meth c H locs cells slots Q (F0 m pc ls (.long y :: .long x :: rest)) := by
  have h := zl_cmp hx hy
  exact W.lcmp hexec hb hd1 (zb_if_lt hexec hb hdg ht rfl (fun h1 => kt (by omega)) (fun h1 => kf (by omega)))
theorem zb_lcmp_ge {x y : Int64} {a b : Int} {off : Int} {tgt : Nat} (hexec : p.tables.exec = Jvm.exec) (hb : c.code = cc) (hd1 : decode cc pc = .ok (.lcmp, 1)) (hdg : decode cc (pc + 1) = .ok (.ifCond .ge off, 3)) (ht : ((pc + 1 : Nat) : Int) + off = (tgt : Int)) (hx : x.toInt = a) (hy : y.toInt = b) (kt : b ≤ a → W p l e R s m args below meth c H locs cells slots Q (F0 m tgt ls rest)) (kf : a < b → W p l e R s m args below meth c H locs cells slots Q (F0 m (pc + 4) ls rest)) : W p l e R s m args below meth c H locs cells slots Q (F0 m pc ls (.long y :: .long x :: rest)) := by
  have h := zl_cmp hx hy
  exact W.lcmp hexec hb hd1 (zb_if_ge hexec hb hdg ht rfl (fun h1 => kt (by omega)) (fun h1 => kf (by omega)))
theorem zb_lcmp_gt {x y : Int64} {a b : Int} {off : Int} {tgt : Nat} (hexec : p.tables.exec = Jvm.exec) (hb : c.code = cc) (hd1 : decode cc pc = .ok (.lcmp, 1)) (hdg : decode cc (pc + 1) = .ok (.ifCond .gt off, 3)) (ht : ((pc + 1 : Nat) : Int) + off = (tgt : Int)) (hx : x.toInt = a) (hy : y.toInt = b) (kt : b < a → W p l e R s m args below meth c H locs cells slots Q (F0 m tgt ls rest)) (kf : a ≤ b → W p l e R s m args below meth c H locs cells slots Q (F0 m (pc + 4) ls rest)) : W p l e R s m args below meth c H locs cells slots Q (F0 m pc ls (.long y :: .long x :: rest)) := by
  have h := zl_cmp hx hy
  exact W.lcmp hexec hb hd1 (zb_if_gt hexec hb hdg ht rfl (fun h1 => kt (by omega)) (fun h1 => kf (by omega)))
theorem zb_lcmp_le {x y : Int64} {a b : Int} {off : Int} {tgt : Nat} (hexec : p.tables.exec = Jvm.exec) (hb : c.code = cc) (hd1 : decode cc pc = .ok (.lcmp, 1)) (hdg : decode cc (pc + 1) = .ok (.ifCond .le off, 3)) (ht : ((pc + 1 : Nat) : Int) + off = (tgt : Int)) (hx : x.toInt = a) (hy : y.toInt = b) (kt : a ≤ b → W p l e R s m args below meth c H locs cells slots Q (F0 m tgt ls rest)) (kf : b < a → W p l e R s m args below meth c H locs cells slots Q (F0 m (pc + 4) ls rest)) : W p l e R s m args below meth c H locs cells slots Q (F0 m pc ls (.long y :: .long x :: rest)) := by
  have h := zl_cmp hx hy
  exact W.lcmp hexec hb hd1 (zb_if_le hexec hb hdg ht rfl (fun h1 => kt (by omega)) (fun h1 => kf (by omega)))
end ZL
section ZCp
variable {p : Program} {l : Launch} {e : Env} {R : Room} {s : State} {m : MethodId} {args : Array Value} {below : List Frame} {meth : Method} {c : Code} {H : Heap} {locs : List Loc} {cells slots : Nat} {Q : State → Prop}
variable {cc : ByteArray} {pc : Nat} {ls : Array Slot} {rest : List Value} {D : va_G} {cl : List vw_C} {A : Nat → Prop} {a : Nat} {tys : List (ClassId × FieldType)} {ws : va_W} {H0 : Heap}
theorem z_copyb (hexec : p.tables.exec = Jvm.exec) (hb : c.code = cc) (hml : c.maxLocals = ls.size) {own : String} {index : Nat} (hown : s.vm.findClass own = some m.cls) (hlink : (Cond.methodLink own index arraycopyName).before args s = true) (hnat : (Cond.native arraycopyName).before args s = true) (hstat : (Cond.static arraycopyName).before args s = true) (hini : (Cond.initialized "java/lang/System").before args s = true)
    (hK : va_K D cl tys s) (hP : va_P D cl ws H) (hD : va_D A ws) (hS : va_S A H0 H locs) (q0 q1 t0 t1 : Nat) {a0 : Nat} {c0 c1 : ClassId} {n0 n1 : Nat} {f g : Nat → Int32} (ha0 : ws[q0]? = some (a0, .inl (c0, n0, .inl f))) (ha1 : ws[q1]? = some (a, .inl (c1, n1, .inl g))) (ht0 : tys[t0]? = some (c0, .byte)) (ht1 : tys[t1]? = some (c1, .byte))
    {i k d : Nat} (hi : i < 2 ^ 31) (hk : k < 2 ^ 31) (hd : d < 2 ^ 31) (h4 : i + k ≤ n0) (h5 : d + k ≤ n1) (hf : bytF f)
    (hframes : 1 ≤ R.frames) (hlocals : (rest.map fun v => v.category).sum + (nativeFrameWords "java/lang/System" "arraycopy" 5 + 11) ≤ R.locals) (hdg : decode cc pc = .ok (.invokestatic index, 3))
    (kk : ∀ (H1 : Heap) (locs1 : List Loc), va_P D cl (ws.set q1 (a, .inl (c1, n1, .inl (apF g d k (fun j => f (i + j)))))) H1 → va_D A (ws.set q1 (a, .inl (c1, n1, .inl (apF g d k (fun j => f (i + j)))))) → va_S A H0 H1 locs1 → W p l e R s m args below meth c H1 locs1 cells slots Q (F0 m (pc + 3) ls rest)) : W p l e R s m args below meth c H locs cells slots Q (F0 m pc ls (.int (nI k) :: .int (nI d) :: .ref a :: .int (nI i) :: .ref a0 :: rest)) := by
  have e1 := nI_clamp hi
  have e2 := nI_clamp hk
  have e3 := nI_clamp hd
  refine va_copyi hexec hb hml hown hlink hnat hstat hini hK hP hD hS q0 q1 t0 t1 ha0 ha1 ht0 ht1 rfl (nI_pos hi) (nI_pos hd) (nI_pos hk) (by rw [e1, e2]; exact h4) (by rw [e3, e2]; exact h5) (fun j _ => byt_fit (hf _)) hframes hlocals hdg (fun H1 locs1 hP1 hD1 hS1 => ?_)
  rw [e1, e2, e3] at hP1 hD1
  exact kk H1 locs1 hP1 hD1 hS1
end ZCp
