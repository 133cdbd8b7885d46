set_option maxHeartbeats 4000000 in
set_option maxRecDepth 100000 in
theorem lw_loop {p : Program} {l : Launch} {e : Env} {s : State} {m : MethodId} {below : List Frame} {meth : Method} {c : Code} {dC : Nat → ClassId} {dI : Nat → Nat → Nat} {kB kI : ClassId} {A : Nat → Prop} {b L : Nat} {xs : Nat → Int32} (hL : L ≤ 2560) (C0 : lw_At p s m meth c b L xs) (F0' : lwF s dC dI kB kI A b) : ∀ (kf i cells slots : Nat), L + 5 - 5 * i < kf → 5 * i ≤ L + 5 → cells = 30 + 3 * i → slots = 2468286 + 27 * i → lwH p l e s m below meth c dC dI kB kI A b cells slots 18 i := by
  obtain ⟨hx, hb, hr, hml, hown, hts, hX, hbl, hlocks, hgv⟩ := id C0
  have hts := fun w h => hts w (wsL_law_in w h)
  have hown : s.vm.findClass RL = some m.cls := hown
  obtain ⟨hK, hO, hA, hbA, hAs, hN⟩ := id F0'
  have rc : room_1.cells = 60000 := rfl
  have rs : room_1.slots = 8922250 := rfl
  intro kf
  induction kf with
  | zero => intro i cells slots hm; exact absurd hm (Nat.not_lt_zero _)
  | succ kf ih =>
    intro i cells slots hm hil hcc hss
    have hNext : 5 * i + 5 ≤ L → lwH p l e s m below meth c dC dI kB kI A b (cells + 3) (slots + 27) 732 i := by
      intro hi t0 a0 a1 g0 g1 e0 e1 h0 h1 o0 o1 s0 s1 s2 s3 p0 b0 m0 mC mF mO mP q0 q1 q2 q3 q4 mS mH mM f fr fo fs v st li of ta fm om u0 u1 u2 u3 u4 sl hd mm n n1 n2 n3 pt nu ma bl ra fp tf tb z0 z21 z22 z23 z25 z26 z29 z30 z31 z32 z33 z34 z35 z38 z8 z36 z37 sn hn hf hn1 hfr hag hn2 hfo hom hao hn3 hfs hmm hv hnu hpt hpt2 hE H locs hP hD hS ls hl
      refine lv_iinc (v := (nI ((5 * i) + 5))) (lv' := [(3, .int (nI ((5 * i) + 5))), (0, .ref b), (1, .ref t0), (2, .ref m0)]) hx hb dL_law_732 hl (k := 3) rfl (zn_inc (5 * i) 5 (by decide)) (by decide) rfl (fun ls hl => ?_)
      refine lv_goto (tgt := 18) hx hb dL_law_735 (by decide) ?_
      have eq9 : ((nI ((5 * i) + 5)) : Int32) = (nI (5 * (i + 1))) := congrArg nI (by omega)
      have hl : lv_has ls 4 [(3, .int (nI (5 * (i + 1)))), (0, .ref b), (1, .ref t0), (2, .ref m0)] := by rw [← eq9]; exact hl
      exact ih (i + 1) (cells + 3) (slots + 27) (by omega) (by omega) (by omega) (by omega) t0 a0 a1 g0 g1 e0 e1 h0 h1 o0 o1 s0 s1 s2 s3 p0 b0 m0 mC mF mO mP q0 q1 q2 q3 q4 mS mH mM f fr fo fs v st li of ta fm om u0 u1 u2 u3 u4 sl hd mm n n1 n2 n3 pt nu ma bl ra fp tf tb z0 z21 z22 z23 z25 z26 z29 z30 z31 z32 z33 z34 z35 z38 z8 z36 z37 sn hn hf hn1 hfr hag hn2 hfo hom hao hn3 hfs hmm hv hnu hpt hpt2 hE _ _ hP hD hS ls (lv_sub hl [1, 2, 3, 0] rfl)
    intro t0 a0 a1 g0 g1 e0 e1 h0 h1 o0 o1 s0 s1 s2 s3 p0 b0 m0 mC mF mO mP q0 q1 q2 q3 q4 mS mH mM f fr fo fs v st li of ta fm om u0 u1 u2 u3 u4 sl hd mm n n1 n2 n3 pt nu ma bl ra fp tf tb z0 z21 z22 z23 z25 z26 z29 z30 z31 z32 z33 z34 z35 z38 z8 z36 z37 sn hn hf hn1 hfr hag hn2 hfo hom hao hn3 hfs hmm hv hnu hpt hpt2 hE H locs hP hD hS ls hl
    refine lv_iload_n hx hb dL_law_18 rfl (lv_at hl 3 rfl) ?_
    refine lv_aload_n hx hb dL_law_19 rfl (lv_at hl 0 rfl) ?_
    refine va_slen hx hb hX hbl hbA hS dL_law_20 ?_
    refine lv_is (y := (nI L)) (rfl) ?_
    refine lv_iconst (v := 5) hx hb dL_law_21 (by decide) ?_
    refine lv_isub hx hb dL_law_22 ?_
    refine zb_icmp_gt (tgt := 738) (a := ((5 * i : Nat) : Int)) (b := (((L : Nat) : Int) - 5)) hx hb dL_law_23 (by decide) (nI_toInt (by omega)) (zi_sub (nI_toInt (by omega)) (by decide) (by omega) (by omega)) (fun c23 => ?_) (fun c23 => ?_)
    · refine lv_iconst (v := 1) hx hb dL_law_738 (by decide) ?_
      refine va_forget (fun q hq => hAs _ (hS.2.2 q hq)) ?_
      refine W.widen (k := 60000) (n := 8922250) (by omega) (by omega) ?_
      exact lw_ret hx hb hr hlocks dL_law_739
    · have hi : 5 * i + 5 ≤ L := by omega
      obtain ⟨x0, ex0⟩ : ∃ z, xs (5 * i) = z := ⟨_, rfl⟩
      refine lv_aload_n hx hb dL_law_26 rfl (lv_at hl 0 rfl) ?_
      refine lv_iload_n hx hb dL_law_27 rfl (lv_at hl 3 rfl) ?_
      refine va_sld hx hb hX hbl hbA hS (zin rfl (by omega) (by omega)) dL_law_28 ?_
      refine lv_is (y := x0) ((zld xs rfl (by omega)).trans ex0) ?_
      refine lv_bipush (v := 31) hx hb dL_law_29 (by decide) ?_
      refine lv_iand hx hb dL_law_31 ?_
      rcases (show ((x0 &&& 31)).toInt = 0 ∨ ((x0 &&& 31)).toInt = 1 ∨ ((x0 &&& 31)).toInt = 2 ∨ ((x0 &&& 31)).toInt = 3 ∨ ((x0 &&& 31)).toInt = 4 ∨ ((x0 &&& 31)).toInt = 5 ∨ ((x0 &&& 31)).toInt = 6 ∨ ((x0 &&& 31)).toInt = 7 ∨ ((x0 &&& 31)).toInt = 8 ∨ ((x0 &&& 31)).toInt = 9 ∨ ((x0 &&& 31)).toInt = 10 ∨ ((x0 &&& 31)).toInt = 11 ∨ ((x0 &&& 31)).toInt = 12 ∨ ((x0 &&& 31)).toInt = 13 ∨ ((x0 &&& 31)).toInt = 14 ∨ ((x0 &&& 31)).toInt = 15 ∨ ((x0 &&& 31)).toInt = 16 ∨ ((x0 &&& 31)).toInt = 17 ∨ ((x0 &&& 31)).toInt = 18 ∨ (((x0 &&& 31)).toInt < 0 ∨ 18 < ((x0 &&& 31)).toInt) by omega) with ek | ek | ek | ek | ek | ek | ek | ek | ek | ek | ek | ek | ek | ek | ek | ek | ek | ek | ek | ek
      · refine z_swIn (off := 92) (tgt := 124) hx hb 0 dL_law_32 ((rfl).trans ek) (by decide) (by decide) (by decide) (by decide) ?_
        exact lw_case0 hL C0 F0' hi (by omega) (by omega) (hNext hi) t0 a0 a1 g0 g1 e0 e1 h0 h1 o0 o1 s0 s1 s2 s3 p0 b0 m0 mC mF mO mP q0 q1 q2 q3 q4 mS mH mM f fr fo fs v st li of ta fm om u0 u1 u2 u3 u4 sl hd mm n n1 n2 n3 pt nu ma bl ra fp tf tb z0 z21 z22 z23 z25 z26 z29 z30 z31 z32 z33 z34 z35 z38 z8 z36 z37 sn hn hf hn1 hfr hag hn2 hfo hom hao hn3 hfs hmm hv hnu hpt hpt2 hE _ _ hP hD hS ls hl
      · refine z_swIn (off := 155) (tgt := 187) hx hb 1 dL_law_32 ((rfl).trans ek) (by decide) (by decide) (by decide) (by decide) ?_
        exact lw_case1 hL C0 F0' hi (by omega) (by omega) (hNext hi) t0 a0 a1 g0 g1 e0 e1 h0 h1 o0 o1 s0 s1 s2 s3 p0 b0 m0 mC mF mO mP q0 q1 q2 q3 q4 mS mH mM f fr fo fs v st li of ta fm om u0 u1 u2 u3 u4 sl hd mm n n1 n2 n3 pt nu ma bl ra fp tf tb z0 z21 z22 z23 z25 z26 z29 z30 z31 z32 z33 z34 z35 z38 z8 z36 z37 sn hn hf hn1 hfr hag hn2 hfo hom hao hn3 hfs hmm hv hnu hpt hpt2 hE _ _ hP hD hS ls hl
      · refine z_swIn (off := 188) (tgt := 220) hx hb 2 dL_law_32 ((rfl).trans ek) (by decide) (by decide) (by decide) (by decide) ?_
        exact lw_case2 hL C0 F0' hi (by omega) (by omega) (hNext hi) t0 a0 a1 g0 g1 e0 e1 h0 h1 o0 o1 s0 s1 s2 s3 p0 b0 m0 mC mF mO mP q0 q1 q2 q3 q4 mS mH mM f fr fo fs v st li of ta fm om u0 u1 u2 u3 u4 sl hd mm n n1 n2 n3 pt nu ma bl ra fp tf tb z0 z21 z22 z23 z25 z26 z29 z30 z31 z32 z33 z34 z35 z38 z8 z36 z37 sn hn hf hn1 hfr hag hn2 hfo hom hao hn3 hfs hmm hv hnu hpt hpt2 hE _ _ hP hD hS ls hl
      · refine z_swIn (off := 221) (tgt := 253) hx hb 3 dL_law_32 ((rfl).trans ek) (by decide) (by decide) (by decide) (by decide) ?_
        exact lw_case3 hL C0 F0' hi (by omega) (by omega) (hNext hi) t0 a0 a1 g0 g1 e0 e1 h0 h1 o0 o1 s0 s1 s2 s3 p0 b0 m0 mC mF mO mP q0 q1 q2 q3 q4 mS mH mM f fr fo fs v st li of ta fm om u0 u1 u2 u3 u4 sl hd mm n n1 n2 n3 pt nu ma bl ra fp tf tb z0 z21 z22 z23 z25 z26 z29 z30 z31 z32 z33 z34 z35 z38 z8 z36 z37 sn hn hf hn1 hfr hag hn2 hfo hom hao hn3 hfs hmm hv hnu hpt hpt2 hE _ _ hP hD hS ls hl
      · refine z_swIn (off := 254) (tgt := 286) hx hb 4 dL_law_32 ((rfl).trans ek) (by decide) (by decide) (by decide) (by decide) ?_
        exact lw_case4 hL C0 F0' hi (by omega) (by omega) (hNext hi) t0 a0 a1 g0 g1 e0 e1 h0 h1 o0 o1 s0 s1 s2 s3 p0 b0 m0 mC mF mO mP q0 q1 q2 q3 q4 mS mH mM f fr fo fs v st li of ta fm om u0 u1 u2 u3 u4 sl hd mm n n1 n2 n3 pt nu ma bl ra fp tf tb z0 z21 z22 z23 z25 z26 z29 z30 z31 z32 z33 z34 z35 z38 z8 z36 z37 sn hn hf hn1 hfr hag hn2 hfo hom hao hn3 hfs hmm hv hnu hpt hpt2 hE _ _ hP hD hS ls hl
      · refine z_swIn (off := 287) (tgt := 319) hx hb 5 dL_law_32 ((rfl).trans ek) (by decide) (by decide) (by decide) (by decide) ?_
        exact lw_case5 hL C0 F0' hi (by omega) (by omega) (hNext hi) t0 a0 a1 g0 g1 e0 e1 h0 h1 o0 o1 s0 s1 s2 s3 p0 b0 m0 mC mF mO mP q0 q1 q2 q3 q4 mS mH mM f fr fo fs v st li of ta fm om u0 u1 u2 u3 u4 sl hd mm n n1 n2 n3 pt nu ma bl ra fp tf tb z0 z21 z22 z23 z25 z26 z29 z30 z31 z32 z33 z34 z35 z38 z8 z36 z37 sn hn hf hn1 hfr hag hn2 hfo hom hao hn3 hfs hmm hv hnu hpt hpt2 hE _ _ hP hD hS ls hl
      · refine z_swIn (off := 310) (tgt := 342) hx hb 6 dL_law_32 ((rfl).trans ek) (by decide) (by decide) (by decide) (by decide) ?_
        exact lw_case6 hL C0 F0' hi (by omega) (by omega) (hNext hi) t0 a0 a1 g0 g1 e0 e1 h0 h1 o0 o1 s0 s1 s2 s3 p0 b0 m0 mC mF mO mP q0 q1 q2 q3 q4 mS mH mM f fr fo fs v st li of ta fm om u0 u1 u2 u3 u4 sl hd mm n n1 n2 n3 pt nu ma bl ra fp tf tb z0 z21 z22 z23 z25 z26 z29 z30 z31 z32 z33 z34 z35 z38 z8 z36 z37 sn hn hf hn1 hfr hag hn2 hfo hom hao hn3 hfs hmm hv hnu hpt hpt2 hE _ _ hP hD hS ls hl
      · refine z_swIn (off := 343) (tgt := 375) hx hb 7 dL_law_32 ((rfl).trans ek) (by decide) (by decide) (by decide) (by decide) ?_
        exact lw_case7 hL C0 F0' hi (by omega) (by omega) (hNext hi) t0 a0 a1 g0 g1 e0 e1 h0 h1 o0 o1 s0 s1 s2 s3 p0 b0 m0 mC mF mO mP q0 q1 q2 q3 q4 mS mH mM f fr fo fs v st li of ta fm om u0 u1 u2 u3 u4 sl hd mm n n1 n2 n3 pt nu ma bl ra fp tf tb z0 z21 z22 z23 z25 z26 z29 z30 z31 z32 z33 z34 z35 z38 z8 z36 z37 sn hn hf hn1 hfr hag hn2 hfo hom hao hn3 hfs hmm hv hnu hpt hpt2 hE _ _ hP hD hS ls hl
      · refine z_swIn (off := 356) (tgt := 388) hx hb 8 dL_law_32 ((rfl).trans ek) (by decide) (by decide) (by decide) (by decide) ?_
        exact lw_case8 hL C0 F0' hi (by omega) (by omega) (hNext hi) t0 a0 a1 g0 g1 e0 e1 h0 h1 o0 o1 s0 s1 s2 s3 p0 b0 m0 mC mF mO mP q0 q1 q2 q3 q4 mS mH mM f fr fo fs v st li of ta fm om u0 u1 u2 u3 u4 sl hd mm n n1 n2 n3 pt nu ma bl ra fp tf tb z0 z21 z22 z23 z25 z26 z29 z30 z31 z32 z33 z34 z35 z38 z8 z36 z37 sn hn hf hn1 hfr hag hn2 hfo hom hao hn3 hfs hmm hv hnu hpt hpt2 hE _ _ hP hD hS ls hl
      · refine z_swIn (off := 399) (tgt := 431) hx hb 9 dL_law_32 ((rfl).trans ek) (by decide) (by decide) (by decide) (by decide) ?_
        exact lw_case9 hL C0 F0' hi (by omega) (by omega) (hNext hi) t0 a0 a1 g0 g1 e0 e1 h0 h1 o0 o1 s0 s1 s2 s3 p0 b0 m0 mC mF mO mP q0 q1 q2 q3 q4 mS mH mM f fr fo fs v st li of ta fm om u0 u1 u2 u3 u4 sl hd mm n n1 n2 n3 pt nu ma bl ra fp tf tb z0 z21 z22 z23 z25 z26 z29 z30 z31 z32 z33 z34 z35 z38 z8 z36 z37 sn hn hf hn1 hfr hag hn2 hfo hom hao hn3 hfs hmm hv hnu hpt hpt2 hE _ _ hP hD hS ls hl
      · refine z_swIn (off := 462) (tgt := 494) hx hb 10 dL_law_32 ((rfl).trans ek) (by decide) (by decide) (by decide) (by decide) ?_
        exact lw_case10 hL C0 F0' hi (by omega) (by omega) (hNext hi) t0 a0 a1 g0 g1 e0 e1 h0 h1 o0 o1 s0 s1 s2 s3 p0 b0 m0 mC mF mO mP q0 q1 q2 q3 q4 mS mH mM f fr fo fs v st li of ta fm om u0 u1 u2 u3 u4 sl hd mm n n1 n2 n3 pt nu ma bl ra fp tf tb z0 z21 z22 z23 z25 z26 z29 z30 z31 z32 z33 z34 z35 z38 z8 z36 z37 sn hn hf hn1 hfr hag hn2 hfo hom hao hn3 hfs hmm hv hnu hpt hpt2 hE _ _ hP hD hS ls hl
      · refine z_swIn (off := 495) (tgt := 527) hx hb 11 dL_law_32 ((rfl).trans ek) (by decide) (by decide) (by decide) (by decide) ?_
        exact lw_case11 hL C0 F0' hi (by omega) (by omega) (hNext hi) t0 a0 a1 g0 g1 e0 e1 h0 h1 o0 o1 s0 s1 s2 s3 p0 b0 m0 mC mF mO mP q0 q1 q2 q3 q4 mS mH mM f fr fo fs v st li of ta fm om u0 u1 u2 u3 u4 sl hd mm n n1 n2 n3 pt nu ma bl ra fp tf tb z0 z21 z22 z23 z25 z26 z29 z30 z31 z32 z33 z34 z35 z38 z8 z36 z37 sn hn hf hn1 hfr hag hn2 hfo hom hao hn3 hfs hmm hv hnu hpt hpt2 hE _ _ hP hD hS ls hl
      · refine z_swIn (off := 518) (tgt := 550) hx hb 12 dL_law_32 ((rfl).trans ek) (by decide) (by decide) (by decide) (by decide) ?_
        exact lw_case12 hL C0 F0' hi (by omega) (by omega) (hNext hi) t0 a0 a1 g0 g1 e0 e1 h0 h1 o0 o1 s0 s1 s2 s3 p0 b0 m0 mC mF mO mP q0 q1 q2 q3 q4 mS mH mM f fr fo fs v st li of ta fm om u0 u1 u2 u3 u4 sl hd mm n n1 n2 n3 pt nu ma bl ra fp tf tb z0 z21 z22 z23 z25 z26 z29 z30 z31 z32 z33 z34 z35 z38 z8 z36 z37 sn hn hf hn1 hfr hag hn2 hfo hom hao hn3 hfs hmm hv hnu hpt hpt2 hE _ _ hP hD hS ls hl
      · refine z_swIn (off := 531) (tgt := 563) hx hb 13 dL_law_32 ((rfl).trans ek) (by decide) (by decide) (by decide) (by decide) ?_
        exact lw_case13 hL C0 F0' hi (by omega) (by omega) (hNext hi) t0 a0 a1 g0 g1 e0 e1 h0 h1 o0 o1 s0 s1 s2 s3 p0 b0 m0 mC mF mO mP q0 q1 q2 q3 q4 mS mH mM f fr fo fs v st li of ta fm om u0 u1 u2 u3 u4 sl hd mm n n1 n2 n3 pt nu ma bl ra fp tf tb z0 z21 z22 z23 z25 z26 z29 z30 z31 z32 z33 z34 z35 z38 z8 z36 z37 sn hn hf hn1 hfr hag hn2 hfo hom hao hn3 hfs hmm hv hnu hpt hpt2 hE _ _ hP hD hS ls hl
      · refine z_swIn (off := 544) (tgt := 576) hx hb 14 dL_law_32 ((rfl).trans ek) (by decide) (by decide) (by decide) (by decide) ?_
        exact lw_case14 hL C0 F0' hi (by omega) (by omega) (hNext hi) t0 a0 a1 g0 g1 e0 e1 h0 h1 o0 o1 s0 s1 s2 s3 p0 b0 m0 mC mF mO mP q0 q1 q2 q3 q4 mS mH mM f fr fo fs v st li of ta fm om u0 u1 u2 u3 u4 sl hd mm n n1 n2 n3 pt nu ma bl ra fp tf tb z0 z21 z22 z23 z25 z26 z29 z30 z31 z32 z33 z34 z35 z38 z8 z36 z37 sn hn hf hn1 hfr hag hn2 hfo hom hao hn3 hfs hmm hv hnu hpt hpt2 hE _ _ hP hD hS ls hl
      · refine z_swIn (off := 567) (tgt := 599) hx hb 15 dL_law_32 ((rfl).trans ek) (by decide) (by decide) (by decide) (by decide) ?_
        exact lw_case15 hL C0 F0' hi (by omega) (by omega) (hNext hi) t0 a0 a1 g0 g1 e0 e1 h0 h1 o0 o1 s0 s1 s2 s3 p0 b0 m0 mC mF mO mP q0 q1 q2 q3 q4 mS mH mM f fr fo fs v st li of ta fm om u0 u1 u2 u3 u4 sl hd mm n n1 n2 n3 pt nu ma bl ra fp tf tb z0 z21 z22 z23 z25 z26 z29 z30 z31 z32 z33 z34 z35 z38 z8 z36 z37 sn hn hf hn1 hfr hag hn2 hfo hom hao hn3 hfs hmm hv hnu hpt hpt2 hE _ _ hP hD hS ls hl
      · refine z_swIn (off := 600) (tgt := 632) hx hb 16 dL_law_32 ((rfl).trans ek) (by decide) (by decide) (by decide) (by decide) ?_
        exact lw_case16 hL C0 F0' hi (by omega) (by omega) (hNext hi) t0 a0 a1 g0 g1 e0 e1 h0 h1 o0 o1 s0 s1 s2 s3 p0 b0 m0 mC mF mO mP q0 q1 q2 q3 q4 mS mH mM f fr fo fs v st li of ta fm om u0 u1 u2 u3 u4 sl hd mm n n1 n2 n3 pt nu ma bl ra fp tf tb z0 z21 z22 z23 z25 z26 z29 z30 z31 z32 z33 z34 z35 z38 z8 z36 z37 sn hn hf hn1 hfr hag hn2 hfo hom hao hn3 hfs hmm hv hnu hpt hpt2 hE _ _ hP hD hS ls hl
      · refine z_swIn (off := 633) (tgt := 665) hx hb 17 dL_law_32 ((rfl).trans ek) (by decide) (by decide) (by decide) (by decide) ?_
        exact lw_case17 hL C0 F0' hi (by omega) (by omega) (hNext hi) t0 a0 a1 g0 g1 e0 e1 h0 h1 o0 o1 s0 s1 s2 s3 p0 b0 m0 mC mF mO mP q0 q1 q2 q3 q4 mS mH mM f fr fo fs v st li of ta fm om u0 u1 u2 u3 u4 sl hd mm n n1 n2 n3 pt nu ma bl ra fp tf tb z0 z21 z22 z23 z25 z26 z29 z30 z31 z32 z33 z34 z35 z38 z8 z36 z37 sn hn hf hn1 hfr hag hn2 hfo hom hao hn3 hfs hmm hv hnu hpt hpt2 hE _ _ hP hD hS ls hl
      · refine z_swIn (off := 687) (tgt := 719) hx hb 18 dL_law_32 ((rfl).trans ek) (by decide) (by decide) (by decide) (by decide) ?_
        exact lw_case18 hL C0 F0' hi (by omega) (by omega) (hNext hi) t0 a0 a1 g0 g1 e0 e1 h0 h1 o0 o1 s0 s1 s2 s3 p0 b0 m0 mC mF mO mP q0 q1 q2 q3 q4 mS mH mM f fr fo fs v st li of ta fm om u0 u1 u2 u3 u4 sl hd mm n n1 n2 n3 pt nu ma bl ra fp tf tb z0 z21 z22 z23 z25 z26 z29 z30 z31 z32 z33 z34 z35 z38 z8 z36 z37 sn hn hf hn1 hfr hag hn2 hfo hom hao hn3 hfs hmm hv hnu hpt hpt2 hE _ _ hP hD hS ls hl
      · refine lv_tableOut (tgt := 732) hx hb dL_law_32 (by omega) (by decide) ?_
        refine W.widen (k := cells + 3) (n := slots + 27) (Nat.le_add_right _ _) (Nat.le_add_right _ _) ?_
        exact hNext hi t0 a0 a1 g0 g1 e0 e1 h0 h1 o0 o1 s0 s1 s2 s3 p0 b0 m0 mC mF mO mP q0 q1 q2 q3 q4 mS mH mM f fr fo fs v st li of ta fm om u0 u1 u2 u3 u4 sl hd mm n n1 n2 n3 pt nu ma bl ra fp tf tb z0 z21 z22 z23 z25 z26 z29 z30 z31 z32 z33 z34 z35 z38 z8 z36 z37 sn hn hf hn1 hfr hag hn2 hfo hom hao hn3 hfs hmm hv hnu hpt hpt2 hE _ _ hP hD hS ls hl
