section LAWL
variable {p : Program} {e : Env} {s : State} {m : MethodId} {below : List Frame} {meth : Method} {c : Code} {l : Launch} {b L : Nat} {sc : Nat → Int32} {dC : Nat → ClassId} {dI : Nat → Nat → Nat} {cI : ClassId} {ad : Nat → Nat} {tA tS : Nat} {ha hm qc hi qb qa qg hq qm qf ql qi qo : Nat}
set_option maxHeartbeats 4000000 in
set_option maxRecDepth 100000 in
theorem law_loop {A : Nat → Prop} (C0 : lwC p s m c b L sc) (hL : L ≤ 2048) (hK : va_K (dC, dI) vwCl [(cI, .int)] s) (hE : Est ad tA tS A s s.heap) (hA : ∀ q, s.heap.size ≤ q → A q) (hAs : ∀ q, A q → s.heap.size ≤ q) (hbA : ¬ A b) (hr : meth.sig.returnType = ret) (hlocks : meth.locks = false) :
    ∀ (n : Nat) (y : Nat × StX × StR) (H : Heap) (locs : List Loc) (ls : Array Slot), (va_P (dC, dI) vwCl (wXR cI ha hm qc hi qb qa qg hq qm qf ql qi qo y.2.1 y.2.2) H ∧ va_D A (wXR cI ha hm qc hi qb qa qg hq qm qf ql qi qo y.2.1 y.2.2) ∧ va_S A s.heap H locs ∧ lv_has ls 4 [(0, .ref b), (1, .ref ha), (2, .ref hq), (3, .int (nI y.1))] ∧ nREL y.2.1 y.2.2 ∧ y.1 ≤ L ∧ L < y.1 + 4 * n) →
      W p l e room_1 s m #[Value.ref b] below meth c H locs 13 476 (lw_Z below #[Value.ref b] s) (F0 m 18 ls []) := by
  refine xloop (σ := Nat × StX × StR) (pc := 18) (fun n y H locs ls => va_P (dC, dI) vwCl (wXR cI ha hm qc hi qb qa qg hq qm qf ql qi qo y.2.1 y.2.2) H ∧ va_D A (wXR cI ha hm qc hi qb qa qg hq qm qf ql qi qo y.2.1 y.2.2) ∧ va_S A s.heap H locs ∧ lv_has ls 4 [(0, .ref b), (1, .ref ha), (2, .ref hq), (3, .int (nI y.1))] ∧ nREL y.2.1 y.2.2 ∧ y.1 ≤ L ∧ L < y.1 + 4 * n) ?_ (fun y H locs ls h => by
    obtain ⟨_, _, _, _, _, h1, h2⟩ := h
    omega)
  intro n ih y H locs ls hI
  obtain ⟨i, ⟨mc, mw, mf, mz, ib, ic, xa, xg, xl, xo, xs, xv, xp⟩, ⟨nm, nb, nl, nc, nd, nf, na, nz, no, ns, nv, np, ni, nn, nu, nt⟩⟩ := y
  obtain ⟨hP, hD, hS, hl, hR, h1, h2⟩ := hI
  have hP : va_P (dC, dI) vwCl [(ha, .inr (0, [.ref hm, .ref hi, .ref qa, .ref qg, .int xl, .int xo, .int xs, .int xv, .int xp])), (hm, .inr (1, [.ref qc, .int mw, .int mf, .int mz])), (qc, .inl (cI, 149, .inl mc)), (hi, .inr (2, [.ref qb, .int ic])), (qb, .inl (cI, 24, .inl ib)), (qa, .inl (cI, 16, .inl xa)), (qg, .inl (cI, 4, .inl xg)), (hq, .inr (3, [.ref qm, .ref qf, .ref ql, .int nc, .int nd, .int nf, .int na, .int nz, .int no, .int ns, .int nv, .int np, .ref qi, .int nn, .ref qo, .int nt])), (qm, .inl (cI, 104, .inl nm)), (qf, .inl (cI, 104, .inl nb)), (ql, .inl (cI, 4, .inl nl)), (qi, .inl (cI, 24, .inl ni)), (qo, .inl (cI, 16, .inl nu))] H := hP
  have hD : va_D A [(ha, .inr (0, [.ref hm, .ref hi, .ref qa, .ref qg, .int xl, .int xo, .int xs, .int xv, .int xp])), (hm, .inr (1, [.ref qc, .int mw, .int mf, .int mz])), (qc, .inl (cI, 149, .inl mc)), (hi, .inr (2, [.ref qb, .int ic])), (qb, .inl (cI, 24, .inl ib)), (qa, .inl (cI, 16, .inl xa)), (qg, .inl (cI, 4, .inl xg)), (hq, .inr (3, [.ref qm, .ref qf, .ref ql, .int nc, .int nd, .int nf, .int na, .int nz, .int no, .int ns, .int nv, .int np, .ref qi, .int nn, .ref qo, .int nt])), (qm, .inl (cI, 104, .inl nm)), (qf, .inl (cI, 104, .inl nb)), (ql, .inl (cI, 4, .inl nl)), (qi, .inl (cI, 24, .inl ni)), (qo, .inl (cI, 16, .inl nu))] := hD
  have hl : lv_has ls 4 [(0, .ref b), (1, .ref ha), (2, .ref hq), (3, .int (nI i))] := hl
  have hR : nREL (mc, mw, mf, mz, ib, ic, xa, xg, xl, xo, xs, xv, xp) (nm, nb, nl, nc, nd, nf, na, nz, no, ns, nv, np, ni, nn, nu, nt) := hR
  have h1 : i ≤ L := h1
  have h2 : L < i + 4 * (n + 1) := h2
  have C1 := C0
  obtain ⟨hx, hb, hml, hown, hts, hX, hbl⟩ := C0
  refine lv_iload_n hx hb d_L_law_18 rfl (lv_at hl 3 rfl) ?_
  refine lv_aload_n hx hb d_L_law_19 rfl (lv_at hl 0 rfl) ?_
  refine va_slen hx hb hX hbl hbA hS d_L_law_20 ?_
  refine lv_iconst (v := 4) hx hb d_L_law_21 (by decide) ?_
  refine lv_isub hx hb d_L_law_22 ?_
  refine lv_icmp_gt (tgt := 402) hx hb d_L_law_23 rfl (fun hc => ?_) (fun hc => ?_)
  · refine va_forget (fun q hq => hAs _ (hS.2.2 q hq)) ?_
    refine lv_iconst (v := 1) hx hb d_L_law_402 (by decide) ?_
    exact lw_ret hx hb hr hlocks d_L_law_403
  have hi4 : i + 4 ≤ L := by
    rcases Nat.lt_or_ge L (i + 4) with g | g
    · refine absurd (Int32.lt_iff_toInt_lt.mpr ?_) hc
      rw [show (Int32.ofNat L - 4 : Int32) = nI L - nI 4 from rfl, pk_sub_toInt (by omega) (by omega), nI_toInt (by omega)]
      omega
    · exact g
  have next : ∀ (x' : StX) (m' : StR) (H : Heap) (locs : List Loc) (ls : Array Slot), va_P (dC, dI) vwCl (wXR cI ha hm qc hi qb qa qg hq qm qf ql qi qo x' m') H → va_D A (wXR cI ha hm qc hi qb qa qg hq qm qf ql qi qo x' m') → va_S A s.heap H locs → lv_has ls 4 [(0, .ref b), (1, .ref ha), (2, .ref hq), (3, .int (nI i))] → nREL x' m' → W p l e room_1 s m #[Value.ref b] below meth c H locs 13 476 (lw_Z below #[Value.ref b] s) (F0 m 396 ls []) := by
    intro x' m' H locs ls hP hD hS hl hR
    refine lv_iinc (v := nI (i + 4)) hx hb d_L_law_396 hl (k := 3) rfl (by rw [show Int32.ofInt 4 = nI 4 by decide, nI_add]) (by decide) rfl (fun ls hl => ?_)
    refine lv_goto (tgt := 18) hx hb d_L_law_399 rfl ?_
    have hl := lv_sub (l' := [(0, .ref b), (1, .ref ha), (2, .ref hq), (3, .int (nI (i + 4)))]) hl [1, 2, 3, 0] rfl
    exact ih (i + 4, x', m') H locs ls ⟨hP, hD, hS, hl, hR, by show i + 4 ≤ L; omega, by show L < i + 4 + 4 * n; omega⟩
  refine lv_aload_n hx hb d_L_law_26 rfl (lv_at hl 0 rfl) ?_
  refine lv_iload_n hx hb d_L_law_27 rfl (lv_at hl 3 rfl) ?_
  refine va_sld hx hb hX hbl hbA hS (in_0 hi4 hL) d_L_law_28 ?_
  refine lv_bipush (v := 15) hx hb d_L_law_29 (by decide) ?_
  refine lv_iand hx hb d_L_law_31 ?_
  refine lv_topi (fun v _ => ?_)
  by_cases c0 : v = 0
  · refine lv_tableIn (off := 72) (tgt := 104) hx hb d_L_law_32 (by rw [c0]; decide) (by rw [c0]; decide) (by rw [c0]; rfl) rfl ?_
    exact law_put C1 hL hi4 hK hE hA hbA hR hP hD hS hl next
  by_cases c1 : v = 1
  · refine lv_tableIn (off := 135) (tgt := 167) hx hb d_L_law_32 (by rw [c1]; decide) (by rw [c1]; decide) (by rw [c1]; rfl) rfl ?_
    exact law_run C1 hL hi4 hK hE hA hbA hR hP hD hS hl next
  by_cases c2 : v = 2
  · refine lv_tableIn (off := 148) (tgt := 180) hx hb d_L_law_32 (by rw [c2]; decide) (by rw [c2]; decide) (by rw [c2]; rfl) rfl ?_
    exact law_waiting C1 hL hi4 hK hE hA hbA hR hP hD hS hl next
  by_cases c3 : v = 3
  · refine lv_tableIn (off := 161) (tgt := 193) hx hb d_L_law_32 (by rw [c3]; decide) (by rw [c3]; decide) (by rw [c3]; rfl) rfl ?_
    exact law_length C1 hL hi4 hK hE hA hbA hR hP hD hS hl next
  by_cases c4 : v = 4
  · refine lv_tableIn (off := 174) (tgt := 206) hx hb d_L_law_32 (by rw [c4]; decide) (by rw [c4]; decide) (by rw [c4]; rfl) rfl ?_
    exact law_response C1 hL hi4 hK hE hA hbA hR hP hD hS hl next
  by_cases c5 : v = 5
  · refine lv_tableIn (off := 197) (tgt := 229) hx hb d_L_law_32 (by rw [c5]; decide) (by rw [c5]; decide) (by rw [c5]; rfl) rfl ?_
    exact law_tear C1 hL hi4 hK hE hA hbA hR hP hD hS hl next
  by_cases c6 : v = 6
  · refine lv_tableIn (off := 220) (tgt := 252) hx hb d_L_law_32 (by rw [c6]; decide) (by rw [c6]; decide) (by rw [c6]; rfl) rfl ?_
    exact law_reset C1 hL hi4 hK hE hA hbA hR hP hD hS hl next
  by_cases c7 : v = 7
  · refine lv_tableIn (off := 233) (tgt := 265) hx hb d_L_law_32 (by rw [c7]; decide) (by rw [c7]; decide) (by rw [c7]; rfl) rfl ?_
    exact law_writes C1 hL hi4 hK hE hA hbA hR hP hD hS hl next
  by_cases c8 : v = 8
  · refine lv_tableIn (off := 246) (tgt := 278) hx hb d_L_law_32 (by rw [c8]; decide) (by rw [c8]; decide) (by rw [c8]; rfl) rfl ?_
    exact law_failures C1 hL hi4 hK hE hA hbA hR hP hD hS hl next
  by_cases c9 : v = 9
  · refine lv_tableIn (off := 259) (tgt := 291) hx hb d_L_law_32 (by rw [c9]; decide) (by rw [c9]; decide) (by rw [c9]; rfl) rfl ?_
    exact law_data C1 hL hi4 hK hE hA hbA hR hP hD hS hl next
  by_cases c10 : v = 10
  · refine lv_tableIn (off := 292) (tgt := 324) hx hb d_L_law_32 (by rw [c10]; decide) (by rw [c10]; decide) (by rw [c10]; rfl) rfl ?_
    exact law_tries C1 hL hi4 hK hE hA hbA hR hP hD hS hl next
  by_cases c11 : v = 11
  · refine lv_tableIn (off := 315) (tgt := 347) hx hb d_L_law_32 (by rw [c11]; decide) (by rw [c11]; decide) (by rw [c11]; rfl) rfl ?_
    exact law_share C1 hL hi4 hK hE hA hbA hR hP hD hS hl next
  by_cases c12 : v = 12
  · refine lv_tableIn (off := 338) (tgt := 370) hx hb d_L_law_32 (by rw [c12]; decide) (by rw [c12]; decide) (by rw [c12]; rfl) rfl ?_
    exact law_pending C1 hL hi4 hK hE hA hbA hR hP hD hS hl next
  by_cases c13 : v = 13
  · refine lv_tableIn (off := 351) (tgt := 383) hx hb d_L_law_32 (by rw [c13]; decide) (by rw [c13]; decide) (by rw [c13]; rfl) rfl ?_
    exact law_session C1 hL hi4 hK hE hA hbA hR hP hD hS hl next
  have q0 := xne (k := 0) 0 rfl c0
  have q1 := xne (k := 1) 1 rfl c1
  have q2 := xne (k := 2) 2 rfl c2
  have q3 := xne (k := 3) 3 rfl c3
  have q4 := xne (k := 4) 4 rfl c4
  have q5 := xne (k := 5) 5 rfl c5
  have q6 := xne (k := 6) 6 rfl c6
  have q7 := xne (k := 7) 7 rfl c7
  have q8 := xne (k := 8) 8 rfl c8
  have q9 := xne (k := 9) 9 rfl c9
  have q10 := xne (k := 10) 10 rfl c10
  have q11 := xne (k := 11) 11 rfl c11
  have q12 := xne (k := 12) 12 rfl c12
  have q13 := xne (k := 13) 13 rfl c13
  refine lv_tableOut (tgt := 396) hx hb d_L_law_32 (by omega) rfl ?_
  exact next (mc, mw, mf, mz, ib, ic, xa, xg, xl, xo, xs, xv, xp) (nm, nb, nl, nc, nd, nf, na, nz, no, ns, nv, np, ni, nn, nu, nt) H locs ls hP hD hS hl hR
end LAWL
