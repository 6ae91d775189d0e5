section PCM3
variable {k a : Nat} {mc nm nb nl ni nu ib xa xg : Nat → Int32} {mz nd nf na nz nv np nn ic xl xo xs xv xp mw mf ns : Int32}
theorem rsp1 {q : Nat} (h : q < 149) : fA_respond (mc, mw, mf, mz, ib, ic, xa, xg, xl, xo, xs, xv, xp) (nI q) 1 = some (36864, mc, mw, mf, mz, ib, ic, upd xa 0 (mc q), xg, nI 1, xo, xs, xv, xp) := by
  rw [fA_respond, fA_respond_L2, if_neg (by decide), nI_a0, fM_at_eq h, bd1_eq, ixo0, show (0 : Int32) + 1 = 1 from rfl, fA_respond_L2, if_pos (by decide)]
  rfl
theorem c_select {v : Nat} (E : nEN k 0 mc nm nb nl mz na nz nv np) (hsel : (xs = -2 ∧ ns = -1) ∨ ∃ a : Nat, a < 4 ∧ xs = nI a ∧ ns = nI a) (hv : v < 256) (h5 : ib 5 = nI v) : ∃ (r : Int32) (x' : StX) (m' : StR), fA_select (mc, nd, nf, mz, ib, ic, xa, xg, nI 0, 1, xs, nv, np) = some (r, x') ∧ fRf_select (nm, nb, nl, nI k, nd, nf, na, nz, 1, ns, nv, np, ni, nn, nu, nI 0) (nI v) = some (r, m') ∧ nEND r x' m' := by
  have E0 := E
  obtain ⟨hF, hT, hN, hU, hV, hL, hVm, hk0, hvb, hpb, ha⟩ := E
  have hk := hN.1
  rw [fA_select, fI_pl0, bd1_eq, h5, fRf_select]
  by_cases h4 : v < 4
  · rw [isA_yes h4, bd1_eq, if_neg (by decide), if_pos (show nI v ≤ (3 : Int32) from nI_le (b := 3) (by omega) (by omega)), fA_triesPlace, show (72 : Int32) + nI v = nI (72 + v) from nI_add 72 v, bd1_eq]
    by_cases hp : np = 0
    · have hk1 := hk0 hp
      rw [if_pos hp, if_pos hp, rsp1 (by omega), bd14_eq, ix_nI h4 (by decide), ixo0]
      refine ⟨_, _, _, rfl, rfl, en_rsp (t := 1) ⟨hF, hT, hN, hU, hV, hL, hVm, fun _ => hk1, Or.inl rfl, Or.inl rfl, h4⟩ (by decide) (by omega) (fun j hj => ?_) (fun h => absurd rfl h)⟩
      have hj0 : j = 0 := by omega
      subst hj0
      rw [pk_us, pk_us]; exact (hT v h4).1
    · rw [if_neg hp, if_neg hp]
      rcases upair (b := nBS k nm nb) (nd := nd) (nf := nf) (nm := nm) (nb := nb) (nl := nl) (no := 1) (nv := nv) (np := np) (ni := ni) (nn := nn) (nu := nu) (nt := nI 0) (ns := ns) hN hU (fun _ _ => rfl) hT hF with ⟨mc', w, z', hk1, e1, e2, q1, q2, q3⟩ | ⟨mc', nm', w, z, z', q0, e1, e2, q1, q2, q3, q4⟩
      · rw [e1, bd5_eq, if_pos rfl, e2, bd17_eq, if_pos rfl]
        exact ⟨_, _, _, rfl, rfl, en_off q3 q1 q2 hV⟩
      · rw [e1, bd5_eq, if_neg (by decide), bd1_eq, rsp1 (by omega), bd14_eq, e2, bd17_eq, if_neg (by decide), ix_nI h4 (by decide), ixo0]
        have hV' : nV nm' := nV_congr (fun j _ h2 => q4 j h2) hV
        refine ⟨_, _, _, rfl, rfl, en_rsp (t := 1) ⟨q0, q2, ⟨by omega, q1, fun i hi => by omega⟩, ub_0 q3, hV', q3, hV', fun _ => rfl, Or.inl rfl, Or.inl rfl, h4⟩ (by decide) (by omega) (fun j hj => ?_) (fun h => absurd rfl h)⟩
        have hj0 : j = 0 := by omega
        subst hj0
        rw [pk_us, pk_us]; exact (q2 v h4).1
  · rw [isA_big (by omega) (by omega), bd1_eq, if_pos rfl, if_neg (show ¬ nI v ≤ (3 : Int32) from nI_ge (a := 3) (by omega) (by omega))]
    exact ⟨_, _, _, rfl, rfl, Or.inr ⟨by decide, k, 0, ⟨rfl, rfl, hF, hT, hN, rfl, hU, hV⟩, ⟨rfl, rfl, rfl, hvb, rfl, hpb, hL, hVm, hk0, hsel⟩, by omega, rfl, fun _ => ⟨rfl, fun j hj => by omega⟩, fun _ => rfl⟩⟩
-- shares
theorem sb0 {s : Nat} (hs : s < 8) : fA_shareByte (mc, mw, mf, mz, ib, ic, xa, xg, xl, xo, xs, xv, xp) (nI s) 0 = some (mc (76 + 4 * s)) := sb_eq (i := 0) hs (by omega)
theorem sb1 {s : Nat} (hs : s < 8) : fA_shareByte (mc, mw, mf, mz, ib, ic, xa, xg, xl, xo, xs, xv, xp) (nI s) 1 = some (mc (77 + 4 * s)) := by
  rw [show (1 : Int32) = nI 1 from rfl, sb_eq hs (by omega), show 76 + 4 * s + 1 = 77 + 4 * s by omega]
theorem sb2 {s : Nat} (hs : s < 8) : fA_shareByte (mc, mw, mf, mz, ib, ic, xa, xg, xl, xo, xs, xv, xp) (nI s) 2 = some (mc (78 + 4 * s)) := by
  rw [show (2 : Int32) = nI 2 from rfl, sb_eq hs (by omega), show 76 + 4 * s + 2 = 78 + 4 * s by omega]
theorem sb3 {s : Nat} (hs : s < 8) : fA_shareByte (mc, mw, mf, mz, ib, ic, xa, xg, xl, xo, xs, xv, xp) (nI s) 3 = some (mc (79 + 4 * s)) := by
  rw [show (3 : Int32) = nI 3 from rfl, sb_eq hs (by omega), show 76 + 4 * s + 3 = 79 + 4 * s by omega]
theorem le0 {s : Nat} (hL : nLE mc nm) (hs : s < 8) : mc (76 + 4 * s) = nm (72 + 4 * s) ∧ mc (77 + 4 * s) = nm (73 + 4 * s) ∧ mc (78 + 4 * s) = nm (74 + 4 * s) ∧ mc (79 + 4 * s) = nm (75 + 4 * s) := by
  have f0 := hL (72 + 4 * s) (by omega)
  have f1 := hL (73 + 4 * s) (by omega)
  have f2 := hL (74 + 4 * s) (by omega)
  have f3 := hL (75 + 4 * s) (by omega)
  rw [phhi (by omega)] at f0 f1 f2 f3
  rw [show 76 + 4 * s = 72 + 4 * s + 4 by omega, show 77 + 4 * s = 73 + 4 * s + 4 by omega, show 78 + 4 * s = 74 + 4 * s + 4 by omega, show 79 + 4 * s = 75 + 4 * s + 4 by omega]
  exact ⟨f0, f1, f2, f3⟩
theorem ow_0 {s : Nat} (hs : s < 8) (h : mc (76 + 4 * s) = nI 0) : fA_ownerOf (mc, mw, mf, mz, ib, ic, xa, xg, xl, xo, xs, xv, xp) (nI s) = some (-2) := by
  rw [fA_ownerOf, sb0 hs, bd1_eq, h, if_pos (show nI 0 = 0 from rfl)]
theorem qm1 {q : Nat} (h : 1 ≤ q) : nI q - 1 = nI (q - 1) := by
  show nI q - nI 1 = _
  rw [pk_sub h]
theorem qd4 {q : Nat} (h : q < 2 ^ 31) : nI q / 4 = nI (q / 4) := pk_div (d := 4) h (by decide) (by decide)
theorem qr4 {q : Nat} (h : q < 2 ^ 31) : nI q - nI q / 4 * 4 = nI (q % 4) := pk_rem (d := 4) h (by decide) (by decide)
theorem ow_q {s q : Nat} (hs : s < 8) (h : mc (76 + 4 * s) = nI q) (h1 : 1 ≤ q) (h2 : q ≤ 16) : fA_ownerOf (mc, mw, mf, mz, ib, ic, xa, xg, xl, xo, xs, xv, xp) (nI s) = some (nI ((q - 1) / 4)) := by
  rw [fA_ownerOf, sb0 hs, bd1_eq, h, if_neg (nI_ne0 (by omega) (by omega)), qm1 h1, qd4 (by omega)]
theorem cl_0 {s : Nat} (hs : s < 8) (h : mc (76 + 4 * s) = nI 0) : fA_clientOf (mc, mw, mf, mz, ib, ic, xa, xg, xl, xo, xs, xv, xp) (nI s) = some (-2) := by
  rw [fA_clientOf, sb0 hs, bd1_eq, h, if_pos (show nI 0 = 0 from rfl)]
theorem cl_q {s q : Nat} (hs : s < 8) (h : mc (76 + 4 * s) = nI q) (h1 : 1 ≤ q) (h2 : q ≤ 16) : fA_clientOf (mc, mw, mf, mz, ib, ic, xa, xg, xl, xo, xs, xv, xp) (nI s) = some (nI ((q - 1) % 4)) := by
  rw [fA_clientOf, sb0 hs, bd1_eq, h, if_neg (nI_ne0 (by omega) (by omega)), qm1 h1, qr4 (by omega)]
theorem at_s (s : Nat) : (72 : Int32) + 4 * nI s = nI (72 + 4 * s) := by
  show nI 72 + nI 4 * nI s = _
  rw [pk_mul, nI_add]
theorem pl_s (s : Nat) : (76 : Int32) + 4 * nI s = nI (76 + 4 * s) := by
  show nI 76 + nI 4 * nI s = _
  rw [pk_mul, nI_add]
theorem at1 (s : Nat) : nI (72 + 4 * s) + 1 = nI (73 + 4 * s) := by rw [nI_1]; congr 1; omega
theorem at2 (s : Nat) : nI (72 + 4 * s) + 2 = nI (74 + 4 * s) := by
  show nI (72 + 4 * s) + nI 2 = _
  rw [nI_add]; congr 1; omega
theorem at3 (s : Nat) : nI (72 + 4 * s) + 3 = nI (75 + 4 * s) := by
  show nI (72 + 4 * s) + nI 3 = _
  rw [nI_add]; congr 1; omega
theorem ph_s {s t : Nat} (ht : t < 4) : ph (72 + 4 * s + t) = ph (72 + 4 * s) + t := by rw [phhi (by omega), phhi (by omega)]; omega
theorem c_grant {s c5 c6 c7 c8 : Nat} (E : nEN k a mc nm nb nl mz na nz nv np) (hs : s < 8) (h2 : ib 2 = nI s) (h5 : ib 5 = nI c5 ∧ ni 5 = nI c5 ∧ c5 < 256) (h6 : ib 6 = nI c6 ∧ ni 6 = nI c6 ∧ c6 < 256) (h7 : ib 7 = nI c7 ∧ ni 7 = nI c7 ∧ c7 < 256) (h8 : ib 8 = nI c8 ∧ ni 8 = nI c8 ∧ c8 < 256) : ∃ (r : Int32) (x' : StX) (m' : StR), fA_grant (mc, nd, nf, mz, ib, ic, xa, xg, nI 0, 1, nI a, nv, np) = some (r, x') ∧ fRf_grant (nm, nb, nl, nI k, nd, nf, na, nz, 1, nI a, nv, np, ni, nn, nu, nI 0) (nI s) = some (r, m') ∧ nEND r x' m' := by
  have E0 := E
  obtain ⟨hF, hT, hN, hU, hV, hL, hVm, hk0, hvb, hpb, ha⟩ := E
  obtain ⟨l0, l1, l2, l3⟩ := le0 hL hs
  have hc5 := h5.2.2
  have hc6 := h6.2.2
  have hc7 := h7.2.2
  have hc8 := h8.2.2
  rw [fA_grant, fI_pl0, bd1_eq, fI_pl1, bd1_eq, fI_pl2, bd1_eq, fI_pl3, bd1_eq, h5.1, h6.1, h7.1, h8.1, fI_p1_eq, h2, fRf_grant, ixc5, ixc6, ixc7, ixc5, ixc8, h5.2.1, h6.2.1, h7.2.1, h8.2.1, at_s]
  have hno : ∃ (r : Int32) (x' : StX) (m' : StR), some ((27264 : Int32), mc, nd, nf, mz, ib, ic, xa, xg, nI 0, 1, nI a, nv, np) = some (r, x') ∧ some ((27264 : Int32), nm, nb, nl, nI k, nd, nf, na, nz, 1, nI a, nv, np, ni, nn, nu, nI 0) = some (r, m') ∧ nEND r x' m' := ⟨_, _, _, rfl, rfl, en_ok E0 (by decide)⟩
  by_cases g1 : c5 < 4
  · rw [isA_yes g1, bd1_eq, if_neg (by decide), if_neg (show ¬ (3 : Int32) < nI c5 from nI_nlt (a := 3) (by omega) (by omega))]
    by_cases g2 : nI c5 = nI a
    · rw [if_pos g2, if_pos g2]; exact hno
    rw [if_neg g2, if_neg g2]
    by_cases g3 : nI c7 = 0
    · rw [if_pos g3, if_pos g3]; exact hno
    rw [if_neg g3, if_neg g3, nI_add]
    by_cases g4 : 16 < c6 + c7
    · rw [if_pos (show (16 : Int32) < nI (c6 + c7) from nI_lt (a := 16) g4 (by omega)), if_pos (show (16 : Int32) < nI (c6 + c7) from nI_lt (a := 16) g4 (by omega))]; exact hno
    rw [if_neg (show ¬ (16 : Int32) < nI (c6 + c7) from nI_nlt (a := 16) (by omega) (by omega)), if_neg (show ¬ (16 : Int32) < nI (c6 + c7) from nI_nlt (a := 16) (by omega) (by omega))]
    by_cases g5 : nI c8 ≤ 1
    · rw [if_pos g5, if_pos g5, bd1_eq, ix_nI (show 72 + 4 * s < 104 by omega) (by decide)]
      rcases hVm s hs with hz | ⟨q, o', n', q1, q2, q3, q4, q5, q6⟩
      · rw [ow_0 hs (by rw [l0, hz]), bd1_eq, if_pos rfl, hz, if_pos (show nI 0 = 0 from rfl), ixg0, ixg1, ixg2, ixg3, fA_sharePlace, pl_s, bd1_eq, show (1 : Int32) + 4 * nI a + nI c5 = nI (1 + 4 * a + c5) by
          show nI 1 + nI 4 * nI a + nI c5 = _
          rw [pk_mul, nI_add, nI_add], show (4 : Int32) = nI 4 from rfl, show (0 : Int32) = nI 0 from rfl]
        obtain ⟨r, x', m', e1, e2, e3⟩ := st_qg (nd := nd) (nf := nf) (ib := ib) (ic := ic) (xa := xa) (xg := upd (upd (upd (upd xg 0 (nI (1 + 4 * a + c5))) 1 (nI c6)) 2 (nI c7)) 3 (nI c8)) (ni := upd ni 5 (nI (1 + 4 * a + c5))) (nn := nn) (nu := nu) (p := 72 + 4 * s) (n := 4) E0 (by omega) (fun t ht => ph_s ht) (by omega) (fun t ht => by
          have h4 : t = 0 ∨ t = 1 ∨ t = 2 ∨ t = 3 := by omega
          rcases h4 with rfl | rfl | rfl | rfl
          · rw [pk_un (by omega), pk_un (by omega), pk_un (by omega), pk_us, pk_us]
          · rw [pk_un (by omega), pk_un (by omega), pk_us, pk_un (by omega), h6.2.1]
          · rw [pk_un (by omega), pk_us, pk_un (by omega), h7.2.1]
          · rw [pk_us, pk_un (by omega), h8.2.1]) (fun g hg s' hs' => by
          by_cases hss : s' = s
          · subst hss
            right
            refine ⟨1 + 4 * a + c5, c6, c7, by omega, by omega, by omega, ?_, ?_, ?_⟩
            · rw [hg _ (by omega), if_pos (by omega), show 5 + (72 + 4 * s' - (72 + 4 * s')) = 5 by omega, pk_us]
            · rw [hg _ (by omega), if_pos (by omega), show 5 + (73 + 4 * s' - (72 + 4 * s')) = 6 by omega, pk_un (by omega), h6.2.1]
            · rw [hg _ (by omega), if_pos (by omega), show 5 + (74 + 4 * s' - (72 + 4 * s')) = 7 by omega, pk_un (by omega), h7.2.1]
          · rw [hg _ (by omega), hg _ (by omega), hg _ (by omega), if_neg (by omega), if_neg (by omega), if_neg (by omega)]
            exact hVm s' hs')
        rw [phhi (by omega), show 72 + 4 * s + 4 = 76 + 4 * s by omega] at e1
        obtain ⟨x1, x2, x3, x4, x5, x6, x7, x8, x9, x10, x11, x12, x13⟩ := x'
        obtain ⟨y1, y2, y3, y4, y5, y6, y7, y8, y9, y10, y11, y12, y13, y14, y15, y16⟩ := m'
        rw [e1, bd14_eq, e2, bd17_eq]
        exact ⟨_, _, _, rfl, rfl, e3⟩
      · rw [ow_q hs (by rw [l0, q4]) q1 q2, bd1_eq, if_neg (nI_m2 (by omega)), q4, if_neg (nI_ne0 (by omega) (by omega))]
        exact ⟨_, _, _, rfl, rfl, en_ok E0 (by decide)⟩
    · rw [if_neg g5, if_neg g5]; exact hno
  · rw [isA_big (by omega) (by omega), bd1_eq, if_pos rfl, if_pos (show (3 : Int32) < nI c5 from nI_lt (a := 3) (by omega) (by omega))]; exact hno
theorem c_revoke {s : Nat} {a3 : Int32} (E : nEN k a mc nm nb nl mz na nz nv np) (hs : s < 8) (h2 : ib 2 = nI s) : ∃ (r : Int32) (x' : StX) (m' : StR), fA_revoke (mc, nd, nf, mz, ib, ic, xa, xg, nI 0, 1, nI a, nv, np) = some (r, x') ∧ fRf_shared (nm, nb, nl, nI k, nd, nf, na, nz, 1, nI a, nv, np, ni, nn, nu, nI 0) 228 (nI (72 + 4 * s)) a3 = some (r, m') ∧ nEND r x' m' := by
  have E0 := E
  obtain ⟨hF, hT, hN, hU, hV, hL, hVm, hk0, hvb, hpb, ha⟩ := E
  obtain ⟨l0, l1, l2, l3⟩ := le0 hL hs
  rw [fA_revoke, fI_p1_eq, bd1_eq, h2, fRf_shared, ix_nI (show 72 + 4 * s < 104 by omega) (by decide), if_pos (show (228 : Int32) = 228 from rfl)]
  rcases hVm s hs with hz | ⟨q, o', n', q1, q2, q3, q4, q5, q6⟩
  · rw [ow_0 hs (by rw [l0, hz]), bd1_eq, if_neg (fun h => nI_m2 (a := a) (by omega) h.symm), hz, if_pos m1_lt]
    exact ⟨_, _, _, rfl, rfl, en_ok E0 (by decide)⟩
  · rw [ow_q hs (by rw [l0, q4]) q1 q2, bd1_eq, q4, qm1 q1, if_neg (nI_pos (by omega)), qd4 (by omega)]
    by_cases g : nI ((q - 1) / 4) = nI a
    · rw [if_pos g, if_pos g, if_pos (show (228 : Int32) = 228 from rfl), ixg0, fA_sharePlace, pl_s, bd1_eq, ixc5, show (1 : Int32) = nI 1 from rfl, show (0 : Int32) = nI 0 from rfl]
      obtain ⟨r, x', m', e1, e2, e3⟩ := st_qg (nd := nd) (nf := nf) (ib := ib) (ic := ic) (xa := xa) (xg := upd xg 0 (nI 0)) (ni := upd ni 5 (nI 0)) (nn := nn) (nu := nu) (p := 72 + 4 * s) (n := 1) E0 (by omega) (fun t ht => ph_s (by omega)) (by omega) (fun t ht => by
          have h4 : t = 0 := by omega
          subst h4; rw [pk_us, pk_us]) (fun g hg s' hs' => by
          by_cases hss : s' = s
          · subst hss
            left
            rw [hg _ (by omega), if_pos (by omega), show 5 + (72 + 4 * s' - (72 + 4 * s')) = 5 by omega, pk_us]
          · rw [hg _ (by omega), hg _ (by omega), hg _ (by omega), if_neg (by omega), if_neg (by omega), if_neg (by omega)]
            exact hVm s' hs')
      rw [phhi (by omega), show 72 + 4 * s + 4 = 76 + 4 * s by omega] at e1
      obtain ⟨x1, x2, x3, x4, x5, x6, x7, x8, x9, x10, x11, x12, x13⟩ := x'
      obtain ⟨y1, y2, y3, y4, y5, y6, y7, y8, y9, y10, y11, y12, y13, y14, y15, y16⟩ := m'
      have e1' : fA_store_qg (mc, nd, nf, mz, ib, ic, xa, upd xg 0 (nI 0), nI 0, nI 1, nI a, nv, np) (nI (76 + 4 * s)) (nI 0) (nI 1) = some (r, x1, x2, x3, x4, x5, x6, x7, x8, x9, x10, x11, x12, x13) := e1
      have e2' : fRf_store (nm, nb, nl, nI k, nd, nf, na, nz, nI 1, nI a, nv, np, upd ni 5 (nI 0), nn, nu, nI 0) (nI (72 + 4 * s)) (nI 1) = some (r, y1, y2, y3, y4, y5, y6, y7, y8, y9, y10, y11, y12, y13, y14, y15, y16) := e2
      rw [e1', bd14_eq, e2', bd17_eq]
      exact ⟨_, _, _, rfl, rfl, e3⟩
    · rw [if_neg g, if_neg g]; exact ⟨_, _, _, rfl, rfl, en_ok E0 (by decide)⟩
theorem rd_ref {p v n : Nat} {v1 : Int32} (hp : p < 256) (hv : v < 256) (hn : n ≤ 16) (h4' : ni 4 = nI v) : fRf_read (nm, nb, nl, nI k, nd, nf, na, nz, 1, nI a, nv, np, ni, nn, nu, nI 0) v1 (nI p) (nI n) = if p + leN v ≤ n then fRf_read_L38 300 (nm, nb, nl, nI k, nd, nf, na, nz, 1, nI a, nv, np, ni, nn, nu, nI 0) v1 (nI p) (nI n) (nI (leN v)) (nI 0) else some (27392, nm, nb, nl, nI k, nd, nf, na, nz, 1, nI a, nv, np, ni, nn, nu, nI 0) := by
  have hle : (v = 0 ∧ leN v = 256) ∨ (leN v = v ∧ v ≠ 0) := by unfold leN; split <;> omega
  rw [fRf_read, ixc4, ixc4, h4', show (256 : Int32) = nI 256 from rfl, nI_add, nI_add]
  rcases hle with ⟨h0, h1⟩ | ⟨h1, h0⟩
  · rw [if_pos (show nI v = 0 by rw [h0]; rfl), if_neg (nI_ge (by omega) (by omega)), if_neg (by omega)]
  · rw [if_neg (nI_ne0 (by omega) (by omega)), h1]
    by_cases hs : p + v ≤ n
    · rw [if_pos (nI_le hs (by omega)), if_pos hs]; rfl
    · rw [if_neg (nI_ge (by omega) (by omega)), if_neg hs]
theorem c_rdsh {s p v : Nat} (E : nEN k a mc nm nb nl mz na nz nv np) (hs : s < 8) (h2 : ib 2 = nI s) (hp : p < 256) (hv : v < 256) (h3 : ib 3 = nI p) (h4 : ib 4 = nI v) (h4' : ni 4 = nI v) : ∃ (r : Int32) (x' : StX) (m' : StR), fA_readShared (mc, nd, nf, mz, ib, ic, xa, xg, nI 0, 1, nI a, nv, np) = some (r, x') ∧ fRf_shared (nm, nb, nl, nI k, nd, nf, na, nz, 1, nI a, nv, np, ni, nn, nu, nI 0) 178 (nI (72 + 4 * s)) (nI p) = some (r, m') ∧ nEND r x' m' := by
  have E0 := E
  obtain ⟨hF, hT, hN, hU, hV, hL, hVm, hk0, hvb, hpb, ha⟩ := E
  obtain ⟨l0, l1, l2, l3⟩ := le0 hL hs
  have hle : (v = 0 ∧ leN v = 256) ∨ (leN v = v ∧ v ≠ 0) := by unfold leN; split <;> omega
  have hle2 : leN v ≤ 256 := by omega
  rw [fA_readShared, fI_p1_eq, bd1_eq, h2, fRf_shared, ix_nI (show 72 + 4 * s < 104 by omega) (by decide), if_neg (show ¬ (178 : Int32) = 228 by decide)]
  rcases hVm s hs with hz | ⟨q, o', n', q1, q2, q3, q4, q5, q6⟩
  · rw [cl_0 hs (by rw [l0, hz]), bd1_eq, if_neg (fun h => nI_m2 (a := a) (by omega) h.symm), hz, if_pos m1_lt]
    exact ⟨_, _, _, rfl, rfl, en_ok E0 (by decide)⟩
  · rw [cl_q hs (by rw [l0, q4]) q1 q2, bd1_eq, q4, qm1 q1, if_neg (nI_pos (by omega)), qr4 (by omega), qd4 (by omega)]
    by_cases g : nI ((q - 1) % 4) = nI a
    · rw [if_pos g, if_pos g, if_neg (show ¬ (178 : Int32) = 228 by decide), at1, ix_nI (show 73 + 4 * s < 104 by omega) (by decide), if_pos (show (178 : Int32) = 178 from rfl), at2, ix_nI (show 74 + 4 * s < 104 by omega) (by decide), q5, q6, fI_p2_eq, bd1_eq, h3, fI_le_eq h4 hv, bd1_eq, sb2 hs, bd1_eq, l2, q6, nI_add, rd_ref hp hv (by omega) h4']
      by_cases hsz : p + leN v ≤ n'
      · rw [if_pos (nI_le hsz (by omega)), if_pos hsz, bd1_eq, fA_sharedPlace, ow_q hs (by rw [l0, q4]) q1 q2, bd1_eq, sb1 hs, bd1_eq, l1, q5, fA_dataPlace, bd1_eq, bd1_eq, bd1_eq, show (0 : Int32) + 16 * nI ((q - 1) / 4) + (nI o' + nI p) = nI (16 * ((q - 1) / 4) + o' + p) by
          show nI 0 + nI 16 * nI ((q - 1) / 4) + (nI o' + nI p) = _
          rw [pk_mul, nI_add, nI_add, nI_add]; congr 1; omega, fA_respond, show (0 : Int32) = nI 0 from rfl]
        obtain ⟨xa', nu', e1, e2, e3⟩ := rsp (nm := nm) (mc := mc) (nd := nd) (nf := nf) (mz := mz) (ib := ib) (ic := ic) (xg := xg) (xo := 1) (xs := nI a) (xv := nv) (xp := np) (nb := nb) (nl := nl) (na := na) (nz := nz) (no := 1) (ns := nI a) (nv := nv) (np := np) (ni := ni) (nn := nn) (v3 := nI n') (p := 16 * ((q - 1) / 4) + o' + p) (q := 16 * ((q - 1) / 4) + o' + p) (n := leN v) (by omega) (by omega) (by omega) (fun i hi => by have := hL (16 * ((q - 1) / 4) + o' + p + i) (by omega); rw [phlo (by omega)] at this; exact this) (leN v) 0 300 300 xa nu (nI 0) (nI 0) (nI k) (by omega) (by omega) (by omega) (fun j hj => by omega)
        rw [e1, bd14_eq, e2 (16 * nI ((q - 1) / 4) + nI o') (nI p) (by
          show nI 16 * nI ((q - 1) / 4) + nI o' + nI p = _
          rw [pk_mul, nI_add, nI_add]), bd17_eq]
        exact ⟨_, _, _, rfl, rfl, en_rsp E0 (by decide) (by omega) e3 (fun h => absurd rfl h)⟩
      · rw [if_neg (nI_ge (by omega) (by omega)), if_neg hsz, bd17_eq]; exact ⟨_, _, _, rfl, rfl, en_ok E0 (by decide)⟩
    · rw [if_neg g, if_neg g]; exact ⟨_, _, _, rfl, rfl, en_ok E0 (by decide)⟩
theorem c_upsh {s p v : Nat} (E : nEN k a mc nm nb nl mz na nz nv np) (hs : s < 8) (h2 : ib 2 = nI s) (hp : p < 256) (hv : v < 256) (h3 : ib 3 = nI p) (h4 : ib 4 = nI v) (h4' : ni 4 = nI v) (hb : ∀ j, j < 5 + v → ib j = ni j) : ∃ (r : Int32) (x' : StX) (m' : StR), fA_updateShared (mc, nd, nf, mz, ib, ic, xa, xg, nI 0, 1, nI a, nv, np) = some (r, x') ∧ fRf_shared (nm, nb, nl, nI k, nd, nf, na, nz, 1, nI a, nv, np, ni, nn, nu, nI 0) 220 (nI (72 + 4 * s)) (nI p) = some (r, m') ∧ nEND r x' m' := by
  have E0 := E
  obtain ⟨hF, hT, hN, hU, hV, hL, hVm, hk0, hvb, hpb, ha⟩ := E
  obtain ⟨l0, l1, l2, l3⟩ := le0 hL hs
  rw [fA_updateShared, fI_p1_eq, bd1_eq, h2, fRf_shared, ix_nI (show 72 + 4 * s < 104 by omega) (by decide), if_neg (show ¬ (220 : Int32) = 228 by decide)]
  rcases hVm s hs with hz | ⟨q, o', n', q1, q2, q3, q4, q5, q6⟩
  · rw [cl_0 hs (by rw [l0, hz]), bd1_eq, if_neg (fun h => nI_m2 (a := a) (by omega) h.symm), hz, if_pos m1_lt]
    exact ⟨_, _, _, rfl, rfl, en_ok E0 (by decide)⟩
  · rw [cl_q hs (by rw [l0, q4]) q1 q2, bd1_eq, q4, qm1 q1, if_neg (nI_pos (by omega)), qr4 (by omega), qd4 (by omega)]
    by_cases g : nI ((q - 1) % 4) = nI a
    · rw [if_pos g, if_pos g, if_neg (show ¬ (220 : Int32) = 228 by decide), at1, ix_nI (show 73 + 4 * s < 104 by omega) (by decide), if_neg (show ¬ (220 : Int32) = 178 by decide), at3, ix_nI (show 75 + 4 * s < 104 by omega) (by decide), sb3 hs, bd1_eq, l3]
      by_cases gm : nm (75 + 4 * s) = 0
      · rw [if_pos gm, if_pos gm]; exact ⟨_, _, _, rfl, rfl, en_ok E0 (by decide)⟩
      rw [if_neg gm, if_neg gm, ixc4, at2, ix_nI (show 74 + 4 * s < 104 by omega) (by decide), ixc4, q5, q6, h4', fI_p2_eq, bd1_eq, h3, fI_lc_eq, bd1_eq, h4, sb2 hs, bd1_eq, l2, q6, nI_add]
      by_cases hsz : p + v ≤ n'
      · rw [if_pos (nI_le hsz (by omega)), if_pos (nI_le hsz (by omega)), bd1_eq, fA_sharedPlace, ow_q hs (by rw [l0, q4]) q1 q2, bd1_eq, sb1 hs, bd1_eq, l1, q5, fA_dataPlace, bd1_eq, bd1_eq, show (0 : Int32) + 16 * nI ((q - 1) / 4) + (nI o' + nI p) = nI (16 * ((q - 1) / 4) + o' + p) by
          show nI 0 + nI 16 * nI ((q - 1) / 4) + (nI o' + nI p) = _
          rw [pk_mul, nI_add, nI_add, nI_add]; congr 1; omega, show (16 : Int32) * nI ((q - 1) / 4) + nI o' + nI p = nI (16 * ((q - 1) / 4) + o' + p) by
          show nI 16 * nI ((q - 1) / 4) + nI o' + nI p = _
          rw [pk_mul, nI_add, nI_add]]
        obtain ⟨r, x', m', e1, e2, e3⟩ := st_qb (nd := nd) (nf := nf) (ib := ib) (ic := ic) (xa := xa) (xg := xg) (ni := ni) (nn := nn) (nu := nu) (p := 16 * ((q - 1) / 4) + o' + p) (n := v) E0 (by omega) (fun t ht => by rw [phlo (by omega), phlo (by omega)]) (by omega) (fun t ht => hb _ (by omega)) (fun g hg => nV_congr (fun j h1 h2 => by rw [hg j h2, if_neg (by omega)]) hVm)
        rw [phlo (by omega)] at e1
        have e4 := sp_eq E0 h4 _ _ _ e1
        obtain ⟨x1, x2, x3, x4, x5, x6, x7, x8, x9, x10, x11, x12, x13⟩ := x'
        obtain ⟨y1, y2, y3, y4, y5, y6, y7, y8, y9, y10, y11, y12, y13, y14, y15, y16⟩ := m'
        rw [e4, bd14_eq, e2, bd17_eq]
        exact ⟨_, _, _, rfl, rfl, e3⟩
      · rw [if_neg (nI_ge (by omega) (by omega)), if_neg (nI_ge (by omega) (by omega))]; exact ⟨_, _, _, rfl, rfl, en_ok E0 (by decide)⟩
    · rw [if_neg g, if_neg g]; exact ⟨_, _, _, rfl, rfl, en_ok E0 (by decide)⟩
end PCM3
