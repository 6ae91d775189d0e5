section PCM2
variable {k a : Nat} {mc nm nb nl ni nu ib xa xg : Nat → Int32} {mz nd nf na nz nv np nn ic xl xo xs xv xp : Int32}
theorem fI_p1_eq : fI_p1 (ib, ic) = some (ib 2) := by rw [fI_p1]; exact ix_k 2 rfl (by decide) (by decide) _
theorem fI_p2_eq : fI_p2 (ib, ic) = some (ib 3) := by rw [fI_p2]; exact ix_k 3 rfl (by decide) (by decide) _
theorem fI_lc_eq : fI_lc (ib, ic) = some (ib 4) := by rw [fI_lc]; exact ix_k 4 rfl (by decide) (by decide) _
theorem fI_pl_eq {i : Nat} (h : i < 19) : fI_payload (ib, ic) (nI i) = some (ib (5 + i)) := by rw [fI_payload, show (5 : Int32) + nI i = nI (5 + i) from nI_add 5 i]; exact ix_nI (by omega) (by decide) _
theorem fI_pl0 : fI_payload (ib, ic) 0 = some (ib 5) := fI_pl_eq (i := 0) (by omega)
theorem fI_pl1 : fI_payload (ib, ic) 1 = some (ib 6) := fI_pl_eq (i := 1) (by omega)
theorem fI_pl2 : fI_payload (ib, ic) 2 = some (ib 7) := fI_pl_eq (i := 2) (by omega)
theorem fI_pl3 : fI_payload (ib, ic) 3 = some (ib 8) := fI_pl_eq (i := 3) (by omega)
theorem ixc4 {β : Type} (f : Nat → Option β) : ix 4 24 f = f 4 := ix_k 4 rfl (by decide) (by decide) f
theorem ixc5 {β : Type} (f : Nat → Option β) : ix 5 24 f = f 5 := ix_k 5 rfl (by decide) (by decide) f
theorem ixc6 {β : Type} (f : Nat → Option β) : ix 6 24 f = f 6 := ix_k 6 rfl (by decide) (by decide) f
theorem ixc7 {β : Type} (f : Nat → Option β) : ix 7 24 f = f 7 := ix_k 7 rfl (by decide) (by decide) f
theorem ixc8 {β : Type} (f : Nat → Option β) : ix 8 24 f = f 8 := ix_k 8 rfl (by decide) (by decide) f
theorem ixg0 {β : Type} (f : Nat → Option β) : ix 0 4 f = f 0 := ix_k 0 rfl (by decide) (by decide) f
theorem ixg1 {β : Type} (f : Nat → Option β) : ix 1 4 f = f 1 := ix_k 1 rfl (by decide) (by decide) f
theorem ixg2 {β : Type} (f : Nat → Option β) : ix 2 4 f = f 2 := ix_k 2 rfl (by decide) (by decide) f
theorem ixg3 {β : Type} (f : Nat → Option β) : ix 3 4 f = f 3 := ix_k 3 rfl (by decide) (by decide) f
theorem ixo0 {β : Type} (f : Nat → Option β) : ix 0 16 f = f 0 := ix_k 0 rfl (by decide) (by decide) f
theorem nI_a0 (n : Nat) : nI n + 0 = nI n := by
  show nI n + nI 0 = _
  rw [nI_add, Nat.add_zero]
def leN (v : Nat) : Nat := if v = 0 then 256 else v
theorem fI_le_eq {v : Nat} (h : ib 4 = nI v) (hv : v < 256) : fI_le (ib, ic) = some (nI (leN v)) := by
  rw [fI_le, ixc4, ixc4, h]
  unfold leN
  by_cases h0 : v = 0
  · rw [if_pos (show nI v = 0 by rw [h0]; rfl), if_pos h0]; rfl
  · rw [if_neg (nI_ne0 (by omega) (by omega)), if_neg h0]
theorem c_begin (E : nEN k a mc nm nb nl mz na nz nv np) : ∃ (r : Int32) (x' : StX) (m' : StR), fA_begin (mc, nd, nf, mz, ib, ic, xa, xg, nI 0, 1, nI a, nv, np) = some (r, x') ∧ fRf_begin (nm, nb, nl, nI k, nd, nf, na, nz, 1, nI a, nv, np, ni, nn, nu, nI 0) = some (r, m') ∧ nEND r x' m' := by
  rw [fA_begin, fRf_begin]
  by_cases hp : np = 0
  · rw [if_pos hp, if_pos hp]
    obtain ⟨hF, hT, hN, hU, hV, hL, hVm, hk0, hv, _, ha⟩ := E
    exact ⟨_, _, _, rfl, rfl, en_ok ⟨hF, hT, hN, hU, hV, hL, hVm, fun h => absurd h (by decide), hv, Or.inr rfl, ha⟩ (by decide)⟩
  · rw [if_neg hp, if_neg hp]; exact ⟨_, _, _, rfl, rfl, en_ok E (by decide)⟩
theorem c_end (E : nEN k a mc nm nb nl mz na nz nv np) (h2 : ib 2 = ni 2) : ∃ (r : Int32) (x' : StX) (m' : StR), fA_end (mc, nd, nf, mz, ib, ic, xa, xg, nI 0, 1, nI a, nv, np) = some (r, x') ∧ fRf_end (nm, nb, nl, nI k, nd, nf, na, nz, 1, nI a, nv, np, ni, nn, nu, nI 0) (ni 2) = some (r, m') ∧ nEND r x' m' := by
  rw [fA_end, fRf_end, fI_p1_eq, bd1_eq, h2]
  by_cases hp : np = 0
  · rw [if_pos hp, if_pos hp]; exact ⟨_, _, _, rfl, rfl, en_ok E (by decide)⟩
  rw [if_neg hp, if_neg hp]
  obtain ⟨hF, hT, hN, hU, hV, hL, hVm, hk0, hv, _, ha⟩ := E
  have hk := hN.1
  by_cases h0 : ni 2 = 0
  · rw [if_pos h0, if_pos h0]
    rcases spair (nd := nd) (nf := nf) (nm := nm) (nb := nb) (nl := nl) (no := 1) (ns := nI a) (nv := nv) (np := np) (ni := ni) (nn := nn) (nu := nu) (nt := nI 0) hN hF with ⟨z', h0, e1, e2⟩ | ⟨mc', w, z, z', hF', e1, e2, q1, q2⟩
    · rw [e1, bd5_eq, doneIf_0, bd1_eq, e2, bd17_eq, if_pos rfl]
      exact ⟨_, _, _, rfl, rfl, en_off hT hN hU hV⟩
    · rw [e1, bd5_eq, doneIf_1, bd1_eq, e2, bd17_eq, if_neg (by decide)]
      have hL' : nLE mc' nm := fun j hj => by rw [q1 _ (by have := ph_lt hj; omega)]; exact hL j hj
      exact ⟨_, _, _, rfl, rfl, en_ok ⟨hF', fun s hs => by rw [q1 _ (by omega)]; exact hT s hs, ⟨by omega, q2, fun i hi => by omega⟩, ub_0 hL', hVm, hL', hVm, fun _ => rfl, hv, Or.inl rfl, ha⟩ (by decide)⟩
  · rw [if_neg h0, if_neg h0]
    rcases upair (b := nBS k nm nb) (nd := nd) (nf := nf) (nm := nm) (nb := nb) (nl := nl) (no := 1) (ns := nI a) (nv := nv) (np := np) (ni := ni) (nn := nn) (nu := nu) (nt := nI 0) hN hU (fun _ _ => rfl) hT hF with ⟨mc', w, z', hk1, e1, e2, q1, q2, q3⟩ | ⟨mc', nm', w, z, z', q0, e1, e2, q1, q2, q3, q4⟩
    · rw [e1, bd5_eq, doneIf_0, bd1_eq, e2, bd17_eq, if_pos rfl]
      exact ⟨_, _, _, rfl, rfl, en_off q3 q1 q2 hV⟩
    · rw [e1, bd5_eq, doneIf_1, bd1_eq, e2, bd17_eq, if_neg (by decide)]
      have hV' : nV nm' := nV_congr (fun j _ h2 => q4 j h2) hV
      exact ⟨_, _, _, rfl, rfl, en_ok ⟨q0, q2, ⟨by omega, q1, fun i hi => by omega⟩, ub_0 q3, hV', q3, hV', fun _ => rfl, hv, Or.inl rfl, ha⟩ (by decide)⟩
theorem c_unblock {p : Nat} (E : nEN k a mc nm nb nl mz na nz nv np) (hp : p ≤ 3) (h2 : ib 2 = nI p) : ∃ (r : Int32) (x' : StX) (m' : StR), fA_unblock (mc, nd, nf, mz, ib, ic, xa, xg, nI 0, 1, nI a, nv, np) = some (r, x') ∧ fRf_unblock (nm, nb, nl, nI k, nd, nf, na, nz, 1, nI a, nv, np, ni, nn, nu, nI 0) (nI p) = some (r, m') ∧ nEND r x' m' := by
  rw [fA_unblock, fRf_unblock, fI_p1_eq, bd1_eq, h2, fA_triesPlace, bd1_eq, show (72 : Int32) + nI p = nI (72 + p) from nI_add 72 p]
  by_cases h0 : nI a = 0
  · rw [if_pos h0, if_pos h0]
    obtain ⟨hF, hT, hN, hU, hV, hL, hVm, hk0, hv, hpb, ha⟩ := E
    have hk := hN.1
    rcases wpair (mc := mc) (mw := nd) (mf := nf) (v := 3) (nd := nd) (nf := nf) (nm := nm) (nb := nb) (nl := nl) (no := 1) (ns := nI a) (nv := nv) (np := np) (ni := ni) (nn := nn) (nu := nu) (nt := nI 0) (nc := nI k) (show 72 + p < 149 by omega) hF with ⟨e1, e2⟩ | ⟨z1, y1, hF1, e1, e2⟩
    · rw [e1, bd5_eq, doneIf_0, bd1_eq, e2, bd17_eq, if_pos rfl]
      exact ⟨_, _, _, rfl, rfl, en_off hT hN hU hV⟩
    · rw [e1, bd5_eq, doneIf_1, bd1_eq, e2, bd17_eq, if_neg (by decide), ix_nI (by omega) (by decide)]
      obtain ⟨t1, t2, t3, t4⟩ := tr_up (q := p) (t := 3) (by omega) (by omega) hT hN hU hL
      exact ⟨_, _, _, rfl, rfl, en_ok ⟨hF1, t1, t2, t3, hV, t4, hVm, hk0, hv, hpb, ha⟩ (by decide)⟩
  · rw [if_neg h0, if_neg h0]; exact ⟨_, _, _, rfl, rfl, en_ok E (by decide)⟩
theorem pis {ib mc : Nat → Int32} {mw mf mz : Int32} (ha : a < 4) (h1 : mc (64 + 2 * a) = nm (64 + 2 * a)) (h2 : mc (65 + 2 * a) = nm (65 + 2 * a)) (h5 : ib 5 = ni 5) (h6 : ib 6 = ni 6) : fA_payloadIsSecret (mc, mw, mf, mz, ib, ic, xa, xg, xl, xo, nI a, xv, xp) = some (if ni 5 = nm (64 + 2 * a) then (if ni 6 = nm (65 + 2 * a) then 1 else 0) else 0) := by
  rw [fA_payloadIsSecret, fA_secretPlace, bd1_eq, show (64 : Int32) + 2 * nI a = nI (64 + 2 * a) by
    show nI 64 + nI 2 * nI a = _
    rw [pk_mul, nI_add], fA_payloadIsSecret_L10, if_neg (by decide), nI_a0, fM_at_eq (by omega), bd1_eq, fI_pl0, bd1_eq, h1, h5]
  by_cases e1 : ni 5 = nm (64 + 2 * a)
  · rw [if_pos e1.symm, if_pos e1, show (0 : Int32) + 1 = 1 from rfl, fA_payloadIsSecret_L10, if_neg (by decide), nI_1, show 64 + 2 * a + 1 = 65 + 2 * a by omega, fM_at_eq (by omega), bd1_eq, fI_pl1, bd1_eq, h2, h6]
    by_cases e2 : ni 6 = nm (65 + 2 * a)
    · rw [if_pos e2.symm, if_pos e2, show (1 : Int32) + 1 = 2 from rfl, fA_payloadIsSecret_L10, if_pos (by decide)]
    · rw [if_neg (fun z => e2 z.symm), if_neg e2]
  · rw [if_neg (fun z => e1 z.symm), if_neg e1]
theorem c_verify (E : nEN k a mc nm nb nl mz na nz nv np) (h5 : ib 5 = ni 5) (h6 : ib 6 = ni 6) : ∃ (r : Int32) (x' : StX) (m' : StR), fA_verify (mc, nd, nf, mz, ib, ic, xa, xg, nI 0, 1, nI a, nv, np) = some (r, x') ∧ fRf_verify (nm, nb, nl, nI k, nd, nf, na, nz, 1, nI a, nv, np, ni, nn, nu, nI 0) = some (r, m') ∧ nEND r x' m' := by
  have E0 := E
  obtain ⟨hF, hT, hN, hU, hV, hL, hVm, hk0, hv, hpb, ha⟩ := E
  have hk := hN.1
  obtain ⟨tt, t, ht3, ht⟩ := hT a ha
  rw [fA_verify, fA_triesPlace, bd1_eq, show (72 : Int32) + nI a = nI (72 + a) from nI_add 72 a, fM_at_eq (by omega), bd1_eq, tt, ht, fRf_verify, ix_nI (by omega) (by decide), ht]
  cases t with
  | zero =>
    rw [if_neg (by decide), if_pos (show nI 0 = 0 from rfl)]; exact ⟨_, _, _, rfl, rfl, en_ok E0 (by decide)⟩
  | succ t =>
    rw [nI_pred, if_pos (nI_pos' (by omega)), if_neg (nI_ne0 (by omega) (by omega))]
    rcases wpair (mc := mc) (mw := nd) (mf := nf) (v := nI t) (nd := nd) (nf := nf) (nm := nm) (nb := nb) (nl := nl) (no := 1) (ns := nI a) (nv := nv) (np := np) (ni := ni) (nn := nn) (nu := nu) (nt := nI 0) (nc := nI k) (show 72 + a < 149 by omega) hF with ⟨e1, e2⟩ | ⟨z1, y1, hF1, e1, e2⟩
    · rw [e1, bd5_eq, if_pos rfl, e2, bd17_eq, if_pos rfl]
      exact ⟨_, _, _, rfl, rfl, en_off hT hN hU hV⟩
    · obtain ⟨t1, t2, t3, t4⟩ := tr_up (q := a) (t := t) ha (by omega) hT hN hU hL
      have g1 : upd mc (72 + a) (nI t) (64 + 2 * a) = nm (64 + 2 * a) := by
        have := t4 (64 + 2 * a) (by omega); rw [phlo (by omega)] at this; exact this
      have g2 : upd mc (72 + a) (nI t) (65 + 2 * a) = nm (65 + 2 * a) := by
        have := t4 (65 + 2 * a) (by omega); rw [phlo (by omega)] at this; exact this
      rw [e1, bd5_eq, if_neg (by decide), e2, bd17_eq, if_neg (by decide), ix_nI ha (by decide), ix_nI ha (by decide), ixc5, ixc6, show (64 : Int32) + 2 * nI a = nI (64 + 2 * a) by
        show nI 64 + nI 2 * nI a = _
        rw [pk_mul, nI_add], show (65 : Int32) + 2 * nI a = nI (65 + 2 * a) by
        show nI 65 + nI 2 * nI a = _
        rw [pk_mul, nI_add], ix_nI (by omega) (by decide), ix_nI (by omega) (by decide), ix_nI ha (by decide), ht, nI_pred, pis ha g1 g2 h5 h6, bd1_eq, pk_us]
      have E1 : nEN k a (upd mc (72 + a) (nI t)) nm nb (upd nl a (nI t)) z1 na y1 0 np := ⟨hF1, t1, t2, t3, hV, t4, hVm, hk0, Or.inl rfl, hpb, ha⟩
      have hne : (25536 : Int32) + nI t ≠ -1 := by rw [show (25536 : Int32) + nI t = nI (25536 + t) from nI_add 25536 t]; exact nI_m1 (by omega)
      by_cases c1 : ni 5 = nm (64 + 2 * a)
      · rw [if_pos c1, if_pos c1]
        by_cases c2 : ni 6 = nm (65 + 2 * a)
        · rw [if_pos c2, if_pos c2, if_neg (by decide)]
          rcases wpair (mc := upd mc (72 + a) (nI t)) (mw := nd + 1) (mf := nf) (v := 3) (nd := nd + 1) (nf := nf) (nm := nm) (nb := nb) (nl := upd nl a (nI t)) (no := 1) (ns := nI a) (nv := 0) (np := np) (ni := ni) (nn := nn) (nu := nu) (nt := nI 0) (nc := nI k) (show 72 + a < 149 by omega) hF1 with ⟨e1, e2⟩ | ⟨z2, y2, hF2, e1, e2⟩
          · rw [e1, bd5_eq, if_pos rfl, e2, bd17_eq, if_pos rfl]
            exact ⟨_, _, _, rfl, rfl, en_off t1 t2 t3 hV⟩
          · obtain ⟨s1, s2, s3, s4⟩ := tr_up (q := a) (t := 3) ha (by omega) t1 t2 t3 t4
            rw [e1, bd5_eq, if_neg (by decide), e2, bd17_eq, if_neg (by decide), ix_nI ha (by decide)]
            exact ⟨_, _, _, rfl, rfl, en_ok ⟨hF2, s1, s2, s3, hV, s4, hVm, hk0, Or.inr rfl, hpb, ha⟩ (by decide)⟩
        · rw [if_neg c2, if_neg c2, if_pos rfl]; exact ⟨_, _, _, rfl, rfl, en_ok E1 hne⟩
      · rw [if_neg c1, if_neg c1, if_pos rfl]; exact ⟨_, _, _, rfl, rfl, en_ok E1 hne⟩
theorem sp_eq {v : Nat} (E : nEN k a mc nm nb nl mz na nz nv np) (h4 : ib 4 = nI v) : ∀ (p : Int32) (r : Int32) (x' : StX), fA_store_qb (mc, nd, nf, mz, ib, ic, xa, xg, nI 0, 1, nI a, nv, np) p (nI 5) (nI v) = some (r, x') → fA_storePayload (mc, nd, nf, mz, ib, ic, xa, xg, nI 0, 1, nI a, nv, np) p = some (r, x') := fun p r x' h => by
  obtain ⟨x1, x2, x3, x4, x5, x6, x7, x8, x9, x10, x11, x12, x13⟩ := x'
  rw [fA_storePayload, fI_lc_eq, bd1_eq, h4, show (5 : Int32) = nI 5 from rfl, h, bd14_eq]
theorem c_chsec (E : nEN k a mc nm nb nl mz na nz nv np) (h4 : ib 4 = nI 2) (hb : ∀ j, j < 7 → ib j = ni j) : ∃ (r : Int32) (x' : StX) (m' : StR), (bd1 (fA_secretPlace (nI a)) fun r => fA_storePayload (mc, nd, nf, mz, ib, ic, xa, xg, nI 0, 1, nI a, nv, np) r) = some (r, x') ∧ fRf_store (nm, nb, nl, nI k, nd, nf, na, nz, 1, nI a, nv, np, ni, nn, nu, nI 0) (64 + 2 * nI a) 2 = some (r, m') ∧ nEND r x' m' := by
  have ha := E.2.2.2.2.2.2.2.2.2.2
  rw [fA_secretPlace, bd1_eq, show (64 : Int32) + 2 * nI a = nI (64 + 2 * a) by
    show nI 64 + nI 2 * nI a = _
    rw [pk_mul, nI_add], show (2 : Int32) = nI 2 from rfl]
  obtain ⟨r, x', m', e1, e2, e3⟩ := st_qb (nd := nd) (nf := nf) (ib := ib) (ic := ic) (xa := xa) (xg := xg) (ni := ni) (nn := nn) (nu := nu) (p := 64 + 2 * a) (n := 2) E (by omega) (fun t ht => by rw [phlo (by omega), phlo (by omega)]) (by omega) (fun t ht => hb _ (by omega)) (fun g hg => nV_congr (fun j h1 h2 => by rw [hg j h2, if_neg (by omega)]) E.2.2.2.2.2.2.1)
  rw [phlo (by omega)] at e1
  exact ⟨r, x', m', sp_eq E h4 _ _ _ e1, e2, e3⟩
theorem c_read {p v : Nat} (E : nEN k a mc nm nb nl mz na nz nv np) (hp : p < 256) (hv : v < 256) (h3 : ib 3 = nI p) (h4 : ib 4 = nI v) (h4' : ni 4 = nI v) : ∃ (r : Int32) (x' : StX) (m' : StR), fA_read (mc, nd, nf, mz, ib, ic, xa, xg, nI 0, 1, nI a, nv, np) = some (r, x') ∧ fRf_read (nm, nb, nl, nI k, nd, nf, na, nz, 1, nI a, nv, np, ni, nn, nu, nI 0) (16 * nI a) (nI p) 16 = some (r, m') ∧ nEND r x' m' := by
  have E0 := E
  obtain ⟨hF, hT, hN, hU, hV, hL, hVm, hk0, hvb, hpb, ha⟩ := E
  have hle : (v = 0 ∧ leN v = 256) ∨ (leN v = v ∧ v ≠ 0) := by unfold leN; split <;> omega
  have hle2 : leN v ≤ 256 := by omega
  rw [fA_read, fI_p2_eq, bd1_eq, fI_le_eq h4 hv, bd1_eq, h3, nI_add, fRf_read, ixc4, ixc4, h4', show (256 : Int32) = nI 256 from rfl, nI_add, nI_add, show (16 : Int32) = nI 16 from rfl]
  by_cases hs : p + leN v ≤ 16
  · have hv0 : leN v = v ∧ v ≠ 0 := by omega
    rw [if_pos (nI_le hs (by omega)), if_neg (nI_ne0 (by omega) (by omega)), if_pos (nI_le (by omega) (by omega)), bd1_eq, fA_dataPlace, bd1_eq, bd1_eq, show (0 : Int32) + 16 * nI a + nI p = nI (16 * a + p) by
      show nI 0 + nI 16 * nI a + nI p = _
      rw [pk_mul, nI_add, nI_add]; congr 1; omega, fA_respond, show (0 : Int32) = nI 0 from rfl]
    obtain ⟨xa', nu', e1, e2, e3⟩ := rsp (nm := nm) (mc := mc) (nd := nd) (nf := nf) (mz := mz) (ib := ib) (ic := ic) (xg := xg) (xo := 1) (xs := nI a) (xv := nv) (xp := np) (nb := nb) (nl := nl) (na := na) (nz := nz) (no := 1) (ns := nI a) (nv := nv) (np := np) (ni := ni) (nn := nn) (v3 := nI 16) (p := 16 * a + p) (q := 16 * a + p) (n := leN v) (by omega) (by omega) (by omega) (fun i hi => by have := hL (16 * a + p + i) (by omega); rw [phlo (by omega)] at this; exact this) (leN v) 0 300 300 xa nu (nI 0) (nI 0) (nI k) (by omega) (by omega) (by omega) (fun j hj => by omega)
    rw [e1, bd14_eq]
    have e4 := e2 (16 * nI a) (nI p) (by
      show nI 16 * nI a + nI p = _
      rw [pk_mul, nI_add])
    rw [hv0.1] at e4
    refine ⟨_, _, _, rfl, e4, ?_⟩
    rw [hv0.1]
    exact en_rsp E0 (by decide) (by omega) (fun j hj => e3 j (by omega)) (fun h => absurd rfl h)
  · rw [if_neg (nI_ge (by omega) (by omega))]
    by_cases h0 : v = 0
    · rw [if_pos (show nI v = 0 by rw [h0]; rfl), if_neg (nI_ge (by omega) (by omega))]; exact ⟨_, _, _, rfl, rfl, en_ok E0 (by decide)⟩
    · have hv0 : leN v = v := by omega
      rw [if_neg (nI_ne0 (by omega) (by omega)), if_neg (nI_ge (by omega) (by omega))]; exact ⟨_, _, _, rfl, rfl, en_ok E0 (by decide)⟩
theorem c_update {p v : Nat} (E : nEN k a mc nm nb nl mz na nz nv np) (hp : p < 256) (hv : v < 256) (h3 : ib 3 = nI p) (h4 : ib 4 = nI v) (h4' : ni 4 = nI v) (hb : ∀ j, j < 5 + v → ib j = ni j) : ∃ (r : Int32) (x' : StX) (m' : StR), fA_update (mc, nd, nf, mz, ib, ic, xa, xg, nI 0, 1, nI a, nv, np) = some (r, x') ∧ (ix 4 24 fun j9 => if nI p + ni j9 ≤ 16 then (ix 4 24 fun j10 => fRf_store (nm, nb, nl, nI k, nd, nf, na, nz, 1, nI a, nv, np, ni, nn, nu, nI 0) (16 * nI a + nI p) (ni j10)) else some (27392, nm, nb, nl, nI k, nd, nf, na, nz, 1, nI a, nv, np, ni, nn, nu, nI 0)) = some (r, m') ∧ nEND r x' m' := by
  have ha := E.2.2.2.2.2.2.2.2.2.2
  rw [fA_update, fI_p2_eq, bd1_eq, fI_lc_eq, bd1_eq, h3, h4, nI_add, ixc4, ixc4, h4', nI_add, show (16 : Int32) = nI 16 from rfl]
  by_cases hs : p + v ≤ 16
  · rw [if_pos (nI_le hs (by omega)), if_pos (nI_le hs (by omega)), bd1_eq, fA_dataPlace, bd1_eq, show (0 : Int32) + 16 * nI a + nI p = nI (16 * a + p) by
      show nI 0 + nI 16 * nI a + nI p = _
      rw [pk_mul, nI_add, nI_add]; congr 1; omega, show nI 16 * nI a + nI p = nI (16 * a + p) by rw [pk_mul, nI_add]]
    obtain ⟨r, x', m', e1, e2, e3⟩ := st_qb (nd := nd) (nf := nf) (ib := ib) (ic := ic) (xa := xa) (xg := xg) (ni := ni) (nn := nn) (nu := nu) (p := 16 * a + p) (n := v) E (by omega) (fun t ht => by rw [phlo (by omega), phlo (by omega)]) (by omega) (fun t ht => hb _ (by omega)) (fun g hg => nV_congr (fun j h1 h2 => by rw [hg j h2, if_neg (by omega)]) E.2.2.2.2.2.2.1)
    rw [phlo (by omega)] at e1
    have e4 := sp_eq E h4 _ _ _ e1
    obtain ⟨x1, x2, x3, x4, x5, x6, x7, x8, x9, x10, x11, x12, x13⟩ := x'
    rw [e4, bd14_eq]
    exact ⟨r, _, m', rfl, e2, e3⟩
  · rw [if_neg (nI_ge (by omega) (by omega)), if_neg (nI_ge (by omega) (by omega))]; exact ⟨_, _, _, rfl, rfl, en_ok E (by decide)⟩
end PCM2
