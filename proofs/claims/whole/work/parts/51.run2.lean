section PRUN2
variable {mc nm nb nl ni nu ib xa xg : Nat → Int32} {mw mf mz nc nd nf na nz no ns nv np nn nt ic xl xo xs xv xp a1 a2 a3 : Int32} {c k : Nat}
theorem gt_le {n v : Nat} {x : Int32} (h : ¬ nI n < x) (e : x = nI v) (hv : v < 256) : v ≤ n := by
  rcases Nat.lt_or_ge n v with g | g
  · exact absurd (by rw [e]; exact nI_lt g (by omega)) h
  · exact g
theorem rk (E : nEN k 0 mc nm nb nl mz na nz nv np) (hsel : (xs = -2 ∧ ns = -1) ∨ ∃ a : Nat, a < 4 ∧ xs = nI a ∧ ns = nI a) (hc : c ≤ 24) (hby : ∀ j, j < c → ib j = ni j ∧ ∃ v : Nat, v < 256 ∧ ni j = nI v) : (∃ st : Int32, st ≠ 36864 ∧ st ≠ -1 ∧ st ≠ 0 ∧ fA_admit (mc, nd, nf, mz, ib, nI c, xa, xg, 0, 1, xs, nv, np) (kOf (ib 1)) = some st ∧ fRf_refuse (nm, nb, nl, nI k, nd, nf, na, nz, 1, ns, nv, np, ni, nI c, nu, 0) = some st) ∨ (∃ (r : Int32) (x' : StX) (m' : StR), fA_admit (mc, nd, nf, mz, ib, nI c, xa, xg, 0, 1, xs, nv, np) (kOf (ib 1)) = some 36864 ∧ fRf_refuse (nm, nb, nl, nI k, nd, nf, na, nz, 1, ns, nv, np, ni, nI c, nu, 0) = some 0 ∧ fA_perform (mc, nd, nf, mz, ib, nI c, xa, xg, 0, 1, xs, nv, np) (kOf (ib 1)) = some (r, x') ∧ fRf_carry (nm, nb, nl, nI k, nd, nf, na, nz, 1, ns, nv, np, ni, nI c, nu, 0) (ni 1) (ni 2) (ni 3) = some (r, m') ∧ nEND r x' m') := by
  obtain ⟨sh, s1, s2, s4, s5, s3⟩ := shp (nm := nm) (nb := nb) (nl := nl) (nc := nI k) (nd := nd) (nf := nf) (na := na) (nz := nz) (no := 1) (ns := ns) (nv := nv) (np := np) (nu := nu) (nt := 0) hc hby
  by_cases s0 : sh = 0
  · left
    refine ⟨26368, by decide, by decide, by decide, ?_, ?_⟩
    · rw [fA_admit, s1, bd1_eq, if_pos s0]
    · rw [fRf_refuse]
      by_cases h1 : nI c ≤ 1
      · rw [if_pos h1, s2, bd1_eq, if_pos s0]
      · rw [if_neg h1, ixc1, s2, bd1_eq, if_pos s0]
  have hc4 := s4 s0
  obtain ⟨b0, v0, hv0, f0⟩ := hby 0 (by omega)
  obtain ⟨b1, v1, hv1, f1⟩ := hby 1 (by omega)
  obtain ⟨b2, v2, hv2, f2⟩ := hby 2 (by omega)
  obtain ⟨b3, v3, hv3, f3⟩ := hby 3 (by omega)
  have s34 : sh = 3 → ib 4 = ni 4 := fun h => by obtain ⟨v, _, e1, e2, _⟩ := s3 h; rw [e1, e2]
  rw [b1]
  have hgt : ¬ nI c ≤ (1 : Int32) := nI_ge (a := 1) (by omega) (by omega)
  rcases (Decidable.em (ni 0 = 128)).symm with h128 | h128
  · left
    refine ⟨28160, by decide, by decide, by decide, ?_, ?_⟩
    · rw [fA_admit, s1, bd1_eq, if_neg s0, fI_cc_eq, bd1_eq, b0, if_neg h128]
    · rw [fRf_refuse, if_neg hgt, ixc1, s2, bd1_eq, if_neg s0, ixc0, if_neg h128]
  have b0' := b0.trans h128
  by_cases i164 : ni 1 = 164
  · rw [i164, show kOf 164 = 0 by decide +kernel]
    rcases ad_164 (mc := mc) (nd := nd) (nf := nf) (mz := mz) (xa := xa) (xg := xg) (nm := nm) (nb := nb) (nl := nl) (nc := nI k) (na := na) (nz := nz) (nv := nv) (np := np) (nu := nu) hc4 hc s1 s2 s0 s34 b0' h128 i164 b2 (b3.trans f3) f3 hv3 hsel with h | ⟨q1, q2, g1, g3, g2, g4⟩
    · exact Or.inl h
    right
    obtain ⟨v, hv, l1, l2, lc⟩ := s3 g1
    have hvL : v = 1 := (nI_eq (b := 1) (by omega) (by omega)).mp (l2.symm.trans g2)
    subst hvL
    obtain ⟨q5, v5, hv5, f5⟩ := hby 5 (by omega)
    obtain ⟨r, x', m', e1, e2, e3⟩ := c_select (nd := nd) (nf := nf) (ic := nI c) (xa := xa) (xg := xg) (ni := ni) (nn := nI c) (nu := nu) E hsel hv5 (q5.trans f5)
    refine ⟨r, x', m', q1, q2, ?_, ?_, e3⟩
    · rw [pf_0]; exact e1
    · rw [cr_164, f5]; exact e2
  by_cases i32 : ni 1 = 32
  · rw [i32, show kOf 32 = 1 by decide +kernel]
    rcases ad_32 (mc := mc) (nd := nd) (nf := nf) (mz := mz) (xa := xa) (xg := xg) (nm := nm) (nb := nb) (nl := nl) (nc := nI k) (na := na) (nz := nz) (nv := nv) (np := np) (nu := nu) hc4 hc s1 s2 s0 s34 b0' h128 i32 b2 (b3.trans f3) f3 hv3 hsel with h | ⟨q1, q2, g1, g3, g2, g4, a, ha, rfl, rfl⟩
    · exact Or.inl h
    right
    obtain ⟨v, hv, l1, l2, lc⟩ := s3 g1
    have hvL : v = 2 := (nI_eq (b := 2) (by omega) (by omega)).mp (l2.symm.trans g2)
    subst hvL
    obtain ⟨r, x', m', e1, e2, e3⟩ := c_verify (nd := nd) (nf := nf) (ic := nI c) (xa := xa) (xg := xg) (nn := nI c) (nu := nu) ⟨E.1, E.2.1, E.2.2.1, E.2.2.2.1, E.2.2.2.2.1, E.2.2.2.2.2.1, E.2.2.2.2.2.2.1, E.2.2.2.2.2.2.2.1, E.2.2.2.2.2.2.2.2.1, E.2.2.2.2.2.2.2.2.2.1, ha⟩ (hby 5 (by omega)).1 (hby 6 (by omega)).1
    refine ⟨r, x', m', q1, q2, ?_, ?_, e3⟩
    · rw [pf_1]; exact e1
    · rw [cr_32]; exact e2
  by_cases i36 : ni 1 = 36
  · rw [i36, show kOf 36 = 2 by decide +kernel]
    rcases ad_36 (mc := mc) (nd := nd) (nf := nf) (mz := mz) (xa := xa) (xg := xg) (nm := nm) (nb := nb) (nl := nl) (nc := nI k) (na := na) (nz := nz) (nv := nv) (np := np) (nu := nu) hc4 hc s1 s2 s0 s34 b0' h128 i36 b2 (b3.trans f3) f3 hv3 hsel with h | ⟨q1, q2, g1, g3, g2, g4, a, ha, rfl, rfl⟩
    · exact Or.inl h
    right
    obtain ⟨v, hv, l1, l2, lc⟩ := s3 g1
    have hvL : v = 2 := (nI_eq (b := 2) (by omega) (by omega)).mp (l2.symm.trans g2)
    subst hvL
    obtain ⟨r, x', m', e1, e2, e3⟩ := c_chsec (nd := nd) (nf := nf) (ic := nI c) (xa := xa) (xg := xg) (nn := nI c) (nu := nu) ⟨E.1, E.2.1, E.2.2.1, E.2.2.2.1, E.2.2.2.2.1, E.2.2.2.2.2.1, E.2.2.2.2.2.2.1, E.2.2.2.2.2.2.2.1, E.2.2.2.2.2.2.2.2.1, E.2.2.2.2.2.2.2.2.2.1, ha⟩ l1 (fun j hj => (hby j (by omega)).1)
    refine ⟨r, x', m', q1, q2, ?_, ?_, e3⟩
    · rw [pf_2]; exact e1
    · rw [cr_36]; exact e2
  by_cases i44 : ni 1 = 44
  · rw [i44, show kOf 44 = 3 by decide +kernel]
    rcases ad_44 (mc := mc) (nd := nd) (nf := nf) (mz := mz) (xa := xa) (xg := xg) (nm := nm) (nb := nb) (nl := nl) (nc := nI k) (na := na) (nz := nz) (nv := nv) (np := np) (nu := nu) hc4 hc s1 s2 s0 s34 b0' h128 i44 b2 (b3.trans f3) f3 hv3 hsel with h | ⟨q1, q2, g1, g3, g4, a, ha, rfl, rfl⟩
    · exact Or.inl h
    right
    have hp2 : v2 ≤ 3 := gt_le (n := 3) g3 f2 hv2
    obtain ⟨r, x', m', e1, e2, e3⟩ := c_unblock (nd := nd) (nf := nf) (ic := nI c) (xa := xa) (xg := xg) (ni := ni) (nn := nI c) (nu := nu) (p := v2) ⟨E.1, E.2.1, E.2.2.1, E.2.2.2.1, E.2.2.2.2.1, E.2.2.2.2.2.1, E.2.2.2.2.2.2.1, E.2.2.2.2.2.2.2.1, E.2.2.2.2.2.2.2.2.1, E.2.2.2.2.2.2.2.2.2.1, ha⟩ hp2 (b2.trans f2)
    refine ⟨r, x', m', q1, q2, ?_, ?_, e3⟩
    · rw [pf_3]; exact e1
    · rw [cr_44, f2]; exact e2
  by_cases i176 : ni 1 = 176
  · rw [i176, show kOf 176 = 4 by decide +kernel]
    rcases ad_176 (mc := mc) (nd := nd) (nf := nf) (mz := mz) (xa := xa) (xg := xg) (nm := nm) (nb := nb) (nl := nl) (nc := nI k) (na := na) (nz := nz) (nv := nv) (np := np) (nu := nu) hc4 hc s1 s2 s0 s34 b0' h128 i176 b2 (b3.trans f3) f3 hv3 hsel with h | ⟨q1, q2, g1, g3, a, ha, rfl, rfl⟩
    · exact Or.inl h
    right
    have hc5 := s5 g1
    obtain ⟨b4, v4, hv4, f4⟩ := hby 4 (by omega)
    obtain ⟨r, x', m', e1, e2, e3⟩ := c_read (nd := nd) (nf := nf) (ic := nI c) (xa := xa) (xg := xg) (nn := nI c) (nu := nu) (p := v3) (v := v4) ⟨E.1, E.2.1, E.2.2.1, E.2.2.2.1, E.2.2.2.2.1, E.2.2.2.2.2.1, E.2.2.2.2.2.2.1, E.2.2.2.2.2.2.2.1, E.2.2.2.2.2.2.2.2.1, E.2.2.2.2.2.2.2.2.2.1, ha⟩ hv3 hv4 (b3.trans f3) (b4.trans f4) f4
    refine ⟨r, x', m', q1, q2, ?_, ?_, e3⟩
    · rw [pf_4]; exact e1
    · rw [cr_176, f3]; exact e2
  by_cases i214 : ni 1 = 214
  · rw [i214, show kOf 214 = 5 by decide +kernel]
    rcases ad_214 (mc := mc) (nd := nd) (nf := nf) (mz := mz) (xa := xa) (xg := xg) (nm := nm) (nb := nb) (nl := nl) (nc := nI k) (na := na) (nz := nz) (nv := nv) (np := np) (nu := nu) hc4 hc s1 s2 s0 s34 b0' h128 i214 b2 (b3.trans f3) f3 hv3 hsel with h | ⟨q1, q2, g1, g3, a, ha, rfl, rfl⟩
    · exact Or.inl h
    right
    obtain ⟨v, hv, l1, l2, lc⟩ := s3 g1
    obtain ⟨r, x', m', e1, e2, e3⟩ := c_update (nd := nd) (nf := nf) (ic := nI c) (xa := xa) (xg := xg) (nn := nI c) (nu := nu) (p := v3) (v := v) ⟨E.1, E.2.1, E.2.2.1, E.2.2.2.1, E.2.2.2.2.1, E.2.2.2.2.2.1, E.2.2.2.2.2.2.1, E.2.2.2.2.2.2.2.1, E.2.2.2.2.2.2.2.2.1, E.2.2.2.2.2.2.2.2.2.1, ha⟩ hv3 hv (b3.trans f3) l1 l2 (fun j hj => (hby j (by omega)).1)
    refine ⟨r, x', m', q1, q2, ?_, ?_, e3⟩
    · rw [pf_5]; exact e1
    · rw [cr_214, f3]; exact e2
  by_cases i112 : ni 1 = 112
  · rw [i112, show kOf 112 = 6 by decide +kernel]
    rcases ad_112 (mc := mc) (nd := nd) (nf := nf) (mz := mz) (xa := xa) (xg := xg) (nm := nm) (nb := nb) (nl := nl) (nc := nI k) (na := na) (nz := nz) (nv := nv) (np := np) (nu := nu) hc4 hc s1 s2 s0 s34 b0' h128 i112 b2 (b3.trans f3) f3 hv3 hsel with h | ⟨q1, q2, g1, g3, g4, a, ha, rfl, rfl⟩
    · exact Or.inl h
    right
    obtain ⟨r, x', m', e1, e2, e3⟩ := c_begin (nd := nd) (nf := nf) (ib := ib) (ic := nI c) (xa := xa) (xg := xg) (ni := ni) (nn := nI c) (nu := nu) ⟨E.1, E.2.1, E.2.2.1, E.2.2.2.1, E.2.2.2.2.1, E.2.2.2.2.2.1, E.2.2.2.2.2.2.1, E.2.2.2.2.2.2.2.1, E.2.2.2.2.2.2.2.2.1, E.2.2.2.2.2.2.2.2.2.1, ha⟩
    refine ⟨r, x', m', q1, q2, ?_, ?_, e3⟩
    · rw [pf_6]; exact e1
    · rw [cr_112]; exact e2
  by_cases i114 : ni 1 = 114
  · rw [i114, show kOf 114 = 7 by decide +kernel]
    rcases ad_114 (mc := mc) (nd := nd) (nf := nf) (mz := mz) (xa := xa) (xg := xg) (nm := nm) (nb := nb) (nl := nl) (nc := nI k) (na := na) (nz := nz) (nv := nv) (np := np) (nu := nu) hc4 hc s1 s2 s0 s34 b0' h128 i114 b2 (b3.trans f3) f3 hv3 hsel with h | ⟨q1, q2, g1, g3, g4, a, ha, rfl, rfl⟩
    · exact Or.inl h
    right
    have hp2 : v2 ≤ 1 := gt_le (n := 1) g3 f2 hv2
    obtain ⟨r, x', m', e1, e2, e3⟩ := c_end (nd := nd) (nf := nf) (ic := nI c) (xa := xa) (xg := xg) (nn := nI c) (nu := nu) ⟨E.1, E.2.1, E.2.2.1, E.2.2.2.1, E.2.2.2.2.1, E.2.2.2.2.2.1, E.2.2.2.2.2.2.1, E.2.2.2.2.2.2.2.1, E.2.2.2.2.2.2.2.2.1, E.2.2.2.2.2.2.2.2.2.1, ha⟩ b2
    refine ⟨r, x', m', q1, q2, ?_, ?_, e3⟩
    · rw [pf_7]; exact e1
    · rw [cr_114]; exact e2
  by_cases i226 : ni 1 = 226
  · rw [i226, show kOf 226 = 8 by decide +kernel]
    rcases ad_226 (mc := mc) (nd := nd) (nf := nf) (mz := mz) (xa := xa) (xg := xg) (nm := nm) (nb := nb) (nl := nl) (nc := nI k) (na := na) (nz := nz) (nv := nv) (np := np) (nu := nu) hc4 hc s1 s2 s0 s34 b0' h128 i226 b2 (b3.trans f3) f3 hv3 hsel with h | ⟨q1, q2, g1, g3, g2, g4, a, ha, rfl, rfl⟩
    · exact Or.inl h
    right
    obtain ⟨v, hv, l1, l2, lc⟩ := s3 g1
    have hvL : v = 4 := (nI_eq (b := 4) (by omega) (by omega)).mp (l2.symm.trans g2)
    subst hvL
    have hp2 : v2 ≤ 7 := gt_le (n := 7) g3 f2 hv2
    obtain ⟨w5, v5, hv5, f5⟩ := hby 5 (by omega)
    obtain ⟨w6, v6, hv6, f6⟩ := hby 6 (by omega)
    obtain ⟨w7, v7, hv7, f7⟩ := hby 7 (by omega)
    obtain ⟨w8, v8, hv8, f8⟩ := hby 8 (by omega)
    obtain ⟨r, x', m', e1, e2, e3⟩ := c_grant (nd := nd) (nf := nf) (ic := nI c) (xa := xa) (xg := xg) (nn := nI c) (nu := nu) (s := v2) ⟨E.1, E.2.1, E.2.2.1, E.2.2.2.1, E.2.2.2.2.1, E.2.2.2.2.2.1, E.2.2.2.2.2.2.1, E.2.2.2.2.2.2.2.1, E.2.2.2.2.2.2.2.2.1, E.2.2.2.2.2.2.2.2.2.1, ha⟩ (by omega) (b2.trans f2) ⟨w5.trans f5, f5, hv5⟩ ⟨w6.trans f6, f6, hv6⟩ ⟨w7.trans f7, f7, hv7⟩ ⟨w8.trans f8, f8, hv8⟩
    refine ⟨r, x', m', q1, q2, ?_, ?_, e3⟩
    · rw [pf_8]; exact e1
    · rw [cr_226, f2]; exact e2
  by_cases i228 : ni 1 = 228
  · rw [i228, show kOf 228 = 9 by decide +kernel]
    rcases ad_228 (mc := mc) (nd := nd) (nf := nf) (mz := mz) (xa := xa) (xg := xg) (nm := nm) (nb := nb) (nl := nl) (nc := nI k) (na := na) (nz := nz) (nv := nv) (np := np) (nu := nu) hc4 hc s1 s2 s0 s34 b0' h128 i228 b2 (b3.trans f3) f3 hv3 hsel with h | ⟨q1, q2, g1, g3, g4, a, ha, rfl, rfl⟩
    · exact Or.inl h
    right
    have hp2 : v2 ≤ 7 := gt_le (n := 7) g3 f2 hv2
    obtain ⟨r, x', m', e1, e2, e3⟩ := c_revoke (nd := nd) (nf := nf) (ic := nI c) (xa := xa) (xg := xg) (ni := ni) (nn := nI c) (nu := nu) (s := v2) (a3 := ni 3) ⟨E.1, E.2.1, E.2.2.1, E.2.2.2.1, E.2.2.2.2.1, E.2.2.2.2.2.1, E.2.2.2.2.2.2.1, E.2.2.2.2.2.2.2.1, E.2.2.2.2.2.2.2.2.1, E.2.2.2.2.2.2.2.2.2.1, ha⟩ (by omega) (b2.trans f2)
    refine ⟨r, x', m', q1, q2, ?_, ?_, e3⟩
    · rw [pf_9]; exact e1
    · rw [cr_228, f2, at_s]; exact e2
  by_cases i178 : ni 1 = 178
  · rw [i178, show kOf 178 = 10 by decide +kernel]
    rcases ad_178 (mc := mc) (nd := nd) (nf := nf) (mz := mz) (xa := xa) (xg := xg) (nm := nm) (nb := nb) (nl := nl) (nc := nI k) (na := na) (nz := nz) (nv := nv) (np := np) (nu := nu) hc4 hc s1 s2 s0 s34 b0' h128 i178 b2 (b3.trans f3) f3 hv3 hsel with h | ⟨q1, q2, g1, g3, a, ha, rfl, rfl⟩
    · exact Or.inl h
    right
    have hp2 : v2 ≤ 7 := gt_le (n := 7) g3 f2 hv2
    have hc5 := s5 g1
    obtain ⟨b4, v4, hv4, f4⟩ := hby 4 (by omega)
    obtain ⟨r, x', m', e1, e2, e3⟩ := c_rdsh (nd := nd) (nf := nf) (ic := nI c) (xa := xa) (xg := xg) (nn := nI c) (nu := nu) (s := v2) (p := v3) (v := v4) ⟨E.1, E.2.1, E.2.2.1, E.2.2.2.1, E.2.2.2.2.1, E.2.2.2.2.2.1, E.2.2.2.2.2.2.1, E.2.2.2.2.2.2.2.1, E.2.2.2.2.2.2.2.2.1, E.2.2.2.2.2.2.2.2.2.1, ha⟩ (by omega) (b2.trans f2) hv3 hv4 (b3.trans f3) (b4.trans f4) f4
    refine ⟨r, x', m', q1, q2, ?_, ?_, e3⟩
    · rw [pf_10]; exact e1
    · rw [cr_178, f2, at_s, f3]; exact e2
  by_cases i220 : ni 1 = 220
  · rw [i220, show kOf 220 = 11 by decide +kernel]
    rcases ad_220 (mc := mc) (nd := nd) (nf := nf) (mz := mz) (xa := xa) (xg := xg) (nm := nm) (nb := nb) (nl := nl) (nc := nI k) (na := na) (nz := nz) (nv := nv) (np := np) (nu := nu) hc4 hc s1 s2 s0 s34 b0' h128 i220 b2 (b3.trans f3) f3 hv3 hsel with h | ⟨q1, q2, g1, g3, a, ha, rfl, rfl⟩
    · exact Or.inl h
    right
    obtain ⟨v, hv, l1, l2, lc⟩ := s3 g1
    have hp2 : v2 ≤ 7 := gt_le (n := 7) g3 f2 hv2
    obtain ⟨r, x', m', e1, e2, e3⟩ := c_upsh (nd := nd) (nf := nf) (ic := nI c) (xa := xa) (xg := xg) (nn := nI c) (nu := nu) (s := v2) (p := v3) (v := v) ⟨E.1, E.2.1, E.2.2.1, E.2.2.2.1, E.2.2.2.2.1, E.2.2.2.2.2.1, E.2.2.2.2.2.2.1, E.2.2.2.2.2.2.2.1, E.2.2.2.2.2.2.2.2.1, E.2.2.2.2.2.2.2.2.2.1, ha⟩ (by omega) (b2.trans f2) hv3 hv (b3.trans f3) l1 l2 (fun j hj => (hby j (by omega)).1)
    refine ⟨r, x', m', q1, q2, ?_, ?_, e3⟩
    · rw [pf_11]; exact e1
    · rw [cr_220, f2, at_s, f3]; exact e2
  left
  have hk : kOf (ni 1) = 12 := by
    unfold kOf
    rw [if_neg (fun h => i164 h.symm), if_neg (fun h => i32 h.symm), if_neg (fun h => i36 h.symm), if_neg (fun h => i44 h.symm), if_neg (fun h => i176 h.symm), if_neg (fun h => i214 h.symm), if_neg (fun h => i112 h.symm), if_neg (fun h => i114 h.symm), if_neg (fun h => i226 h.symm), if_neg (fun h => i228 h.symm), if_neg (fun h => i178 h.symm), if_neg (fun h => i220 h.symm)]
  have hst : fRf_starred (ni 1) = some 0 := by
    rw [fRf_starred, if_neg i36, if_neg i44, if_neg i176, if_neg i214, if_neg i226, if_neg i228, if_neg i178, if_neg i220]
  have hkn : fRf_known (ni 1) = some 0 := by
    rw [fRf_known, hst, bd1_eq, if_pos z00, if_neg i164, if_neg i32, if_neg i112, if_neg i114]
  refine ⟨27904, by decide, by decide, by decide, ?_, ?_⟩
  · rw [hk, fA_admit, s1, bd1_eq, if_neg s0, fI_cc_eq, bd1_eq, b0', if_pos (show (128 : Int32) = 128 from rfl), if_pos (show (12 : Nat) = 12 from rfl)]
  · rw [fRf_refuse, if_neg hgt, ixc1, s2, bd1_eq, if_neg s0, ixc0, h128, if_pos (show (128 : Int32) = 128 from rfl), hkn, bd1_eq, if_pos z00]
theorem p_run {x : StX} {m : StR} (h : nREL x m) : ∃ r x' m', fA_run x = some (r, x') ∧ fRf_run m = some (r, m') ∧ nREL x' m' := by
  have h0 := h
  obtain ⟨mc, mw, mf, mz, ib, ic, xa, xg, xl, xo, xs, xv, xp⟩ := x
  obtain ⟨nm, nb, nl, nc, nd, nf, na, nz, no, ns, nv, np, ni, nn, nu, nt⟩ := m
  obtain ⟨k, c, t, ⟨e1, e2, gF, gT, gN, e3, gU, gV⟩, ⟨hc, e4, e5, gb⟩, ⟨ht, e6, e7, go⟩, hS⟩ := h
  have f1 : nd = mw := e1.symm
  have f2 : nf = mf := e2.symm
  have f3 : nc = nI k := e3
  have f4 : ic = nI c := e4
  have f5 : nn = nI c := e5
  have f6 : xl = nI t := e6
  have f7 : nt = nI t := e7
  clear e1 e2 e3 e4 e5 e6 e7
  subst f1; subst f2; subst f3; subst f4; subst f5; subst f6; subst f7
  have hF : nRF mz na nz := gF
  have hT : nTR mc nl := gT
  have hN : nNT mc k := gN
  have hU : nUB mc k (nBS k nm nb) := gU
  have hV : nV (nBS k nm nb) := gV
  have hby : ∀ j, j < c → ib j = ni j ∧ ∃ v : Nat, v < 256 ∧ ni j = nI v := gb
  have hou : ∀ j, j < t → xa j = nu j := go
  clear gF gT gN gU gV gb go
  rw [fA_run, fRf_run]
  rcases hS with ⟨o1, o2, o3, o4, o5, o6, gL, gW, gk, gs⟩ | ⟨o1, o2, o3, o4, o5, o6, o7, o8, o9, o10⟩
  · have p1 : xo = 1 := o1
    have p2 : no = 1 := o2
    have p3 : nv = xv := o3.symm
    have p4 : nv = 0 ∨ nv = 1 := o4
    have p5 : np = xp := o5.symm
    have p6 : np = 0 ∨ np = 1 := o6
    clear o1 o2 o3 o4 o5 o6
    subst p1; subst p2; subst p3; subst p5
    have hL : nLE mc nm := gL
    have hVm : nV nm := gW
    have hk0 : np = 0 → k = 0 := gk
    have hsel : (xs = -2 ∧ ns = -1) ∨ ∃ a : Nat, a < 4 ∧ xs = nI a ∧ ns = nI a := gs
    clear gL gW gk gs
    rw [if_neg h10, if_neg h10, fI_ins_eq, bd1_eq, wc_eq, bd1_eq]
    have E : nEN k 0 mc nm nb nl mz na nz nv np := ⟨hF, hT, hN, hU, hV, hL, hVm, hk0, p4, p6, by omega⟩
    rcases rk (nd := nd) (nf := nf) (xa := xa) (xg := xg) (nu := nu) E hsel hc hby with ⟨st, g1, g2, g3, e1, e2⟩ | ⟨r, x', m', e1, e2, e3, e4, e5⟩
    · rw [e1, bd1_eq, if_neg g1, e2, bd1_eq, if_neg g3]
      have hend : nEND st (mc, nd, nf, mz, ib, nI c, xa, xg, 0, 1, xs, nv, np) (nm, nb, nl, nI k, nd, nf, na, nz, 1, ns, nv, np, ni, nI c, nu, 0) := Or.inr ⟨g2, k, 0, ⟨rfl, rfl, hF, hT, hN, rfl, hU, hV⟩, ⟨rfl, rfl, rfl, p4, rfl, p6, hL, hVm, hk0, hsel⟩, by omega, rfl, fun h => absurd h g1, fun _ => rfl⟩
      obtain ⟨x', m', f1, f2, f3⟩ := fin hend
      exact ⟨st, x', m', f1, f2, f3⟩
    · rw [e1, bd1_eq, if_pos (show (36864 : Int32) = 36864 from rfl), e3, e2, bd1_eq, if_pos z00, ixc1, ixc2, ixc3, e4]
      obtain ⟨x1, x2, x3, x4, x5, x6, x7, x8, x9, x10, x11, x12, x13⟩ := x'
      obtain ⟨y1, y2, y3, y4, y5, y6, y7, y8, y9, y10, y11, y12, y13, y14, y15, y16⟩ := m'
      rw [bd14_eq, bd17_eq]
      obtain ⟨x', m', f1, f2, f3⟩ := fin e5
      exact ⟨r, x', m', f1, f2, f3⟩
  · have p1 : xo = 0 := o1
    have p2 : no = 0 := o2
    have p3 : xs = -2 := o3
    have p4 : ns = -1 := o4
    have p5 : xv = 0 := o5
    have p6 : nv = 0 := o6
    have p7 : xp = 0 := o7
    have p8 : np = 0 := o8
    clear o1 o2 o3 o4 o5 o6 o7 o8
    subst p1; subst p2; subst p3; subst p4; subst p5; subst p6; subst p7; subst p8
    simp only [if_pos z00]; exact ⟨_, _, _, rfl, rfl, h0⟩
end PRUN2
