section PMEM2
variable {mc nm nb nl ni nu b : Nat → Int32} {mz nc nd nf na nz no ns nv np nn nt : Int32}
-- several writes of the reference
theorem sv_end {f n i : Nat} {m : StR} (h : n ≤ i) (hi : i < 2 ^ 31) : fRf_several_L2 (f + 1) m (nI n) (nI i) = some (1, m) := by
  obtain ⟨x1, x2, x3, x4, x5, x6, x7, x8, x9, x10, x11, x12, x13, x14, x15, x16⟩ := m
  rw [fRf_several_L2, if_pos (nI_le h hi)]
theorem sv_ok {f n i : Nat} {m m1 : StR} (h : i < n) (hn : n < 2 ^ 31) (e : fRf_write m = some (1, m1)) : fRf_several_L2 (f + 1) m (nI n) (nI i) = fRf_several_L2 f m1 (nI n) (nI (i + 1)) := by
  obtain ⟨x1, x2, x3, x4, x5, x6, x7, x8, x9, x10, x11, x12, x13, x14, x15, x16⟩ := m
  obtain ⟨y1, y2, y3, y4, y5, y6, y7, y8, y9, y10, y11, y12, y13, y14, y15, y16⟩ := m1
  rw [fRf_several_L2, if_neg (nI_ge h hn), e, bd17_eq, if_neg (by decide), nI_1]
theorem sv_no {f n i : Nat} {m m1 : StR} (h : i < n) (hn : n < 2 ^ 31) (e : fRf_write m = some (0, m1)) : fRf_several_L2 (f + 1) m (nI n) (nI i) = some (0, m1) := by
  obtain ⟨x1, x2, x3, x4, x5, x6, x7, x8, x9, x10, x11, x12, x13, x14, x15, x16⟩ := m
  obtain ⟨y1, y2, y3, y4, y5, y6, y7, y8, y9, y10, y11, y12, y13, y14, y15, y16⟩ := m1
  rw [fRf_several_L2, if_neg (nI_ge h hn), e, bd17_eq, if_pos rfl]
theorem sv_in {m : StR} {n : Nat} : fRf_several m (nI n) = fRf_several_L2 300 m (nI n) (nI 0) := by
  obtain ⟨x1, x2, x3, x4, x5, x6, x7, x8, x9, x10, x11, x12, x13, x14, x15, x16⟩ := m
  rw [fRf_several]; rfl
-- the reference's change behind its copying
def chg2 (m : StR) (a1 a2 : Int32) : Option (Int32 × StR) := bd17 (fRf_several m 3) fun r2 nm2 nb2 nl2 nc2 nd2 nf2 na2 nz2 no2 ns2 nv2 np2 ni2 nn2 nu2 nt2 => if r2 = 0 then (some (0, nm2, nb2, nl2, nc2, nd2, nf2, na2, nz2, no2, ns2, nv2, np2, ni2, nn2, nu2, nt2)) else (bd17 (fRf_write (nm2, nb2, nl2, nc2 + 1, nd2, nf2, na2, nz2, no2, ns2, nv2, np2, ni2, nn2, nu2, nt2)) fun r4 nm4 nb4 nl4 nc4 nd4 nf4 na4 nz4 no4 ns4 nv4 np4 ni4 nn4 nu4 nt4 => if r4 = 0 then (some (0, nm4, nb4, nl4, nc4, nd4, nf4, na4, nz4, no4, ns4, nv4, np4, ni4, nn4, nu4, nt4)) else (ix a1 104 fun j6 => some (1, upd nm4 j6 a2, nb4, nl4, nc4, nd4, nf4, na4, nz4, no4, ns4, nv4, np4, ni4, nn4, nu4, nt4)))
theorem chg_copy {a1 a2 : Int32} : ∀ (d i f : Nat) (nb : Nat → Int32), i + d = 104 → d < f → ∃ nb' : Nat → Int32, (∀ j, j < 104 → nb' j = if i ≤ j then nm j else nb j) ∧
    fRf_change_L9 f (nm, nb, nl, nc, nd, nf, na, nz, no, ns, nv, np, ni, nn, nu, nt) a1 a2 (nI i) = chg2 (nm, nb', nl, nc, nd, nf, na, nz, no, ns, nv, np, ni, nn, nu, nt) a1 a2
  | 0, i, f, nb, h, hf => by
    obtain ⟨f, rfl⟩ : ∃ g, f = g + 1 := ⟨f - 1, by omega⟩
    refine ⟨nb, fun j hj => by rw [if_neg (by omega)], ?_⟩
    rw [fRf_change_L9, if_pos (show (104 : Int32) ≤ nI i from nI_le (a := 104) (by omega) (by omega))]
    rfl
  | d + 1, i, f, nb, h, hf => by
    obtain ⟨f, rfl⟩ : ∃ g, f = g + 1 := ⟨f - 1, by omega⟩
    obtain ⟨nb', h1, h2⟩ := chg_copy d (i + 1) f (upd nb i (nm i)) (by omega) (by omega)
    refine ⟨nb', fun j hj => ?_, ?_⟩
    · rw [h1 j hj]
      by_cases hji : j = i
      · subst hji; rw [if_neg (by omega), if_pos (Nat.le_refl _), pk_us]
      · rw [pk_un hji]
        by_cases hle : i ≤ j
        · rw [if_pos (by omega), if_pos hle]
        · rw [if_neg (by omega), if_neg hle]
    · rw [fRf_change_L9, if_neg (show ¬ (104 : Int32) ≤ nI i from nI_ge (b := 104) (by omega) (by omega)), ix_nI (by omega) (by decide), ix_nI (by omega) (by decide), nI_1]
      exact h2
theorem chg_ref {k : Nat} {a1 a2 : Int32} (hk : k ≤ 20) : ∃ nb' : Nat → Int32, (∀ j, j < 104 → nb' j = nBS k nm nb j) ∧
    fRf_change (nm, nb, nl, nI k, nd, nf, na, nz, no, ns, nv, np, ni, nn, nu, nt) a1 a2 = chg2 (nm, nb', nl, nI k, nd, nf, na, nz, no, ns, nv, np, ni, nn, nu, nt) a1 a2 := by
  by_cases h0 : k = 0
  · subst h0
    obtain ⟨nb', h1, h2⟩ := chg_copy (nm := nm) (nl := nl) (nc := nI 0) (nd := nd) (nf := nf) (na := na) (nz := nz) (no := no) (ns := ns) (nv := nv) (np := np) (ni := ni) (nn := nn) (nu := nu) (nt := nt) (a1 := a1) (a2 := a2) 104 0 300 nb (by omega) (by omega)
    refine ⟨nb', fun j hj => by rw [h1 j hj, if_pos (Nat.zero_le _)]; rfl, ?_⟩
    rw [fRf_change, if_pos (show nI 0 = 0 from rfl)]
    exact h2
  · refine ⟨nb, fun j hj => by unfold nBS; rw [if_neg h0], ?_⟩
    rw [fRf_change, if_neg (nI_ne0 (by omega) (by omega))]
    rfl
theorem pk108 (k : Nat) : (108 : Int32) + 2 * nI k = nI (108 + 2 * k) := by
  show nI 108 + nI 2 * nI k = _
  rw [pk_mul, nI_add]
theorem pk109 (k : Nat) : (108 : Int32) + 2 * nI k + 1 = nI (109 + 2 * k) := by
  rw [pk108, nI_1]; congr 1; omega
theorem pk109' (k : Nat) : nI (108 + 2 * k) + 1 = nI (109 + 2 * k) := by
  rw [nI_1]; congr 1; omega
-- one more note
theorem nt_add {k j : Nat} {c d : Nat → Int32} (hj : j < 104) (hk : k < 20) (hN : nNT d k) (hU : nUB d k b)
    (h1 : ∀ p, p < 108 → p ≠ ph j → c p = d p) (h2 : ∀ t, t < k → c (108 + 2 * t) = d (108 + 2 * t) ∧ c (109 + 2 * t) = d (109 + 2 * t)) (h3 : c (108 + 2 * k) = nI (ph j)) (h4 : c (109 + 2 * k) = d (ph j)) (h5 : c 148 = nI (k + 1)) : nNT c (k + 1) ∧ nUB c (k + 1) b := by
  have hp := ph_lt hj
  refine ⟨⟨by omega, h5, fun i hi => ?_⟩, fun j' hj' => ?_⟩
  · by_cases hik : i = k
    · subst hik; exact ⟨j, hj, h3⟩
    · rw [(h2 i (by omega)).1]; exact hN.2.2 i (by omega)
  · rw [← hU j' hj']
    unfold uu
    have hpl : plc c (0 + k) = ph j := by
      unfold plc; rw [Nat.zero_add, h3, nI_clamp (by omega)]
    rw [un_last, hpl]
    have e : (if ph j = ph j' then c (109 + 2 * (0 + k)) else c (ph j')) = d (ph j') := by
      by_cases hh : ph j = ph j'
      · rw [if_pos hh, Nat.zero_add, h4, hh]
      · rw [if_neg hh]; exact h1 _ (ph_lt hj') (fun z => hh z.symm)
    rw [e]
    exact un_congr k 0 (fun t _ ht => h2 t (by omega))
theorem cpair {j k : Nat} {v : Int32} (hj : j < 104) (hk : k < 20) (hN : nNT mc k) (hU : nUB mc k b) (hL : nLE mc nm) (hT : nTR mc nl) (hF : nRF mz na nz) :
    (∃ (mc' : Nat → Int32) (k' : Nat) (w z' : Int32), fM_change (mc, nd, nf, mz) (nI (ph j)) v = some (0, mc', w, nf + 1, -1) ∧ chg2 (nm, nb, nl, nI k, nd, nf, na, nz, no, ns, nv, np, ni, nn, nu, nt) (nI j) v = some (0, nm, nb, nl, nI k', w, nf + 1, 0, z', 0, -1, 0, 0, ni, 0, nu, 0) ∧ nNT mc' k' ∧ nUB mc' k' b ∧ nLE mc' nm ∧ nTR mc' nl ∧ k ≤ k') ∨
    (∃ (mc' : Nat → Int32) (w z z' : Int32), nRF z na z' ∧ fM_change (mc, nd, nf, mz) (nI (ph j)) v = some (1, mc', w, nf, z) ∧ chg2 (nm, nb, nl, nI k, nd, nf, na, nz, no, ns, nv, np, ni, nn, nu, nt) (nI j) v = some (1, upd nm j v, nb, nl, nI (k + 1), w, nf, na, z', no, ns, nv, np, ni, nn, nu, nt) ∧ nNT mc' (k + 1) ∧ nUB mc' (k + 1) b ∧ nLE mc' (upd nm j v) ∧ nTR mc' nl) := by
  have hp := ph_lt hj
  rw [fM_change, fM_count_eq, bd1_eq, hN.2.1, pk108, pk109', chg2, show (3 : Int32) = nI 3 from rfl, sv_in]
  rcases wpair (mc := mc) (mw := nd) (mf := nf) (v := nI (ph j)) (nm := nm) (nb := nb) (nl := nl) (nc := nI k) (nd := nd) (nf := nf) (no := no) (ns := ns) (nv := nv) (np := np) (ni := ni) (nn := nn) (nu := nu) (nt := nt) (show 108 + 2 * k < 149 by omega) hF with ⟨e1, e2⟩ | ⟨z1, y1, hF1, e1, e2⟩
  · left
    rw [e1, bd5_eq, if_pos rfl, sv_no (by decide) (by decide) e2, bd17_eq, if_pos rfl]
    exact ⟨mc, k, nd, _, rfl, rfl, hN, hU, hL, hT, Nat.le_refl k⟩
  rw [e1, bd5_eq, if_neg (by decide), sv_ok (by decide) (by decide) e2, ix_nI (show ph j < 149 by omega) (by decide), pk_un (show ph j ≠ 108 + 2 * k by omega)]
  have g1 : nAG k (upd mc (108 + 2 * k) (nI (ph j))) mc := nAG.rf.up (Nat.le_refl _) (by omega)
  rcases wpair (mc := upd mc (108 + 2 * k) (nI (ph j))) (mw := nd + 1) (mf := nf) (v := mc (ph j)) (nm := nm) (nb := nb) (nl := nl) (nc := nI k) (nd := nd + 1) (nf := nf) (no := no) (ns := ns) (nv := nv) (np := np) (ni := ni) (nn := nn) (nu := nu) (nt := nt) (show 109 + 2 * k < 149 by omega) hF1 with ⟨e1, e2⟩ | ⟨z2, y2, hF2, e1, e2⟩
  · left
    rw [e1, bd5_eq, if_pos rfl, sv_no (by decide) (by decide) e2, bd17_eq, if_pos rfl]
    exact ⟨_, k, nd + 1, _, rfl, rfl, g1.nt hN, g1.ub hU, g1.le hL, g1.tr hT, Nat.le_refl k⟩
  rw [e1, bd5_eq, if_neg (by decide), sv_ok (by decide) (by decide) e2, fM_count_eq, bd1_eq]
  have g2 : nAG k (upd (upd mc (108 + 2 * k) (nI (ph j))) (109 + 2 * k) (mc (ph j))) mc := g1.up (by omega) (by omega)
  rw [g2.2.2, hN.2.1, nI_1, show (148 : Int32) = nI 148 from rfl]
  rcases wpair (mc := upd (upd mc (108 + 2 * k) (nI (ph j))) (109 + 2 * k) (mc (ph j))) (mw := nd + 1 + 1) (mf := nf) (v := nI (k + 1)) (nm := nm) (nb := nb) (nl := nl) (nc := nI k) (nd := nd + 1 + 1) (nf := nf) (no := no) (ns := ns) (nv := nv) (np := np) (ni := ni) (nn := nn) (nu := nu) (nt := nt) (show 148 < 149 by omega) hF2 with ⟨e1, e2⟩ | ⟨z3, y3, hF3, e1, e2⟩
  · left
    rw [e1, bd5_eq, if_pos rfl, sv_no (by decide) (by decide) e2, bd17_eq, if_pos rfl]
    exact ⟨_, k, nd + 1 + 1, _, rfl, rfl, g2.nt hN, g2.ub hU, g2.le hL, g2.tr hT, Nat.le_refl k⟩
  rw [e1, bd5_eq, if_neg (by decide), sv_ok (by decide) (by decide) e2, sv_end (by decide) (by decide), bd17_eq, if_neg (by decide), nI_1]
  have c1 : ∀ p, p < 108 → upd (upd (upd mc (108 + 2 * k) (nI (ph j))) (109 + 2 * k) (mc (ph j))) 148 (nI (k + 1)) p = mc p := fun p h => by rw [pk_un (by omega)]; exact g2.1 p h
  have c2 : ∀ t, t < k → upd (upd (upd mc (108 + 2 * k) (nI (ph j))) (109 + 2 * k) (mc (ph j))) 148 (nI (k + 1)) (108 + 2 * t) = mc (108 + 2 * t) ∧ upd (upd (upd mc (108 + 2 * k) (nI (ph j))) (109 + 2 * k) (mc (ph j))) 148 (nI (k + 1)) (109 + 2 * t) = mc (109 + 2 * t) := fun t h => by
    rw [pk_un (show 108 + 2 * t ≠ 148 by omega), pk_un (show 109 + 2 * t ≠ 148 by omega)]; exact g2.2.1 t h
  have c3 : upd (upd (upd mc (108 + 2 * k) (nI (ph j))) (109 + 2 * k) (mc (ph j))) 148 (nI (k + 1)) (108 + 2 * k) = nI (ph j) := by
    rw [pk_un (by omega), pk_un (by omega), pk_us]
  have c4 : upd (upd (upd mc (108 + 2 * k) (nI (ph j))) (109 + 2 * k) (mc (ph j))) 148 (nI (k + 1)) (109 + 2 * k) = mc (ph j) := by
    rw [pk_un (by omega), pk_us]
  have c5 : upd (upd (upd mc (108 + 2 * k) (nI (ph j))) (109 + 2 * k) (mc (ph j))) 148 (nI (k + 1)) 148 = nI (k + 1) := pk_us
  generalize upd (upd (upd mc (108 + 2 * k) (nI (ph j))) (109 + 2 * k) (mc (ph j))) 148 (nI (k + 1)) = c at c1 c2 c3 c4 c5 e1 ⊢
  rcases wpair (mc := c) (mw := nd + 1 + 1 + 1) (mf := nf) (v := v) (nm := nm) (nb := nb) (nl := nl) (nc := nI (k + 1)) (nd := nd + 1 + 1 + 1) (nf := nf) (no := no) (ns := ns) (nv := nv) (np := np) (ni := ni) (nn := nn) (nu := nu) (nt := nt) (show ph j < 149 by omega) hF3 with ⟨e1, e2⟩ | ⟨z4, y4, hF4, e1, e2⟩
  · left
    rw [e1, bd5_eq, if_pos rfl, e2, bd17_eq, if_pos rfl]
    have hh := nt_add (c := c) hj hk hN hU (fun p h _ => c1 p h) c2 c3 c4 c5
    exact ⟨_, k + 1, _, _, rfl, rfl, hh.1, hh.2, fun j' hj' => by rw [c1 _ (ph_lt hj')]; exact hL j' hj', fun a ha => by rw [c1 _ (by omega)]; exact hT a ha, Nat.le_succ k⟩
  · right
    rw [e1, bd5_eq, if_neg (by decide), e2, bd17_eq, if_neg (by decide), ix_nI hj (by decide)]
    have hh := nt_add (c := upd c (ph j) v) hj hk hN hU (fun p h h' => by rw [pk_un h']; exact c1 p h) (fun t ht => by rw [pk_un (by omega), pk_un (by omega)]; exact c2 t ht) (by rw [pk_un (by omega)]; exact c3) (by rw [pk_un (by omega)]; exact c4) (by rw [pk_un (by omega)]; exact c5)
    refine ⟨_, _, z4, y4, hF4, rfl, rfl, hh.1, hh.2, fun j' hj' => ?_, fun a ha => ?_⟩
    · by_cases hjj : j' = j
      · subst hjj; rw [pk_us, pk_us]
      · rw [pk_un (fun z => hjj (ph_inj z)), pk_un hjj, c1 _ (ph_lt hj')]; exact hL j' hj'
    · rw [pk_un (fun z => ph_nt ha z.symm), c1 _ (by omega)]; exact hT a ha
end PMEM2
