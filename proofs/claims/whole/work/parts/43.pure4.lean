section PSTORE
variable {nl ni nu ib xa xg b : Nat → Int32} {nf na no ns nv np nn nt ic xl xo xs xv : Int32}
theorem doneIf_0 : fA_doneIf 0 = some (-1) := by rw [fA_doneIf, if_pos rfl]
theorem doneIf_1 : fA_doneIf 1 = some 36864 := by rw [fA_doneIf, if_neg (by decide)]
theorem uu_0 {c : Nat → Int32} {p : Nat} : uu c 0 p = c p := by unfold uu; rw [un_0]
theorem stl_qb {a n fr : Nat} (hat : a + n ≤ 104) (hph : ∀ t, t < n → ph (a + t) = ph a + t) (hfr : fr + n ≤ 24) (hn : n ≤ 19) (hrow : ∀ t, t < n → ib (fr + t) = ni (5 + t)) :
    ∀ (d i f g k : Nat) (mc nm nb : Nat → Int32) (mz nz nd : Int32), i + d = n → d < f → d < g → k + d ≤ 20 → nNT mc k → nUB mc k b → (∀ j, j < 104 → b j = nBS k nm nb j) → nLE mc nm → nTR mc nl → nRF mz na nz →
    (∃ (mc' nm' nb' : Nat → Int32) (k' : Nat) (w z' : Int32), fA_store_qb_L22 f (mc, nd, nf, mz, ib, ic, xa, xg, xl, xo, xs, xv, np) (nI (ph a)) (nI fr) (nI n) (nI i) = some (-1, mc', w, nf + 1, -1, ib, ic, xa, xg, xl, xo, xs, xv, np) ∧
      fRf_store_L24 g (nm, nb, nl, nI k, nd, nf, na, nz, no, ns, nv, np, ni, nn, nu, nt) (nI a) (nI n) (nI i) = some (-1, nm', nb', nl, nI k', w, nf + 1, 0, z', 0, -1, 0, 0, ni, 0, nu, 0) ∧ nNT mc' k' ∧ nUB mc' k' b ∧ (∀ j, j < 104 → b j = nBS k' nm' nb' j) ∧ nTR mc' nl) ∨
    (∃ (mc' nm' nb' : Nat → Int32) (k' : Nat) (w z z' : Int32), nRF z na z' ∧ fA_store_qb_L22 f (mc, nd, nf, mz, ib, ic, xa, xg, xl, xo, xs, xv, np) (nI (ph a)) (nI fr) (nI n) (nI i) = some (36864, mc', w, nf, z, ib, ic, xa, xg, xl, xo, xs, xv, np) ∧
      fRf_store_L24 g (nm, nb, nl, nI k, nd, nf, na, nz, no, ns, nv, np, ni, nn, nu, nt) (nI a) (nI n) (nI i) = some (36864, nm', nb', nl, nI k', w, nf, na, z', no, ns, nv, np, ni, nn, nu, nt) ∧ nNT mc' k' ∧ nUB mc' k' (nBS k' nm' nb') ∧ nLE mc' nm' ∧ nTR mc' nl ∧ (np = 0 → k' = 0) ∧ (k' ≠ 0 → ∀ j, j < 104 → nb' j = b j) ∧ ∀ j, j < 104 → nm' j = if a + i ≤ j ∧ j < a + n then ni (5 + (j - a)) else nm j) := by
  intro d
  induction d with
  | zero =>
    intro i f g k mc nm nb mz nz nd hi hf hg hk hN hU hB hL hT hF
    obtain ⟨f, rfl⟩ : ∃ x, f = x + 1 := ⟨f - 1, by omega⟩
    obtain ⟨g, rfl⟩ : ∃ x, g = x + 1 := ⟨g - 1, by omega⟩
    have hin : i = n := by omega
    subst hin
    rw [fA_store_qb_L22, if_pos (nI_le (Nat.le_refl i) (by omega)), fRf_store_L24, if_pos (nI_le (Nat.le_refl i) (by omega))]
    have hnm : ∀ j, j < 104 → nm j = if a + i ≤ j ∧ j < a + i then ni (5 + (j - a)) else nm j := fun j _ => by rw [if_neg (by omega)]
    by_cases hp : np = 0
    · rw [if_pos hp, if_pos hp]
      rcases spair (nd := nd) (nf := nf) (nm := nm) (nb := nb) (nl := nl) (no := no) (ns := ns) (nv := nv) (np := np) (ni := ni) (nn := nn) (nu := nu) (nt := nt) hN hF with ⟨z', h0, e1, e2⟩ | ⟨mc', w, z, z', hF', e1, e2, q1, q2⟩
      · left
        rw [e1, bd5_eq, if_pos rfl, doneIf_0, bd1_eq, e2, bd17_eq, if_pos rfl]
        exact ⟨mc, nm, nb, k, nd, z', rfl, rfl, hN, hU, hB, hT⟩
      · right
        rw [e1, bd5_eq, if_neg (by decide), doneIf_1, bd1_eq, e2, bd17_eq, if_neg (by decide)]
        have hL' : nLE mc' nm := fun j hj => by rw [q1 _ (by have := ph_lt hj; omega)]; exact hL j hj
        exact ⟨mc', nm, nb, 0, w, z, z', hF', rfl, rfl, ⟨by omega, q2, fun i hi => by omega⟩, fun j hj => by rw [uu_0, hL' j hj]; rfl, hL', fun a ha => by rw [q1 _ (by omega)]; exact hT a ha, fun _ => rfl, fun h => absurd rfl h, hnm⟩
    · rw [if_neg hp, if_neg hp, doneIf_1, bd1_eq]
      right
      exact ⟨mc, nm, nb, k, nd, mz, nz, hF, rfl, rfl, hN, fun j hj => by rw [hU j hj, hB j hj], hL, hT, fun h => absurd h hp, fun h j hj => by rw [hB j hj]; unfold nBS; rw [if_neg h], hnm⟩
  | succ d ih =>
    intro i f g k mc nm nb mz nz nd hi hf hg hk hN hU hB hL hT hF
    obtain ⟨f, rfl⟩ : ∃ x, f = x + 1 := ⟨f - 1, by omega⟩
    obtain ⟨g, rfl⟩ : ∃ x, g = x + 1 := ⟨g - 1, by omega⟩
    rw [fA_store_qb_L22, if_neg (nI_ge (by omega) (by omega)), fRf_store_L24, if_neg (nI_ge (by omega) (by omega)), show (5 : Int32) = nI 5 from rfl]
    simp only [nI_add, nI_1]
    rw [ix_nI (by omega) (by decide), ix_nI (by omega) (by decide), hrow i (by omega), ← hph i (by omega)]
    obtain ⟨nb1, hb1, e0⟩ := chg_ref (nm := nm) (nb := nb) (nl := nl) (nd := nd) (nf := nf) (na := na) (nz := nz) (no := no) (ns := ns) (nv := nv) (np := np) (ni := ni) (nn := nn) (nu := nu) (nt := nt) (a1 := nI (a + i)) (a2 := ni (5 + i)) (show k ≤ 20 by omega)
    rw [e0]
    rcases cpair (nb := nb1) (nd := nd) (nf := nf) (no := no) (ns := ns) (nv := nv) (np := np) (ni := ni) (nn := nn) (nu := nu) (nt := nt) (v := ni (5 + i)) (show a + i < 104 by omega) (show k < 20 by omega) hN hU hL hT hF with ⟨mc', k', w, z', e1, e2, q1, q2, q3, q4, q5⟩ | ⟨mc', w, z, z', hF', e1, e2, q1, q2, q3, q4⟩
    · left
      rw [e1, bd5_eq, if_pos rfl, e2, bd17_eq, if_pos rfl]
      refine ⟨mc', nm, nb1, k', w, z', rfl, rfl, q1, q2, fun j hj => ?_, q4⟩
      have hb := hB j hj
      rw [hb, ← hb1 j hj]
      unfold nBS
      by_cases hk' : k' = 0
      · rw [if_pos hk', hb1 j hj]; unfold nBS; rw [if_pos (by omega)]
      · rw [if_neg hk']
    · rw [e1, bd5_eq, if_neg (by decide), e2, bd17_eq, if_neg (by decide)]
      have hB1 : ∀ j, j < 104 → b j = nBS (k + 1) (upd nm (a + i) (ni (5 + i))) nb1 j := fun j hj => by
        rw [hB j hj, ← hb1 j hj]; unfold nBS; rw [if_neg (by omega)]
      rcases ih (i + 1) f g (k + 1) mc' (upd nm (a + i) (ni (5 + i))) nb1 z z' w (by omega) (by omega) (by omega) (by omega) q1 q2 hB1 q3 q4 hF' with h | ⟨mc2, nm2, nb2, k2, w2, z2, y2, p1, p2, p3, p4, p5, p6, p7, p8, p9, p10⟩
      · exact Or.inl h
      · refine Or.inr ⟨mc2, nm2, nb2, k2, w2, z2, y2, p1, p2, p3, p4, p5, p6, p7, p8, p9, fun j hj => ?_⟩
        rw [p10 j hj]
        by_cases hji : j = a + i
        · subst hji
          rw [if_neg (by omega), if_pos (by omega), pk_us]
          congr 1; omega
        · rw [pk_un hji]
          by_cases hc : a + (i + 1) ≤ j ∧ j < a + n
          · rw [if_pos hc, if_pos (by omega)]
          · rw [if_neg hc, if_neg (by omega)]
theorem stl_qg {a n fr : Nat} (hat : a + n ≤ 104) (hph : ∀ t, t < n → ph (a + t) = ph a + t) (hfr : fr + n ≤ 4) (hn : n ≤ 19) (hrow : ∀ t, t < n → xg (fr + t) = ni (5 + t)) :
    ∀ (d i f g k : Nat) (mc nm nb : Nat → Int32) (mz nz nd : Int32), i + d = n → d < f → d < g → k + d ≤ 20 → nNT mc k → nUB mc k b → (∀ j, j < 104 → b j = nBS k nm nb j) → nLE mc nm → nTR mc nl → nRF mz na nz →
    (∃ (mc' nm' nb' : Nat → Int32) (k' : Nat) (w z' : Int32), fA_store_qg_L22 f (mc, nd, nf, mz, ib, ic, xa, xg, xl, xo, xs, xv, np) (nI (ph a)) (nI fr) (nI n) (nI i) = some (-1, mc', w, nf + 1, -1, ib, ic, xa, xg, xl, xo, xs, xv, np) ∧
      fRf_store_L24 g (nm, nb, nl, nI k, nd, nf, na, nz, no, ns, nv, np, ni, nn, nu, nt) (nI a) (nI n) (nI i) = some (-1, nm', nb', nl, nI k', w, nf + 1, 0, z', 0, -1, 0, 0, ni, 0, nu, 0) ∧ nNT mc' k' ∧ nUB mc' k' b ∧ (∀ j, j < 104 → b j = nBS k' nm' nb' j) ∧ nTR mc' nl) ∨
    (∃ (mc' nm' nb' : Nat → Int32) (k' : Nat) (w z z' : Int32), nRF z na z' ∧ fA_store_qg_L22 f (mc, nd, nf, mz, ib, ic, xa, xg, xl, xo, xs, xv, np) (nI (ph a)) (nI fr) (nI n) (nI i) = some (36864, mc', w, nf, z, ib, ic, xa, xg, xl, xo, xs, xv, np) ∧
      fRf_store_L24 g (nm, nb, nl, nI k, nd, nf, na, nz, no, ns, nv, np, ni, nn, nu, nt) (nI a) (nI n) (nI i) = some (36864, nm', nb', nl, nI k', w, nf, na, z', no, ns, nv, np, ni, nn, nu, nt) ∧ nNT mc' k' ∧ nUB mc' k' (nBS k' nm' nb') ∧ nLE mc' nm' ∧ nTR mc' nl ∧ (np = 0 → k' = 0) ∧ (k' ≠ 0 → ∀ j, j < 104 → nb' j = b j) ∧ ∀ j, j < 104 → nm' j = if a + i ≤ j ∧ j < a + n then ni (5 + (j - a)) else nm j) := by
  intro d
  induction d with
  | zero =>
    intro i f g k mc nm nb mz nz nd hi hf hg hk hN hU hB hL hT hF
    obtain ⟨f, rfl⟩ : ∃ x, f = x + 1 := ⟨f - 1, by omega⟩
    obtain ⟨g, rfl⟩ : ∃ x, g = x + 1 := ⟨g - 1, by omega⟩
    have hin : i = n := by omega
    subst hin
    rw [fA_store_qg_L22, if_pos (nI_le (Nat.le_refl i) (by omega)), fRf_store_L24, if_pos (nI_le (Nat.le_refl i) (by omega))]
    have hnm : ∀ j, j < 104 → nm j = if a + i ≤ j ∧ j < a + i then ni (5 + (j - a)) else nm j := fun j _ => by rw [if_neg (by omega)]
    by_cases hp : np = 0
    · rw [if_pos hp, if_pos hp]
      rcases spair (nd := nd) (nf := nf) (nm := nm) (nb := nb) (nl := nl) (no := no) (ns := ns) (nv := nv) (np := np) (ni := ni) (nn := nn) (nu := nu) (nt := nt) hN hF with ⟨z', h0, e1, e2⟩ | ⟨mc', w, z, z', hF', e1, e2, q1, q2⟩
      · left
        rw [e1, bd5_eq, if_pos rfl, doneIf_0, bd1_eq, e2, bd17_eq, if_pos rfl]
        exact ⟨mc, nm, nb, k, nd, z', rfl, rfl, hN, hU, hB, hT⟩
      · right
        rw [e1, bd5_eq, if_neg (by decide), doneIf_1, bd1_eq, e2, bd17_eq, if_neg (by decide)]
        have hL' : nLE mc' nm := fun j hj => by rw [q1 _ (by have := ph_lt hj; omega)]; exact hL j hj
        exact ⟨mc', nm, nb, 0, w, z, z', hF', rfl, rfl, ⟨by omega, q2, fun i hi => by omega⟩, fun j hj => by rw [uu_0, hL' j hj]; rfl, hL', fun a ha => by rw [q1 _ (by omega)]; exact hT a ha, fun _ => rfl, fun h => absurd rfl h, hnm⟩
    · rw [if_neg hp, if_neg hp, doneIf_1, bd1_eq]
      right
      exact ⟨mc, nm, nb, k, nd, mz, nz, hF, rfl, rfl, hN, fun j hj => by rw [hU j hj, hB j hj], hL, hT, fun h => absurd h hp, fun h j hj => by rw [hB j hj]; unfold nBS; rw [if_neg h], hnm⟩
  | succ d ih =>
    intro i f g k mc nm nb mz nz nd hi hf hg hk hN hU hB hL hT hF
    obtain ⟨f, rfl⟩ : ∃ x, f = x + 1 := ⟨f - 1, by omega⟩
    obtain ⟨g, rfl⟩ : ∃ x, g = x + 1 := ⟨g - 1, by omega⟩
    rw [fA_store_qg_L22, if_neg (nI_ge (by omega) (by omega)), fRf_store_L24, if_neg (nI_ge (by omega) (by omega)), show (5 : Int32) = nI 5 from rfl]
    simp only [nI_add, nI_1]
    rw [ix_nI (by omega) (by decide), ix_nI (by omega) (by decide), hrow i (by omega), ← hph i (by omega)]
    obtain ⟨nb1, hb1, e0⟩ := chg_ref (nm := nm) (nb := nb) (nl := nl) (nd := nd) (nf := nf) (na := na) (nz := nz) (no := no) (ns := ns) (nv := nv) (np := np) (ni := ni) (nn := nn) (nu := nu) (nt := nt) (a1 := nI (a + i)) (a2 := ni (5 + i)) (show k ≤ 20 by omega)
    rw [e0]
    rcases cpair (nb := nb1) (nd := nd) (nf := nf) (no := no) (ns := ns) (nv := nv) (np := np) (ni := ni) (nn := nn) (nu := nu) (nt := nt) (v := ni (5 + i)) (show a + i < 104 by omega) (show k < 20 by omega) hN hU hL hT hF with ⟨mc', k', w, z', e1, e2, q1, q2, q3, q4, q5⟩ | ⟨mc', w, z, z', hF', e1, e2, q1, q2, q3, q4⟩
    · left
      rw [e1, bd5_eq, if_pos rfl, e2, bd17_eq, if_pos rfl]
      refine ⟨mc', nm, nb1, k', w, z', rfl, rfl, q1, q2, fun j hj => ?_, q4⟩
      have hb := hB j hj
      rw [hb, ← hb1 j hj]
      unfold nBS
      by_cases hk' : k' = 0
      · rw [if_pos hk', hb1 j hj]; unfold nBS; rw [if_pos (by omega)]
      · rw [if_neg hk']
    · rw [e1, bd5_eq, if_neg (by decide), e2, bd17_eq, if_neg (by decide)]
      have hB1 : ∀ j, j < 104 → b j = nBS (k + 1) (upd nm (a + i) (ni (5 + i))) nb1 j := fun j hj => by
        rw [hB j hj, ← hb1 j hj]; unfold nBS; rw [if_neg (by omega)]
      rcases ih (i + 1) f g (k + 1) mc' (upd nm (a + i) (ni (5 + i))) nb1 z z' w (by omega) (by omega) (by omega) (by omega) q1 q2 hB1 q3 q4 hF' with h | ⟨mc2, nm2, nb2, k2, w2, z2, y2, p1, p2, p3, p4, p5, p6, p7, p8, p9, p10⟩
      · exact Or.inl h
      · refine Or.inr ⟨mc2, nm2, nb2, k2, w2, z2, y2, p1, p2, p3, p4, p5, p6, p7, p8, p9, fun j hj => ?_⟩
        rw [p10 j hj]
        by_cases hji : j = a + i
        · subst hji
          rw [if_neg (by omega), if_pos (by omega), pk_us]
          congr 1; omega
        · rw [pk_un hji]
          by_cases hc : a + (i + 1) ≤ j ∧ j < a + n
          · rw [if_pos hc, if_pos (by omega)]
          · rw [if_neg hc, if_neg (by omega)]
end PSTORE
