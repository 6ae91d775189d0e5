section PMEM3
variable {mc nm nb nl ni nu b : Nat → Int32} {mz nc nd nf na nz no ns nv np nn nt : Int32}
theorem fM_settle_0 {mw mf : Int32} (h : mc 148 = nI 0) : fM_settle (mc, mw, mf, mz) = some (1, mc, mw, mf, mz) := by
  rw [fM_settle, fM_count_eq, bd1_eq, h, if_pos (show nI 0 = 0 from rfl)]
theorem spair {k : Nat} (hN : nNT mc k) (hF : nRF mz na nz) :
    (∃ z' : Int32, 0 < k ∧ fM_settle (mc, nd, nf, mz) = some (0, mc, nd, nf + 1, -1) ∧ fRf_settle (nm, nb, nl, nI k, nd, nf, na, nz, no, ns, nv, np, ni, nn, nu, nt) = some (0, nm, nb, nl, nI k, nd, nf + 1, 0, z', 0, -1, 0, 0, ni, 0, nu, 0)) ∨
    (∃ (mc' : Nat → Int32) (w z z' : Int32), nRF z na z' ∧ fM_settle (mc, nd, nf, mz) = some (1, mc', w, nf, z) ∧ fRf_settle (nm, nb, nl, nI k, nd, nf, na, nz, no, ns, nv, np, ni, nn, nu, nt) = some (1, nm, nb, nl, nI 0, w, nf, na, z', no, ns, nv, np, ni, nn, nu, nt) ∧ (∀ p, p < 148 → mc' p = mc p) ∧ mc' 148 = nI 0) := by
  obtain ⟨hk, hc, -⟩ := hN
  rw [fM_settle, fM_count_eq, bd1_eq, hc, fRf_settle]
  by_cases h0 : k = 0
  · subst h0
    right
    rw [if_pos (show nI 0 = 0 from rfl), if_pos (show nI 0 = 0 from rfl)]
    exact ⟨mc, nd, mz, nz, hF, rfl, rfl, fun _ _ => rfl, hc⟩
  · rw [if_neg (nI_ne0 (by omega) (by omega)), if_neg (nI_ne0 (by omega) (by omega)), show (148 : Int32) = nI 148 from rfl]
    rcases wpair (mc := mc) (mw := nd) (mf := nf) (v := 0) (nm := nm) (nb := nb) (nl := nl) (nc := nI k) (nd := nd) (nf := nf) (no := no) (ns := ns) (nv := nv) (np := np) (ni := ni) (nn := nn) (nu := nu) (nt := nt) (show 148 < 149 by omega) hF with ⟨e1, e2⟩ | ⟨z1, y1, hF1, e1, e2⟩
    · left
      rw [e1, bd5_eq, if_pos rfl, e2, bd17_eq, if_pos rfl]
      exact ⟨_, by omega, rfl, rfl⟩
    · right
      rw [e1, bd5_eq, if_neg (by decide), e2, bd17_eq, if_neg (by decide)]
      exact ⟨_, _, z1, y1, hF1, rfl, rfl, fun p hp => pk_un (by omega), pk_us⟩
-- undoing
theorem nb_step {c : Nat → Int32} {i j : Nat} (h : c (108 + 2 * i) = nI (ph j)) (hj : j < 104) : plc c i = ph j := by
  unfold plc; rw [h, nI_clamp (by have := ph_lt hj; omega)]
theorem uu_step {c : Nat → Int32} {i j k p : Nat} (hj : j < 104) (hi : i < k) (h : c (108 + 2 * i) = nI (ph j)) : uu c (i + 1) p = uu (upd c (ph j) (c (109 + 2 * i))) i p := by
  have hp := ph_lt hj
  unfold uu
  rw [un_last, Nat.zero_add, nb_step h hj]
  have e : (if ph j = p then c (109 + 2 * i) else c p) = upd c (ph j) (c (109 + 2 * i)) p := by
    unfold upd
    by_cases hh : p = ph j
    · rw [if_pos hh, if_pos hh.symm]
    · rw [if_neg hh, if_neg (fun z => hh z.symm)]
  rw [e]
  exact un_congr i 0 (fun t _ ht => by rw [pk_un (by omega), pk_un (by omega)]; exact ⟨rfl, rfl⟩)
theorem nb_keep {c : Nat → Int32} {i j k : Nat} {w : Int32} (hN : nNT c k) (hU : nUB c k b) (hT : nTR c nl) (hi : i < k) (hj : j < 104) (h : c (108 + 2 * i) = nI (ph j)) : nNT (upd c (ph j) w) k ∧ nUB (upd c (ph j) w) k b ∧ nTR (upd c (ph j) w) nl := by
  have hp := ph_lt hj
  have hk := hN.1
  refine ⟨⟨hN.1, by rw [pk_un (by omega)]; exact hN.2.1, fun t ht => by rw [pk_un (by omega)]; exact hN.2.2 t ht⟩, fun j' hj' => ?_, fun a ha => ?_⟩
  · rw [← hU j' hj']
    unfold uu
    rw [un_congr (c := upd c (ph j) w) (d := c) k 0 (fun t _ ht => by rw [pk_un (by omega), pk_un (by omega)]; exact ⟨rfl, rfl⟩)]
    by_cases hh : j' = j
    · subst hh
      exact un_base k 0 ⟨i, Nat.zero_le _, by omega, nb_step h hj⟩
    · rw [pk_un (fun z => hh (ph_inj z))]
  · rw [pk_un (fun z => ph_nt ha z.symm)]; exact hT a ha
theorem m1_lt : nI 0 - 1 < 0 := by decide
theorem uloop {k : Nat} (hk0 : 0 < k) : ∀ (i t f g : Nat) (c : Nat → Int32) (mz nz nd : Int32), t + i = k → i < f → i + 1 < g → nNT c k → nUB c k b → nTR c nl → nRF mz na nz →
    (∃ (c' : Nat → Int32) (w z' : Int32), fM_undo_L7 f (c, nd, nf, mz) (nI i - 1) = some (0, c', w, nf + 1, -1) ∧ fRf_several_L2 g (nm, nb, nl, nI k, nd, nf, na, nz, no, ns, nv, np, ni, nn, nu, nt) (nI (k + 1)) (nI t) = some (0, nm, nb, nl, nI k, w, nf + 1, 0, z', 0, -1, 0, 0, ni, 0, nu, 0) ∧ nNT c' k ∧ nUB c' k b ∧ nTR c' nl) ∨
    (∃ (c' : Nat → Int32) (w z z' : Int32), nRF z na z' ∧ fM_undo_L7 f (c, nd, nf, mz) (nI i - 1) = some (1, c', w, nf, z) ∧ fRf_several_L2 g (nm, nb, nl, nI k, nd, nf, na, nz, no, ns, nv, np, ni, nn, nu, nt) (nI (k + 1)) (nI t) = some (1, nm, nb, nl, nI k, w, nf, na, z', no, ns, nv, np, ni, nn, nu, nt) ∧ c' 148 = nI 0 ∧ nTR c' nl ∧ ∀ j, j < 104 → c' (ph j) = uu c i (ph j)) := by
  intro i
  induction i with
  | zero =>
    intro t f g c mz nz nd ht hf hg hN hU hT hF
    obtain ⟨f, rfl⟩ : ∃ x, f = x + 1 := ⟨f - 1, by omega⟩
    obtain ⟨g, rfl⟩ : ∃ x, g = x + 2 := ⟨g - 2, by omega⟩
    have hk := hN.1
    rw [fM_undo_L7, if_pos m1_lt, fM_settle, fM_count_eq, bd1_eq, hN.2.1, if_neg (nI_ne0 hk0 (by omega)), show (148 : Int32) = nI 148 from rfl]
    rcases wpair (mc := c) (mw := nd) (mf := nf) (v := 0) (nm := nm) (nb := nb) (nl := nl) (nc := nI k) (nd := nd) (nf := nf) (no := no) (ns := ns) (nv := nv) (np := np) (ni := ni) (nn := nn) (nu := nu) (nt := nt) (show 148 < 149 by omega) hF with ⟨e1, e2⟩ | ⟨z1, y1, hF1, e1, e2⟩
    · left
      rw [e1, bd5_eq, if_pos rfl, bd5_eq, sv_no (by omega) (by omega) e2]
      exact ⟨c, nd, _, rfl, rfl, hN, hU, hT⟩
    · right
      rw [e1, bd5_eq, if_neg (by decide), bd5_eq, sv_ok (by omega) (by omega) e2, sv_end (by omega) (by omega)]
      refine ⟨_, _, z1, y1, hF1, rfl, rfl, pk_us, fun a ha => ?_, fun j hj => ?_⟩
      · rw [pk_un (by omega)]; exact hT a ha
      · rw [pk_un (by have := ph_lt hj; omega)]; unfold uu; rw [un_0]
  | succ i ih =>
    intro t f g c mz nz nd ht hf hg hN hU hT hF
    obtain ⟨f, rfl⟩ : ∃ x, f = x + 1 := ⟨f - 1, by omega⟩
    obtain ⟨g, rfl⟩ : ∃ x, g = x + 1 := ⟨g - 1, by omega⟩
    have hk := hN.1
    obtain ⟨j, hj, hpl⟩ := hN.2.2 i (by omega)
    have hp := ph_lt hj
    rw [fM_undo_L7, nI_pred, if_neg (nI_pos (by omega)), pk108, pk109', ix_nI (by omega) (by decide), ix_nI (by omega) (by decide), hpl]
    rcases wpair (mc := c) (mw := nd) (mf := nf) (v := c (109 + 2 * i)) (nm := nm) (nb := nb) (nl := nl) (nc := nI k) (nd := nd) (nf := nf) (no := no) (ns := ns) (nv := nv) (np := np) (ni := ni) (nn := nn) (nu := nu) (nt := nt) (show ph j < 149 by omega) hF with ⟨e1, e2⟩ | ⟨z1, y1, hF1, e1, e2⟩
    · left
      rw [e1, bd5_eq, if_pos rfl, sv_no (by omega) (by omega) e2]
      exact ⟨c, nd, _, rfl, rfl, hN, hU, hT⟩
    · rw [e1, bd5_eq, if_neg (by decide), sv_ok (by omega) (by omega) e2, show nI i + -1 = nI i - 1 from (Int32.sub_eq_add_neg _ _).symm]
      obtain ⟨hN1, hU1, hT1⟩ := nb_keep (w := c (109 + 2 * i)) hN hU hT (show i < k by omega) hj hpl
      rcases ih (t + 1) f g (upd c (ph j) (c (109 + 2 * i))) z1 y1 (nd + 1) (by omega) (by omega) (by omega) hN1 hU1 hT1 hF1 with h | ⟨c', w, z, z', q1, q2, q3, q4, q5, q6⟩
      · exact Or.inl h
      · exact Or.inr ⟨c', w, z, z', q1, q2, q3, q4, q5, fun j' hj' => by rw [q6 j' hj', uu_step hj (show i < k by omega) hpl]⟩
theorem und_copy : ∀ (d i f : Nat) (nm : Nat → Int32), i + d = 104 → d < f → ∃ nm' : Nat → Int32, (∀ j, j < 104 → nm' j = if i ≤ j then nb j else nm j) ∧
    fRf_undo_L26 f (nm, nb, nl, nc, nd, nf, na, nz, no, ns, nv, np, ni, nn, nu, nt) (nI i) = some (1, nm', nb, nl, nI 0, nd, nf, na, nz, no, ns, nv, np, ni, nn, nu, nt)
  | 0, i, f, nm, h, hf => by
    obtain ⟨f, rfl⟩ : ∃ g, f = g + 1 := ⟨f - 1, by omega⟩
    refine ⟨nm, fun j hj => by rw [if_neg (by omega)], ?_⟩
    rw [fRf_undo_L26, if_pos (show (104 : Int32) ≤ nI i from nI_le (a := 104) (by omega) (by omega))]
    rfl
  | d + 1, i, f, nm, h, hf => by
    obtain ⟨f, rfl⟩ : ∃ g, f = g + 1 := ⟨f - 1, by omega⟩
    obtain ⟨nm', h1, h2⟩ := und_copy d (i + 1) f (upd nm i (nb i)) (by omega) (by omega)
    refine ⟨nm', fun j hj => ?_, ?_⟩
    · rw [h1 j hj]
      by_cases hji : j = i
      · subst hji; rw [if_neg (by omega), if_pos (Nat.le_refl _), pk_us]
      · rw [pk_un hji]
        by_cases hle : i ≤ j
        · rw [if_pos (by omega), if_pos hle]
        · rw [if_neg (by omega), if_neg hle]
    · rw [fRf_undo_L26, if_neg (show ¬ (104 : Int32) ≤ nI i from nI_ge (b := 104) (by omega) (by omega)), ix_nI (by omega) (by decide), ix_nI (by omega) (by decide), nI_1]
      exact h2
theorem upair {k : Nat} (hN : nNT mc k) (hU : nUB mc k b) (hB : ∀ j, j < 104 → b j = nBS k nm nb j) (hT : nTR mc nl) (hF : nRF mz na nz) :
    (∃ (mc' : Nat → Int32) (w z' : Int32), 0 < k ∧ fM_undo (mc, nd, nf, mz) = some (0, mc', w, nf + 1, -1) ∧ fRf_undo (nm, nb, nl, nI k, nd, nf, na, nz, no, ns, nv, np, ni, nn, nu, nt) = some (0, nm, nb, nl, nI k, w, nf + 1, 0, z', 0, -1, 0, 0, ni, 0, nu, 0) ∧ nNT mc' k ∧ nUB mc' k b ∧ nTR mc' nl) ∨
    (∃ (mc' nm' : Nat → Int32) (w z z' : Int32), nRF z na z' ∧ fM_undo (mc, nd, nf, mz) = some (1, mc', w, nf, z) ∧ fRf_undo (nm, nb, nl, nI k, nd, nf, na, nz, no, ns, nv, np, ni, nn, nu, nt) = some (1, nm', nb, nl, nI 0, w, nf, na, z', no, ns, nv, np, ni, nn, nu, nt) ∧ mc' 148 = nI 0 ∧ nTR mc' nl ∧ nLE mc' nm' ∧ ∀ j, j < 104 → nm' j = b j) := by
  have hk := hN.1
  rw [fM_undo, fM_count_eq, bd1_eq, hN.2.1, fRf_undo]
  by_cases h0 : k = 0
  · subst h0
    right
    rw [fM_undo_L7, if_pos m1_lt, fM_settle_0 hN.2.1, bd5_eq, if_pos (show nI 0 = 0 from rfl)]
    refine ⟨mc, nm, nd, mz, nz, hF, rfl, rfl, hN.2.1, hT, fun j hj => ?_, fun j hj => (hB j hj).symm⟩
    have h := hU j hj
    unfold uu at h
    rw [un_0] at h
    rw [h, hB j hj]; rfl
  · rw [if_neg (nI_ne0 (by omega) (by omega)), nI_1, sv_in]
    rcases uloop (b := b) (nm := nm) (nb := nb) (nl := nl) (ni := ni) (nu := nu) (nf := nf) (na := na) (no := no) (ns := ns) (nv := nv) (np := np) (nn := nn) (nt := nt) (show 0 < k by omega) k 0 300 300 mc mz nz nd (by omega) (by omega) (by omega) hN hU hT hF with ⟨c', w, z', e1, e2, q1, q2, q3⟩ | ⟨c', w, z, z', q1, e1, e2, q4, q5, q6⟩
    · left
      rw [e1, e2, bd17_eq, if_pos rfl]
      exact ⟨c', w, z', by omega, rfl, rfl, q1, q2, q3⟩
    · right
      rw [e1, e2, bd17_eq, if_neg (by decide), show (0 : Int32) = nI 0 from rfl]
      obtain ⟨nm', h1, h2⟩ := und_copy (nb := nb) (nl := nl) (nc := nI k) (nd := w) (nf := nf) (na := na) (nz := z') (no := no) (ns := ns) (nv := nv) (np := np) (ni := ni) (nn := nn) (nu := nu) (nt := nt) 104 0 300 nm (by omega) (by omega)
      rw [h2]
      have hb9 : ∀ j, j < 104 → nm' j = b j := fun j hj => by
        rw [h1 j hj, if_pos (Nat.zero_le _), hB j hj]; unfold nBS; rw [if_neg h0]
      exact ⟨c', nm', w, z, z', q1, rfl, rfl, q4, q5, fun j hj => by rw [q6 j hj, hU j hj, hb9 j hj], hb9⟩
end PMEM3
