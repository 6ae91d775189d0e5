def nEN (k a : Nat) (mc nm nb nl : Nat → Int32) (mz na nz nv np : Int32) : Prop := nRF mz na nz ∧ nTR mc nl ∧ nNT mc k ∧ nUB mc k (nBS k nm nb) ∧ nV (nBS k nm nb) ∧ nLE mc nm ∧ nV nm ∧ (np = 0 → k = 0) ∧ (nv = 0 ∨ nv = 1) ∧ (np = 0 ∨ np = 1) ∧ a < 4
section PCMD
variable {k a : Nat} {mc nm nb nl ni nu ib xa xg : Nat → Int32} {mz nd nf na nz nv np nn ic xl xo xs xv xp : Int32}
theorem en_rsp {t : Nat} {r : Int32} (E : nEN k a mc nm nb nl mz na nz nv np) (hr : r ≠ -1) (ht : t ≤ 16) (h : ∀ j, j < t → xa j = nu j) (h2 : r ≠ 36864 → t = 0) : nEND r (mc, nd, nf, mz, ib, ic, xa, xg, nI t, 1, nI a, nv, np) (nm, nb, nl, nI k, nd, nf, na, nz, 1, nI a, nv, np, ni, nn, nu, nI t) := by
  obtain ⟨hF, hT, hN, hU, hV, hL, hVm, hk0, hv, hp, ha⟩ := E
  exact Or.inr ⟨hr, k, t, ⟨rfl, rfl, hF, hT, hN, rfl, hU, hV⟩, ⟨rfl, rfl, rfl, hv, rfl, hp, hL, hVm, hk0, Or.inr ⟨a, ha, rfl, rfl⟩⟩, ht, rfl, fun _ => ⟨rfl, h⟩, h2⟩
theorem en_ok {r : Int32} (E : nEN k a mc nm nb nl mz na nz nv np) (hr : r ≠ -1) : nEND r (mc, nd, nf, mz, ib, ic, xa, xg, nI 0, 1, nI a, nv, np) (nm, nb, nl, nI k, nd, nf, na, nz, 1, nI a, nv, np, ni, nn, nu, nI 0) := en_rsp E hr (by omega) (fun j hj => by omega) (fun _ => rfl)
theorem en_off {z' : Int32} (hT : nTR mc nl) (hN : nNT mc k) (hU : nUB mc k (nBS k nm nb)) (hV : nV (nBS k nm nb)) : nEND (-1) (mc, nd, nf, -1, ib, ic, xa, xg, xl, xo, xs, xv, xp) (nm, nb, nl, nI k, nd, nf, 0, z', 0, -1, 0, 0, ni, nn, nu, 0) :=
  Or.inl ⟨rfl, k, ⟨rfl, rfl, Or.inl ⟨rfl, rfl⟩, hT, hN, rfl, hU, hV⟩, rfl, rfl, rfl, rfl, rfl⟩
theorem ub_ext {c b b' : Nat → Int32} (h : nUB c k b) (e : ∀ j, j < 104 → b j = b' j) : nUB c k b' := fun j hj => by rw [h j hj, e j hj]
theorem ub_0 {c : Nat → Int32} (h : nLE c nm) : nUB c 0 (nBS 0 nm nb) := fun j hj => by rw [uu_0]; exact h j hj
-- the fourth part of the memory, the tries, is in no note
theorem tr_up {q t : Nat} {b : Nat → Int32} (hq : q < 4) (ht : t ≤ 3) (hT : nTR mc nl) (hN : nNT mc k) (hU : nUB mc k b) (hL : nLE mc nm) : nTR (upd mc (72 + q) (nI t)) (upd nl q (nI t)) ∧ nNT (upd mc (72 + q) (nI t)) k ∧ nUB (upd mc (72 + q) (nI t)) k b ∧ nLE (upd mc (72 + q) (nI t)) nm := by
  refine ⟨fun s hs => ?_, ⟨hN.1, by rw [pk_un (by omega)]; exact hN.2.1, fun i hi => by rw [pk_un (by omega)]; exact hN.2.2 i hi⟩, fun j hj => ?_, fun j hj => ?_⟩
  · by_cases h : s = q
    · subst h; rw [pk_us, pk_us]; exact ⟨rfl, t, ht, rfl⟩
    · rw [pk_un (by omega), pk_un h]; exact hT s hs
  · rw [← hU j hj]
    unfold uu
    rw [pk_un (ph_nt hq)]
    exact un_congr k 0 (fun t _ h2 => by rw [pk_un (by omega), pk_un (by omega)]; exact ⟨rfl, rfl⟩)
  · rw [pk_un (ph_nt hq)]; exact hL j hj
theorem st_qb {p n : Nat} (E : nEN k a mc nm nb nl mz na nz nv np) (hat : p + n ≤ 104) (hph : ∀ t, t < n → ph (p + t) = ph p + t) (hn : n ≤ 16) (hrow : ∀ t, t < n → ib (5 + t) = ni (5 + t))
    (hVn : ∀ g : Nat → Int32, (∀ j, j < 104 → g j = if p ≤ j ∧ j < p + n then ni (5 + (j - p)) else nm j) → nV g) :
    ∃ (r : Int32) (x' : StX) (m' : StR), fA_store_qb (mc, nd, nf, mz, ib, ic, xa, xg, nI 0, 1, nI a, nv, np) (nI (ph p)) (nI 5) (nI n) = some (r, x') ∧ fRf_store (nm, nb, nl, nI k, nd, nf, na, nz, 1, nI a, nv, np, ni, nn, nu, nI 0) (nI p) (nI n) = some (r, m') ∧ nEND r x' m' := by
  have E0 := E
  obtain ⟨hF, hT, hN, hU, hV, hL, hVm, hk0, hv, hp, ha⟩ := E
  have hk := hN.1
  rw [fA_store_qb, fM_count_eq, bd1_eq, hN.2.1, fRf_store, nI_add, show (0 : Int32) = nI 0 from rfl]
  have hgo : k + n ≤ 20 → ∃ (r : Int32) (x' : StX) (m' : StR), fA_store_qb_L22 300 (mc, nd, nf, mz, ib, ic, xa, xg, nI 0, 1, nI a, nv, np) (nI (ph p)) (nI 5) (nI n) (nI 0) = some (r, x') ∧ fRf_store_L24 300 (nm, nb, nl, nI k, nd, nf, na, nz, 1, nI a, nv, np, ni, nn, nu, nI 0) (nI p) (nI n) (nI 0) = some (r, m') ∧ nEND r x' m' := fun hkn => by
    rcases stl_qb (b := nBS k nm nb) (nl := nl) (ni := ni) (nu := nu) (ib := ib) (xa := xa) (xg := xg) (nf := nf) (na := na) (no := 1) (ns := nI a) (nv := nv) (np := np) (nn := nn) (nt := nI 0) (ic := ic) (xl := nI 0) (xo := 1) (xs := nI a) (xv := nv) (fr := 5) hat hph (by omega) (by omega) hrow n 0 300 300 k mc nm nb mz nz nd (by omega) (by omega) (by omega) hkn hN hU (fun _ _ => rfl) hL hT hF with ⟨mc', nm', nb', k', w, z', e1, e2, q1, q2, q3, q4⟩ | ⟨mc', nm', nb', k', w, z, z', q0, e1, e2, q1, q2, q3, q4, q5, q6, q7⟩
    · exact ⟨_, _, _, e1, e2, en_off q4 q1 (ub_ext q2 q3) (nV_congr (fun j _ h => (q3 j h).symm) hV)⟩
    · have hV' : nV nm' := hVn nm' (fun j hj => by rw [q7 j hj, Nat.add_zero])
      refine ⟨_, _, _, e1, e2, en_ok ⟨q0, q4, q1, q2, ?_, q3, hV', q5, hv, hp, ha⟩ (by decide)⟩
      by_cases h0 : k' = 0
      · subst h0; exact hV'
      · exact nV_congr (fun j _ h => by unfold nBS; rw [if_neg h0]; exact (q6 h0 j h)) hV
  by_cases hp0 : np = nI 0
  · have hk1 := hk0 hp0
    rw [if_pos (show nI (k + n) ≤ (20 : Int32) from nI_le (b := 20) (by omega) (by omega)), if_pos hp0]
    exact hgo (by omega)
  · rw [if_neg hp0]
    by_cases hkn : k + n ≤ 20
    · rw [if_pos (show nI (k + n) ≤ (20 : Int32) from nI_le (b := 20) (by omega) (by omega)), if_pos (show nI (k + n) ≤ (20 : Int32) from nI_le (b := 20) (by omega) (by omega))]
      exact hgo hkn
    · rw [if_neg (show ¬ nI (k + n) ≤ (20 : Int32) from nI_ge (a := 20) (by omega) (by omega)), if_neg (show ¬ nI (k + n) ≤ (20 : Int32) from nI_ge (a := 20) (by omega) (by omega))]
      exact ⟨_, _, _, rfl, rfl, en_ok E0 (by decide)⟩
theorem st_qg {p n : Nat} (E : nEN k a mc nm nb nl mz na nz nv np) (hat : p + n ≤ 104) (hph : ∀ t, t < n → ph (p + t) = ph p + t) (hn : n ≤ 4) (hrow : ∀ t, t < n → xg (0 + t) = ni (5 + t))
    (hVn : ∀ g : Nat → Int32, (∀ j, j < 104 → g j = if p ≤ j ∧ j < p + n then ni (5 + (j - p)) else nm j) → nV g) :
    ∃ (r : Int32) (x' : StX) (m' : StR), fA_store_qg (mc, nd, nf, mz, ib, ic, xa, xg, nI 0, 1, nI a, nv, np) (nI (ph p)) (nI 0) (nI n) = some (r, x') ∧ fRf_store (nm, nb, nl, nI k, nd, nf, na, nz, 1, nI a, nv, np, ni, nn, nu, nI 0) (nI p) (nI n) = some (r, m') ∧ nEND r x' m' := by
  have E0 := E
  obtain ⟨hF, hT, hN, hU, hV, hL, hVm, hk0, hv, hp, ha⟩ := E
  have hk := hN.1
  rw [fA_store_qg, fM_count_eq, bd1_eq, hN.2.1, fRf_store, nI_add, show (0 : Int32) = nI 0 from rfl]
  have hgo : k + n ≤ 20 → ∃ (r : Int32) (x' : StX) (m' : StR), fA_store_qg_L22 300 (mc, nd, nf, mz, ib, ic, xa, xg, nI 0, 1, nI a, nv, np) (nI (ph p)) (nI 0) (nI n) (nI 0) = some (r, x') ∧ fRf_store_L24 300 (nm, nb, nl, nI k, nd, nf, na, nz, 1, nI a, nv, np, ni, nn, nu, nI 0) (nI p) (nI n) (nI 0) = some (r, m') ∧ nEND r x' m' := fun hkn => by
    rcases stl_qg (b := nBS k nm nb) (nl := nl) (ni := ni) (nu := nu) (ib := ib) (xa := xa) (xg := xg) (nf := nf) (na := na) (no := 1) (ns := nI a) (nv := nv) (np := np) (nn := nn) (nt := nI 0) (ic := ic) (xl := nI 0) (xo := 1) (xs := nI a) (xv := nv) (fr := 0) hat hph (by omega) (by omega) hrow n 0 300 300 k mc nm nb mz nz nd (by omega) (by omega) (by omega) hkn hN hU (fun _ _ => rfl) hL hT hF with ⟨mc', nm', nb', k', w, z', e1, e2, q1, q2, q3, q4⟩ | ⟨mc', nm', nb', k', w, z, z', q0, e1, e2, q1, q2, q3, q4, q5, q6, q7⟩
    · exact ⟨_, _, _, e1, e2, en_off q4 q1 (ub_ext q2 q3) (nV_congr (fun j _ h => (q3 j h).symm) hV)⟩
    · have hV' : nV nm' := hVn nm' (fun j hj => by rw [q7 j hj, Nat.add_zero])
      refine ⟨_, _, _, e1, e2, en_ok ⟨q0, q4, q1, q2, ?_, q3, hV', q5, hv, hp, ha⟩ (by decide)⟩
      by_cases h0 : k' = 0
      · subst h0; exact hV'
      · exact nV_congr (fun j _ h => by unfold nBS; rw [if_neg h0]; exact (q6 h0 j h)) hV
  by_cases hp0 : np = nI 0
  · have hk1 := hk0 hp0
    rw [if_pos (show nI (k + n) ≤ (20 : Int32) from nI_le (b := 20) (by omega) (by omega)), if_pos hp0]
    exact hgo (by omega)
  · rw [if_neg hp0]
    by_cases hkn : k + n ≤ 20
    · rw [if_pos (show nI (k + n) ≤ (20 : Int32) from nI_le (b := 20) (by omega) (by omega)), if_pos (show nI (k + n) ≤ (20 : Int32) from nI_le (b := 20) (by omega) (by omega))]
      exact hgo hkn
    · rw [if_neg (show ¬ nI (k + n) ≤ (20 : Int32) from nI_ge (a := 20) (by omega) (by omega)), if_neg (show ¬ nI (k + n) ≤ (20 : Int32) from nI_ge (a := 20) (by omega) (by omega))]
      exact ⟨_, _, _, rfl, rfl, en_ok E0 (by decide)⟩
-- responses
theorem rsp {p q n : Nat} {no ns v3 : Int32} (hn : n ≤ 16) (hp : p + n ≤ 149) (hq : q + n ≤ 104) (he : ∀ i, i < n → mc (p + i) = nm (q + i)) : ∀ (d i f g : Nat) (xa nu : Nat → Int32) (xl nt nc : Int32), i + d = n → d < f → d < g → (∀ j, j < i → xa j = nu j) →
    ∃ xa' nu' : Nat → Int32, fA_respond_L2 f (mc, nd, nf, mz, ib, ic, xa, xg, xl, xo, xs, xv, xp) (nI p) (nI n) (nI i) = some (36864, mc, nd, nf, mz, ib, ic, xa', xg, nI n, xo, xs, xv, xp) ∧
      (∀ v1 v2 : Int32, v1 + v2 = nI q → fRf_read_L38 g (nm, nb, nl, nc, nd, nf, na, nz, no, ns, nv, np, ni, nn, nu, nt) v1 v2 v3 (nI n) (nI i) = some (36864, nm, nb, nl, nc, nd, nf, na, nz, no, ns, nv, np, ni, nn, nu', nI n)) ∧ ∀ j, j < n → xa' j = nu' j := by
  intro d
  induction d with
  | zero =>
    intro i f g xa nu xl nt nc hi hf hg h
    obtain ⟨f, rfl⟩ : ∃ y, f = y + 1 := ⟨f - 1, by omega⟩
    obtain ⟨g, rfl⟩ : ∃ y, g = y + 1 := ⟨g - 1, by omega⟩
    have hin : i = n := by omega
    subst hin
    refine ⟨xa, nu, ?_, fun v1 v2 _ => ?_, h⟩
    · rw [fA_respond_L2, if_pos (nI_le (Nat.le_refl i) (by omega))]
    · rw [fRf_read_L38, if_pos (nI_le (Nat.le_refl i) (by omega))]
  | succ d ih =>
    intro i f g xa nu xl nt nc hi hf hg h
    obtain ⟨f, rfl⟩ : ∃ y, f = y + 1 := ⟨f - 1, by omega⟩
    obtain ⟨g, rfl⟩ : ∃ y, g = y + 1 := ⟨g - 1, by omega⟩
    obtain ⟨xa', nu', e1, e2, e3⟩ := ih (i + 1) f g (upd xa i (mc (p + i))) (upd nu i (nm (q + i))) xl nt nc (by omega) (by omega) (by omega) (fun j hj => by
      by_cases hji : j = i
      · subst hji; rw [pk_us, pk_us]; exact he j (by omega)
      · rw [pk_un hji, pk_un hji]; exact h j (by omega))
    refine ⟨xa', nu', ?_, fun v1 v2 hv => ?_, e3⟩
    · rw [fA_respond_L2, if_neg (nI_ge (by omega) (by omega)), nI_add, fM_at_eq (by omega), bd1_eq, ix_nI (by omega) (by decide), nI_1]
      exact e1
    · rw [fRf_read_L38, if_neg (nI_ge (by omega) (by omega)), hv, nI_add, ix_nI (by omega) (by decide), ix_nI (by omega) (by decide), nI_1]
      exact e2 v1 v2 hv
end PCMD
