-- which constant a code names
theorem wcs {n i : Nat} {a : Int32} (h : i < 13) : fE_withCode_L2 (n + 1) a (nI i) = if tbC i = a then some i else fE_withCode_L2 n a (nI (i + 1)) := by
  rw [fE_withCode_L2, if_neg (show ¬ (13 : Int32) ≤ nI i from nI_ge (b := 13) h (by omega)), ix_nI h (by decide), nI_1]
  by_cases e : tbC i = a
  · rw [if_pos e, if_pos e, ix_nI h (by decide)]
  · rw [if_neg e, if_neg e]
def kOf (a : Int32) : Nat := if (164 : Int32) = a then 0 else if (32 : Int32) = a then 1 else if (36 : Int32) = a then 2 else if (44 : Int32) = a then 3 else if (176 : Int32) = a then 4 else if (214 : Int32) = a then 5 else if (112 : Int32) = a then 6 else if (114 : Int32) = a then 7 else if (226 : Int32) = a then 8 else if (228 : Int32) = a then 9 else if (178 : Int32) = a then 10 else if (220 : Int32) = a then 11 else 12
theorem wc_eq (a : Int32) : fE_withCode a = some (kOf a) := by
  rw [fE_withCode, show (0 : Int32) = nI 0 from rfl]
  unfold kOf
  rw [wcs (i := 0) (by omega), show tbC 0 = 164 from rfl]
  by_cases e0 : (164 : Int32) = a
  · rw [if_pos e0, if_pos e0]
  rw [if_neg e0, if_neg e0]
  rw [wcs (i := 1) (by omega), show tbC 1 = 32 from rfl]
  by_cases e1 : (32 : Int32) = a
  · rw [if_pos e1, if_pos e1]
  rw [if_neg e1, if_neg e1]
  rw [wcs (i := 2) (by omega), show tbC 2 = 36 from rfl]
  by_cases e2 : (36 : Int32) = a
  · rw [if_pos e2, if_pos e2]
  rw [if_neg e2, if_neg e2]
  rw [wcs (i := 3) (by omega), show tbC 3 = 44 from rfl]
  by_cases e3 : (44 : Int32) = a
  · rw [if_pos e3, if_pos e3]
  rw [if_neg e3, if_neg e3]
  rw [wcs (i := 4) (by omega), show tbC 4 = 176 from rfl]
  by_cases e4 : (176 : Int32) = a
  · rw [if_pos e4, if_pos e4]
  rw [if_neg e4, if_neg e4]
  rw [wcs (i := 5) (by omega), show tbC 5 = 214 from rfl]
  by_cases e5 : (214 : Int32) = a
  · rw [if_pos e5, if_pos e5]
  rw [if_neg e5, if_neg e5]
  rw [wcs (i := 6) (by omega), show tbC 6 = 112 from rfl]
  by_cases e6 : (112 : Int32) = a
  · rw [if_pos e6, if_pos e6]
  rw [if_neg e6, if_neg e6]
  rw [wcs (i := 7) (by omega), show tbC 7 = 114 from rfl]
  by_cases e7 : (114 : Int32) = a
  · rw [if_pos e7, if_pos e7]
  rw [if_neg e7, if_neg e7]
  rw [wcs (i := 8) (by omega), show tbC 8 = 226 from rfl]
  by_cases e8 : (226 : Int32) = a
  · rw [if_pos e8, if_pos e8]
  rw [if_neg e8, if_neg e8]
  rw [wcs (i := 9) (by omega), show tbC 9 = 228 from rfl]
  by_cases e9 : (228 : Int32) = a
  · rw [if_pos e9, if_pos e9]
  rw [if_neg e9, if_neg e9]
  rw [wcs (i := 10) (by omega), show tbC 10 = 178 from rfl]
  by_cases e10 : (178 : Int32) = a
  · rw [if_pos e10, if_pos e10]
  rw [if_neg e10, if_neg e10]
  rw [wcs (i := 11) (by omega), show tbC 11 = 220 from rfl]
  by_cases e11 : (220 : Int32) = a
  · rw [if_pos e11, if_pos e11]
  rw [if_neg e11, if_neg e11]
  rw [wcs (i := 12) (by omega), show tbC 12 = (-1) from rfl]
  by_cases e12 : (-1 : Int32) = a
  · rw [if_pos e12]
  rw [if_neg e12]
  rw [fE_withCode_L2, if_pos (by decide)]
theorem ixc0 {β : Type} (f : Nat → Option β) : ix 0 24 f = f 0 := ix_k 0 rfl (by decide) (by decide) f
theorem ixc1 {β : Type} (f : Nat → Option β) : ix 1 24 f = f 1 := ix_k 1 rfl (by decide) (by decide) f
theorem ixc2 {β : Type} (f : Nat → Option β) : ix 2 24 f = f 2 := ix_k 2 rfl (by decide) (by decide) f
theorem ixc3 {β : Type} (f : Nat → Option β) : ix 3 24 f = f 3 := ix_k 3 rfl (by decide) (by decide) f
section PADM
variable {mc nm nb nl ni nu ib xa xg : Nat → Int32} {mz nc nd nf na nz no ns nv np nn nt xs : Int32} {c : Nat}
theorem fI_cc_eq {ic : Int32} : fI_cardClass (ib, ic) = some (ib 0) := by rw [fI_cardClass]; exact ix_k 0 rfl (by decide) (by decide) _
theorem fI_ins_eq {ic : Int32} : fI_instruction (ib, ic) = some (ib 1) := by rw [fI_instruction]; exact ix_k 1 rfl (by decide) (by decide) _
-- the shape of the input, as both sides see it
theorem shp (hc : c ≤ 24) (hb : ∀ j, j < c → ib j = ni j ∧ ∃ v : Nat, v < 256 ∧ ni j = nI v) : ∃ sh : Int32, fI_shape (ib, nI c) = some sh ∧ fRf_shape (nm, nb, nl, nc, nd, nf, na, nz, no, ns, nv, np, ni, nI c, nu, nt) = some sh ∧ (sh ≠ 0 → 4 ≤ c) ∧ (sh = 2 → 5 ≤ c) ∧ (sh = 3 → ∃ v : Nat, v < 256 ∧ ib 4 = nI v ∧ ni 4 = nI v ∧ c = 5 + v) := by
  rw [fI_shape, fRf_shape, fI_lc_eq, bd1_eq, ixc4]
  by_cases h4 : c < 4
  · rw [if_neg (show ¬ (4 : Int32) ≤ nI c from nI_ge (b := 4) h4 (by omega)), if_neg (show ¬ (6 : Int32) ≤ nI c from nI_ge (b := 6) (by omega) (by omega)), if_neg (show ¬ (4 : Int32) ≤ nI c from nI_ge (b := 4) h4 (by omega))]
    exact ⟨0, rfl, rfl, fun h => absurd rfl h, fun h => absurd h (by decide), fun h => absurd h (by decide)⟩
  rw [if_pos (show (4 : Int32) ≤ nI c from nI_le (a := 4) (by omega) (by omega))]
  by_cases h5 : c = 4
  · subst h5; exact ⟨1, rfl, rfl, fun _ => by omega, fun h => absurd h (by decide), fun h => absurd h (by decide)⟩
  by_cases h6 : c = 5
  · subst h6; exact ⟨2, rfl, rfl, fun _ => by omega, fun _ => by omega, fun h => absurd h (by decide)⟩
  obtain ⟨e4, v, hv, ev⟩ := hb 4 (by omega)
  rw [if_neg (show ¬ nI c = (4 : Int32) from fun h => h5 ((nI_eq (b := 4) (by omega) (by omega)).mp h)), if_neg (show ¬ nI c = (5 : Int32) from fun h => h6 ((nI_eq (b := 5) (by omega) (by omega)).mp h)), if_pos (show (6 : Int32) ≤ nI c from nI_le (a := 6) (by omega) (by omega)), e4, ev]
  by_cases v0 : v = 0
  · subst v0; exact ⟨0, rfl, rfl, fun h => absurd rfl h, fun h => absurd h (by decide), fun h => absurd h (by decide)⟩
  rw [if_neg (nI_ne0 (by omega) (by omega)), if_neg (nI_ne0 (by omega) (by omega)), bd1_eq, bd1_eq, show (5 : Int32) + nI v = nI (5 + v) from nI_add 5 v, show (6 : Int32) + nI v = nI (6 + v) from nI_add 6 v, nI_1, show 5 + v + 1 = 6 + v by omega]
  by_cases g3 : c = 5 + v
  · rw [if_pos (by rw [g3])]; exact ⟨3, rfl, rfl, fun _ => by omega, fun h => absurd h (by decide), fun _ => ⟨v, hv, rfl, rfl, g3⟩⟩
  rw [if_neg (fun h => g3 ((nI_eq (by omega) (by omega)).mp h))]
  by_cases g4 : c = 6 + v
  · rw [if_pos (by rw [g4])]; exact ⟨4, rfl, rfl, fun _ => by omega, fun h => absurd h (by decide), fun h => absurd h (by decide)⟩
  · rw [if_neg (fun h => g4 ((nI_eq (by omega) (by omega)).mp h))]
    exact ⟨0, rfl, rfl, fun h => absurd rfl h, fun h => absurd h (by decide), fun h => absurd h (by decide)⟩
theorem lw_164 : fRf_lengthWrong (nm, nb, nl, nc, nd, nf, na, nz, no, ns, nv, np, ni, nn, nu, nt) 164 = if ni 4 = 1 then some 0 else some 1 := by
  rw [fRf_lengthWrong]; simp [ixc4]
theorem pw_164 : fRf_placesWrong (nm, nb, nl, nc, nd, nf, na, nz, no, ns, nv, np, ni, nn, nu, nt) 164 = if 0 < ni 2 then some 1 else (if ni 3 = 0 then some 0 else some 1) := by
  rw [fRf_placesWrong]; simp [ixc2, ixc3]
theorem ad_164 {sh : Int32} {v3 : Nat} (hc4 : 4 ≤ c) (hc : c ≤ 24) (s1 : fI_shape (ib, nI c) = some sh) (s2 : fRf_shape (nm, nb, nl, nc, nd, nf, na, nz, 1, ns, nv, np, ni, nI c, nu, 0) = some sh) (s0 : sh ≠ 0) (s3 : sh = 3 → ib 4 = ni 4) (h0 : ib 0 = 128) (h0' : ni 0 = 128) (h1 : ni 1 = 164) (h2 : ib 2 = ni 2) (h3 : ib 3 = nI v3) (h3' : ni 3 = nI v3) (hv3 : v3 < 256) (hsel : (xs = -2 ∧ ns = -1) ∨ ∃ a : Nat, a < 4 ∧ xs = nI a ∧ ns = nI a) :
    (∃ st : Int32, st ≠ 36864 ∧ st ≠ -1 ∧ st ≠ 0 ∧ fA_admit (mc, nd, nf, mz, ib, nI c, xa, xg, 0, 1, xs, nv, np) 0 = some st ∧ fRf_refuse (nm, nb, nl, nc, nd, nf, na, nz, 1, ns, nv, np, ni, nI c, nu, 0) = some st) ∨ (fA_admit (mc, nd, nf, mz, ib, nI c, xa, xg, 0, 1, xs, nv, np) 0 = some 36864 ∧ fRf_refuse (nm, nb, nl, nc, nd, nf, na, nz, 1, ns, nv, np, ni, nI c, nu, 0) = some 0 ∧ sh = 3 ∧ ¬ 0 < ni 2 ∧ ni 4 = 1 ∧ ni 3 = 0) := by
  have hno : ∀ st : Int32, st ≠ 36864 → st ≠ -1 → st ≠ 0 → (∃ st' : Int32, st' ≠ 36864 ∧ st' ≠ -1 ∧ st' ≠ 0 ∧ some st = some st' ∧ some st = some st') := fun st a1 a2 a3 => ⟨st, a1, a2, a3, rfl, rfl⟩
  rw [fA_admit, s1, bd1_eq, if_neg s0, fI_cc_eq, bd1_eq, h0, if_pos (show (128 : Int32) = 128 from rfl), if_neg (show ¬ (0 : Nat) = 12 by decide), bd1_eq, fI_lc_eq, bd1_eq, fE_takesForm, show tbS 0 = 3 from rfl, show tbL 0 = 1 from rfl,
    fRf_refuse, if_neg (show ¬ nI c ≤ (1 : Int32) from nI_ge (a := 1) (by omega) (by omega)), ixc1, s2, bd1_eq, if_neg s0, ixc0, h0', if_pos (show (128 : Int32) = 128 from rfl), h1, show fRf_known 164 = some 1 by decide +kernel, bd1_eq, if_neg h10, show fRf_shapeOf 164 = some 3 by decide +kernel, bd1_eq, lw_164, pw_164, show fRf_starred 164 = some 0 by decide +kernel]
  rcases (Decidable.em (sh = 3)).symm with g1 | g1
  · rw [if_neg g1, bd1_eq, if_pos z00, if_neg g1]; exact Or.inl (hno _ (by decide) (by decide) (by decide))
  rw [if_pos g1, if_pos g1]
  rw [if_neg (show ¬ (1 : Int32) = 0 by decide), s3 g1]
  rcases (Decidable.em (ni 4 = 1)).symm with g2 | g2
  · rw [if_neg g2, bd1_eq, if_pos z00, if_neg g2, bd1_eq, if_neg h10]; exact Or.inl (hno _ (by decide) (by decide) (by decide))
  rw [if_pos g2, if_pos g2, bd1_eq, if_neg h10, bd1_eq, if_pos z00]
  rw [fI_p1_eq, bd1_eq, fI_p2_eq, bd1_eq, fE_takesParameters, show tbP 0 = 0 from rfl, show tbQ 0 = 0 from rfl, h2, h3]
  by_cases g3 : 0 < ni 2
  · rw [if_pos g3, bd1_eq, if_pos z00, if_pos g3, bd1_eq, if_neg h10]; exact Or.inl (hno _ (by decide) (by decide) (by decide))
  rw [if_neg g3, if_neg g3]
  rcases (Decidable.em (v3 = 0)).symm with g4 | g4
  · rw [if_pos (show (0 : Int32) < nI v3 from nI_lt (a := 0) (by omega) (by omega)), bd1_eq, if_pos z00, h3', if_neg (nI_ne0 (by omega) (by omega)), bd1_eq, if_neg h10]; exact Or.inl (hno _ (by decide) (by decide) (by decide))
  rw [if_neg (show ¬ (0 : Int32) < nI v3 by rw [g4]; decide), bd1_eq, if_neg h10, if_pos (show ni 3 = 0 by rw [h3', g4]; rfl), bd1_eq, if_pos z00]
  rw [if_pos (show (164 : Int32) = 164 from rfl), bd1_eq, if_pos z00]
  rcases hsel with ⟨rfl, rfl⟩ | ⟨a, ha, rfl, rfl⟩
  · rw [if_pos (show (-2 : Int32) = -2 from rfl), if_pos (show (0 : Nat) = 0 from rfl), fE_isGuarded, bd1_eq, if_pos (show tbG 0 = 0 by decide)]; exact Or.inr ⟨rfl, rfl, g1, g3, g2, by rw [h3', g4]; rfl⟩
  · rw [if_neg (nI_m2 (by omega)), fE_isGuarded, bd1_eq, if_pos (show tbG 0 = 0 by decide)]; exact Or.inr ⟨rfl, rfl, g1, g3, g2, by rw [h3', g4]; rfl⟩
theorem lw_32 : fRf_lengthWrong (nm, nb, nl, nc, nd, nf, na, nz, no, ns, nv, np, ni, nn, nu, nt) 32 = if ni 4 = 2 then some 0 else some 1 := by
  rw [fRf_lengthWrong]; simp [ixc4]
theorem pw_32 : fRf_placesWrong (nm, nb, nl, nc, nd, nf, na, nz, no, ns, nv, np, ni, nn, nu, nt) 32 = if 0 < ni 2 then some 1 else (if ni 3 = 0 then some 0 else some 1) := by
  rw [fRf_placesWrong]; simp [ixc2, ixc3]
theorem ad_32 {sh : Int32} {v3 : Nat} (hc4 : 4 ≤ c) (hc : c ≤ 24) (s1 : fI_shape (ib, nI c) = some sh) (s2 : fRf_shape (nm, nb, nl, nc, nd, nf, na, nz, 1, ns, nv, np, ni, nI c, nu, 0) = some sh) (s0 : sh ≠ 0) (s3 : sh = 3 → ib 4 = ni 4) (h0 : ib 0 = 128) (h0' : ni 0 = 128) (h1 : ni 1 = 32) (h2 : ib 2 = ni 2) (h3 : ib 3 = nI v3) (h3' : ni 3 = nI v3) (hv3 : v3 < 256) (hsel : (xs = -2 ∧ ns = -1) ∨ ∃ a : Nat, a < 4 ∧ xs = nI a ∧ ns = nI a) :
    (∃ st : Int32, st ≠ 36864 ∧ st ≠ -1 ∧ st ≠ 0 ∧ fA_admit (mc, nd, nf, mz, ib, nI c, xa, xg, 0, 1, xs, nv, np) 1 = some st ∧ fRf_refuse (nm, nb, nl, nc, nd, nf, na, nz, 1, ns, nv, np, ni, nI c, nu, 0) = some st) ∨ (fA_admit (mc, nd, nf, mz, ib, nI c, xa, xg, 0, 1, xs, nv, np) 1 = some 36864 ∧ fRf_refuse (nm, nb, nl, nc, nd, nf, na, nz, 1, ns, nv, np, ni, nI c, nu, 0) = some 0 ∧ sh = 3 ∧ ¬ 0 < ni 2 ∧ ni 4 = 2 ∧ ni 3 = 0 ∧ (∃ a : Nat, a < 4 ∧ xs = nI a ∧ ns = nI a)) := by
  have hno : ∀ st : Int32, st ≠ 36864 → st ≠ -1 → st ≠ 0 → (∃ st' : Int32, st' ≠ 36864 ∧ st' ≠ -1 ∧ st' ≠ 0 ∧ some st = some st' ∧ some st = some st') := fun st a1 a2 a3 => ⟨st, a1, a2, a3, rfl, rfl⟩
  rw [fA_admit, s1, bd1_eq, if_neg s0, fI_cc_eq, bd1_eq, h0, if_pos (show (128 : Int32) = 128 from rfl), if_neg (show ¬ (1 : Nat) = 12 by decide), bd1_eq, fI_lc_eq, bd1_eq, fE_takesForm, show tbS 1 = 3 from rfl, show tbL 1 = 2 from rfl,
    fRf_refuse, if_neg (show ¬ nI c ≤ (1 : Int32) from nI_ge (a := 1) (by omega) (by omega)), ixc1, s2, bd1_eq, if_neg s0, ixc0, h0', if_pos (show (128 : Int32) = 128 from rfl), h1, show fRf_known 32 = some 1 by decide +kernel, bd1_eq, if_neg h10, show fRf_shapeOf 32 = some 3 by decide +kernel, bd1_eq, lw_32, pw_32, show fRf_starred 32 = some 0 by decide +kernel]
  rcases (Decidable.em (sh = 3)).symm with g1 | g1
  · rw [if_neg g1, bd1_eq, if_pos z00, if_neg g1]; exact Or.inl (hno _ (by decide) (by decide) (by decide))
  rw [if_pos g1, if_pos g1]
  rw [if_neg (show ¬ (2 : Int32) = 0 by decide), s3 g1]
  rcases (Decidable.em (ni 4 = 2)).symm with g2 | g2
  · rw [if_neg g2, bd1_eq, if_pos z00, if_neg g2, bd1_eq, if_neg h10]; exact Or.inl (hno _ (by decide) (by decide) (by decide))
  rw [if_pos g2, if_pos g2, bd1_eq, if_neg h10, bd1_eq, if_pos z00]
  rw [fI_p1_eq, bd1_eq, fI_p2_eq, bd1_eq, fE_takesParameters, show tbP 1 = 0 from rfl, show tbQ 1 = 0 from rfl, h2, h3]
  by_cases g3 : 0 < ni 2
  · rw [if_pos g3, bd1_eq, if_pos z00, if_pos g3, bd1_eq, if_neg h10]; exact Or.inl (hno _ (by decide) (by decide) (by decide))
  rw [if_neg g3, if_neg g3]
  rcases (Decidable.em (v3 = 0)).symm with g4 | g4
  · rw [if_pos (show (0 : Int32) < nI v3 from nI_lt (a := 0) (by omega) (by omega)), bd1_eq, if_pos z00, h3', if_neg (nI_ne0 (by omega) (by omega)), bd1_eq, if_neg h10]; exact Or.inl (hno _ (by decide) (by decide) (by decide))
  rw [if_neg (show ¬ (0 : Int32) < nI v3 by rw [g4]; decide), bd1_eq, if_neg h10, if_pos (show ni 3 = 0 by rw [h3', g4]; rfl), bd1_eq, if_pos z00]
  rw [if_neg (show ¬ (32 : Int32) = 164 by decide), fE_isGuarded, bd1_eq, show tbG 1 = 0 from rfl, bd1_eq]
  rcases hsel with ⟨rfl, rfl⟩ | ⟨a, ha, rfl, rfl⟩
  · rw [if_pos (show (-2 : Int32) = -2 from rfl), if_neg (show ¬ (1 : Nat) = 0 by decide), if_neg (show ¬ (0 : Int32) ≤ -1 by decide)]; exact Or.inl (hno _ (by decide) (by decide) (by decide))
  rw [if_neg (nI_m2 (by omega)), if_pos (nI_pos' (by omega))]
  rw [if_pos (show (0 : Int32) = 0 from rfl), if_pos (show (0 : Int32) = 0 from rfl)]
  exact Or.inr ⟨rfl, rfl, g1, g3, g2, by rw [h3', g4]; rfl, a, ha, rfl, rfl⟩
theorem lw_36 : fRf_lengthWrong (nm, nb, nl, nc, nd, nf, na, nz, no, ns, nv, np, ni, nn, nu, nt) 36 = if ni 4 = 2 then some 0 else some 1 := by
  rw [fRf_lengthWrong]; simp [ixc4]
theorem pw_36 : fRf_placesWrong (nm, nb, nl, nc, nd, nf, na, nz, no, ns, nv, np, ni, nn, nu, nt) 36 = if 0 < ni 2 then some 1 else (if ni 3 = 0 then some 0 else some 1) := by
  rw [fRf_placesWrong]; simp [ixc2, ixc3]
theorem ad_36 {sh : Int32} {v3 : Nat} (hc4 : 4 ≤ c) (hc : c ≤ 24) (s1 : fI_shape (ib, nI c) = some sh) (s2 : fRf_shape (nm, nb, nl, nc, nd, nf, na, nz, 1, ns, nv, np, ni, nI c, nu, 0) = some sh) (s0 : sh ≠ 0) (s3 : sh = 3 → ib 4 = ni 4) (h0 : ib 0 = 128) (h0' : ni 0 = 128) (h1 : ni 1 = 36) (h2 : ib 2 = ni 2) (h3 : ib 3 = nI v3) (h3' : ni 3 = nI v3) (hv3 : v3 < 256) (hsel : (xs = -2 ∧ ns = -1) ∨ ∃ a : Nat, a < 4 ∧ xs = nI a ∧ ns = nI a) :
    (∃ st : Int32, st ≠ 36864 ∧ st ≠ -1 ∧ st ≠ 0 ∧ fA_admit (mc, nd, nf, mz, ib, nI c, xa, xg, 0, 1, xs, nv, np) 2 = some st ∧ fRf_refuse (nm, nb, nl, nc, nd, nf, na, nz, 1, ns, nv, np, ni, nI c, nu, 0) = some st) ∨ (fA_admit (mc, nd, nf, mz, ib, nI c, xa, xg, 0, 1, xs, nv, np) 2 = some 36864 ∧ fRf_refuse (nm, nb, nl, nc, nd, nf, na, nz, 1, ns, nv, np, ni, nI c, nu, 0) = some 0 ∧ sh = 3 ∧ ¬ 0 < ni 2 ∧ ni 4 = 2 ∧ ni 3 = 0 ∧ (∃ a : Nat, a < 4 ∧ xs = nI a ∧ ns = nI a)) := by
  have hno : ∀ st : Int32, st ≠ 36864 → st ≠ -1 → st ≠ 0 → (∃ st' : Int32, st' ≠ 36864 ∧ st' ≠ -1 ∧ st' ≠ 0 ∧ some st = some st' ∧ some st = some st') := fun st a1 a2 a3 => ⟨st, a1, a2, a3, rfl, rfl⟩
  rw [fA_admit, s1, bd1_eq, if_neg s0, fI_cc_eq, bd1_eq, h0, if_pos (show (128 : Int32) = 128 from rfl), if_neg (show ¬ (2 : Nat) = 12 by decide), bd1_eq, fI_lc_eq, bd1_eq, fE_takesForm, show tbS 2 = 3 from rfl, show tbL 2 = 2 from rfl,
    fRf_refuse, if_neg (show ¬ nI c ≤ (1 : Int32) from nI_ge (a := 1) (by omega) (by omega)), ixc1, s2, bd1_eq, if_neg s0, ixc0, h0', if_pos (show (128 : Int32) = 128 from rfl), h1, show fRf_known 36 = some 1 by decide +kernel, bd1_eq, if_neg h10, show fRf_shapeOf 36 = some 3 by decide +kernel, bd1_eq, lw_36, pw_36, show fRf_starred 36 = some 1 by decide +kernel]
  rcases (Decidable.em (sh = 3)).symm with g1 | g1
  · rw [if_neg g1, bd1_eq, if_pos z00, if_neg g1]; exact Or.inl (hno _ (by decide) (by decide) (by decide))
  rw [if_pos g1, if_pos g1]
  rw [if_neg (show ¬ (2 : Int32) = 0 by decide), s3 g1]
  rcases (Decidable.em (ni 4 = 2)).symm with g2 | g2
  · rw [if_neg g2, bd1_eq, if_pos z00, if_neg g2, bd1_eq, if_neg h10]; exact Or.inl (hno _ (by decide) (by decide) (by decide))
  rw [if_pos g2, if_pos g2, bd1_eq, if_neg h10, bd1_eq, if_pos z00]
  rw [fI_p1_eq, bd1_eq, fI_p2_eq, bd1_eq, fE_takesParameters, show tbP 2 = 0 from rfl, show tbQ 2 = 0 from rfl, h2, h3]
  by_cases g3 : 0 < ni 2
  · rw [if_pos g3, bd1_eq, if_pos z00, if_pos g3, bd1_eq, if_neg h10]; exact Or.inl (hno _ (by decide) (by decide) (by decide))
  rw [if_neg g3, if_neg g3]
  rcases (Decidable.em (v3 = 0)).symm with g4 | g4
  · rw [if_pos (show (0 : Int32) < nI v3 from nI_lt (a := 0) (by omega) (by omega)), bd1_eq, if_pos z00, h3', if_neg (nI_ne0 (by omega) (by omega)), bd1_eq, if_neg h10]; exact Or.inl (hno _ (by decide) (by decide) (by decide))
  rw [if_neg (show ¬ (0 : Int32) < nI v3 by rw [g4]; decide), bd1_eq, if_neg h10, if_pos (show ni 3 = 0 by rw [h3', g4]; rfl), bd1_eq, if_pos z00]
  rw [if_neg (show ¬ (36 : Int32) = 164 by decide), fE_isGuarded, bd1_eq, show tbG 2 = 1 from rfl, bd1_eq]
  rcases hsel with ⟨rfl, rfl⟩ | ⟨a, ha, rfl, rfl⟩
  · rw [if_pos (show (-2 : Int32) = -2 from rfl), if_neg (show ¬ (2 : Nat) = 0 by decide), if_neg (show ¬ (0 : Int32) ≤ -1 by decide)]; exact Or.inl (hno _ (by decide) (by decide) (by decide))
  rw [if_neg (nI_m2 (by omega)), if_pos (nI_pos' (by omega))]
  rw [if_neg (show ¬ (1 : Int32) = 0 by decide), if_neg (show ¬ (1 : Int32) = 0 by decide)]
  by_cases g5 : nv = 0
  · rw [if_pos g5, if_pos g5]; exact Or.inl (hno _ (by decide) (by decide) (by decide))
  rw [if_neg g5, if_neg g5]
  exact Or.inr ⟨rfl, rfl, g1, g3, g2, by rw [h3', g4]; rfl, a, ha, rfl, rfl⟩
theorem lw_44 : fRf_lengthWrong (nm, nb, nl, nc, nd, nf, na, nz, no, ns, nv, np, ni, nn, nu, nt) 44 = some 0 := by
  rw [fRf_lengthWrong]; simp [ixc4]
theorem pw_44 : fRf_placesWrong (nm, nb, nl, nc, nd, nf, na, nz, no, ns, nv, np, ni, nn, nu, nt) 44 = if 3 < ni 2 then some 1 else (if ni 3 = 0 then some 0 else some 1) := by
  rw [fRf_placesWrong]; simp [ixc2, ixc3]
theorem ad_44 {sh : Int32} {v3 : Nat} (hc4 : 4 ≤ c) (hc : c ≤ 24) (s1 : fI_shape (ib, nI c) = some sh) (s2 : fRf_shape (nm, nb, nl, nc, nd, nf, na, nz, 1, ns, nv, np, ni, nI c, nu, 0) = some sh) (s0 : sh ≠ 0) (s3 : sh = 3 → ib 4 = ni 4) (h0 : ib 0 = 128) (h0' : ni 0 = 128) (h1 : ni 1 = 44) (h2 : ib 2 = ni 2) (h3 : ib 3 = nI v3) (h3' : ni 3 = nI v3) (hv3 : v3 < 256) (hsel : (xs = -2 ∧ ns = -1) ∨ ∃ a : Nat, a < 4 ∧ xs = nI a ∧ ns = nI a) :
    (∃ st : Int32, st ≠ 36864 ∧ st ≠ -1 ∧ st ≠ 0 ∧ fA_admit (mc, nd, nf, mz, ib, nI c, xa, xg, 0, 1, xs, nv, np) 3 = some st ∧ fRf_refuse (nm, nb, nl, nc, nd, nf, na, nz, 1, ns, nv, np, ni, nI c, nu, 0) = some st) ∨ (fA_admit (mc, nd, nf, mz, ib, nI c, xa, xg, 0, 1, xs, nv, np) 3 = some 36864 ∧ fRf_refuse (nm, nb, nl, nc, nd, nf, na, nz, 1, ns, nv, np, ni, nI c, nu, 0) = some 0 ∧ sh = 1 ∧ ¬ 3 < ni 2 ∧ ni 3 = 0 ∧ (∃ a : Nat, a < 4 ∧ xs = nI a ∧ ns = nI a)) := by
  have hno : ∀ st : Int32, st ≠ 36864 → st ≠ -1 → st ≠ 0 → (∃ st' : Int32, st' ≠ 36864 ∧ st' ≠ -1 ∧ st' ≠ 0 ∧ some st = some st' ∧ some st = some st') := fun st a1 a2 a3 => ⟨st, a1, a2, a3, rfl, rfl⟩
  rw [fA_admit, s1, bd1_eq, if_neg s0, fI_cc_eq, bd1_eq, h0, if_pos (show (128 : Int32) = 128 from rfl), if_neg (show ¬ (3 : Nat) = 12 by decide), bd1_eq, fI_lc_eq, bd1_eq, fE_takesForm, show tbS 3 = 1 from rfl, show tbL 3 = 0 from rfl,
    fRf_refuse, if_neg (show ¬ nI c ≤ (1 : Int32) from nI_ge (a := 1) (by omega) (by omega)), ixc1, s2, bd1_eq, if_neg s0, ixc0, h0', if_pos (show (128 : Int32) = 128 from rfl), h1, show fRf_known 44 = some 1 by decide +kernel, bd1_eq, if_neg h10, show fRf_shapeOf 44 = some 1 by decide +kernel, bd1_eq, lw_44, pw_44, show fRf_starred 44 = some 1 by decide +kernel]
  rcases (Decidable.em (sh = 1)).symm with g1 | g1
  · rw [if_neg g1, bd1_eq, if_pos z00, if_neg g1]; exact Or.inl (hno _ (by decide) (by decide) (by decide))
  rw [if_pos g1, if_pos g1]
  rw [if_pos z00, bd1_eq, if_neg h10, bd1_eq, if_pos z00]
  rw [fI_p1_eq, bd1_eq, fI_p2_eq, bd1_eq, fE_takesParameters, show tbP 3 = 3 from rfl, show tbQ 3 = 0 from rfl, h2, h3]
  by_cases g3 : 3 < ni 2
  · rw [if_pos g3, bd1_eq, if_pos z00, if_pos g3, bd1_eq, if_neg h10]; exact Or.inl (hno _ (by decide) (by decide) (by decide))
  rw [if_neg g3, if_neg g3]
  rcases (Decidable.em (v3 = 0)).symm with g4 | g4
  · rw [if_pos (show (0 : Int32) < nI v3 from nI_lt (a := 0) (by omega) (by omega)), bd1_eq, if_pos z00, h3', if_neg (nI_ne0 (by omega) (by omega)), bd1_eq, if_neg h10]; exact Or.inl (hno _ (by decide) (by decide) (by decide))
  rw [if_neg (show ¬ (0 : Int32) < nI v3 by rw [g4]; decide), bd1_eq, if_neg h10, if_pos (show ni 3 = 0 by rw [h3', g4]; rfl), bd1_eq, if_pos z00]
  rw [if_neg (show ¬ (44 : Int32) = 164 by decide), fE_isGuarded, bd1_eq, show tbG 3 = 1 from rfl, bd1_eq]
  rcases hsel with ⟨rfl, rfl⟩ | ⟨a, ha, rfl, rfl⟩
  · rw [if_pos (show (-2 : Int32) = -2 from rfl), if_neg (show ¬ (3 : Nat) = 0 by decide), if_neg (show ¬ (0 : Int32) ≤ -1 by decide)]; exact Or.inl (hno _ (by decide) (by decide) (by decide))
  rw [if_neg (nI_m2 (by omega)), if_pos (nI_pos' (by omega))]
  rw [if_neg (show ¬ (1 : Int32) = 0 by decide), if_neg (show ¬ (1 : Int32) = 0 by decide)]
  by_cases g5 : nv = 0
  · rw [if_pos g5, if_pos g5]; exact Or.inl (hno _ (by decide) (by decide) (by decide))
  rw [if_neg g5, if_neg g5]
  exact Or.inr ⟨rfl, rfl, g1, g3, by rw [h3', g4]; rfl, a, ha, rfl, rfl⟩
theorem lw_176 : fRf_lengthWrong (nm, nb, nl, nc, nd, nf, na, nz, no, ns, nv, np, ni, nn, nu, nt) 176 = some 0 := by
  rw [fRf_lengthWrong]; simp [ixc4]
theorem pw_176 : fRf_placesWrong (nm, nb, nl, nc, nd, nf, na, nz, no, ns, nv, np, ni, nn, nu, nt) 176 = if 0 < ni 2 then some 1 else some 0 := by
  rw [fRf_placesWrong]; simp [ixc2, ixc3]
theorem ad_176 {sh : Int32} {v3 : Nat} (hc4 : 4 ≤ c) (hc : c ≤ 24) (s1 : fI_shape (ib, nI c) = some sh) (s2 : fRf_shape (nm, nb, nl, nc, nd, nf, na, nz, 1, ns, nv, np, ni, nI c, nu, 0) = some sh) (s0 : sh ≠ 0) (s3 : sh = 3 → ib 4 = ni 4) (h0 : ib 0 = 128) (h0' : ni 0 = 128) (h1 : ni 1 = 176) (h2 : ib 2 = ni 2) (h3 : ib 3 = nI v3) (h3' : ni 3 = nI v3) (hv3 : v3 < 256) (hsel : (xs = -2 ∧ ns = -1) ∨ ∃ a : Nat, a < 4 ∧ xs = nI a ∧ ns = nI a) :
    (∃ st : Int32, st ≠ 36864 ∧ st ≠ -1 ∧ st ≠ 0 ∧ fA_admit (mc, nd, nf, mz, ib, nI c, xa, xg, 0, 1, xs, nv, np) 4 = some st ∧ fRf_refuse (nm, nb, nl, nc, nd, nf, na, nz, 1, ns, nv, np, ni, nI c, nu, 0) = some st) ∨ (fA_admit (mc, nd, nf, mz, ib, nI c, xa, xg, 0, 1, xs, nv, np) 4 = some 36864 ∧ fRf_refuse (nm, nb, nl, nc, nd, nf, na, nz, 1, ns, nv, np, ni, nI c, nu, 0) = some 0 ∧ sh = 2 ∧ ¬ 0 < ni 2 ∧ (∃ a : Nat, a < 4 ∧ xs = nI a ∧ ns = nI a)) := by
  have hno : ∀ st : Int32, st ≠ 36864 → st ≠ -1 → st ≠ 0 → (∃ st' : Int32, st' ≠ 36864 ∧ st' ≠ -1 ∧ st' ≠ 0 ∧ some st = some st' ∧ some st = some st') := fun st a1 a2 a3 => ⟨st, a1, a2, a3, rfl, rfl⟩
  rw [fA_admit, s1, bd1_eq, if_neg s0, fI_cc_eq, bd1_eq, h0, if_pos (show (128 : Int32) = 128 from rfl), if_neg (show ¬ (4 : Nat) = 12 by decide), bd1_eq, fI_lc_eq, bd1_eq, fE_takesForm, show tbS 4 = 2 from rfl, show tbL 4 = 0 from rfl,
    fRf_refuse, if_neg (show ¬ nI c ≤ (1 : Int32) from nI_ge (a := 1) (by omega) (by omega)), ixc1, s2, bd1_eq, if_neg s0, ixc0, h0', if_pos (show (128 : Int32) = 128 from rfl), h1, show fRf_known 176 = some 1 by decide +kernel, bd1_eq, if_neg h10, show fRf_shapeOf 176 = some 2 by decide +kernel, bd1_eq, lw_176, pw_176, show fRf_starred 176 = some 1 by decide +kernel]
  rcases (Decidable.em (sh = 2)).symm with g1 | g1
  · rw [if_neg g1, bd1_eq, if_pos z00, if_neg g1]; exact Or.inl (hno _ (by decide) (by decide) (by decide))
  rw [if_pos g1, if_pos g1]
  rw [if_pos z00, bd1_eq, if_neg h10, bd1_eq, if_pos z00]
  rw [fI_p1_eq, bd1_eq, fI_p2_eq, bd1_eq, fE_takesParameters, show tbP 4 = 0 from rfl, show tbQ 4 = 255 from rfl, h2, h3]
  by_cases g3 : 0 < ni 2
  · rw [if_pos g3, bd1_eq, if_pos z00, if_pos g3, bd1_eq, if_neg h10]; exact Or.inl (hno _ (by decide) (by decide) (by decide))
  rw [if_neg g3, if_neg g3]
  rw [if_neg (show ¬ (255 : Int32) < nI v3 from nI_nlt (a := 255) (by omega) (by omega)), bd1_eq, if_neg h10, bd1_eq, if_pos z00]
  rw [if_neg (show ¬ (176 : Int32) = 164 by decide), fE_isGuarded, bd1_eq, show tbG 4 = 1 from rfl, bd1_eq]
  rcases hsel with ⟨rfl, rfl⟩ | ⟨a, ha, rfl, rfl⟩
  · rw [if_pos (show (-2 : Int32) = -2 from rfl), if_neg (show ¬ (4 : Nat) = 0 by decide), if_neg (show ¬ (0 : Int32) ≤ -1 by decide)]; exact Or.inl (hno _ (by decide) (by decide) (by decide))
  rw [if_neg (nI_m2 (by omega)), if_pos (nI_pos' (by omega))]
  rw [if_neg (show ¬ (1 : Int32) = 0 by decide), if_neg (show ¬ (1 : Int32) = 0 by decide)]
  by_cases g5 : nv = 0
  · rw [if_pos g5, if_pos g5]; exact Or.inl (hno _ (by decide) (by decide) (by decide))
  rw [if_neg g5, if_neg g5]
  exact Or.inr ⟨rfl, rfl, g1, g3, a, ha, rfl, rfl⟩
theorem lw_214 : fRf_lengthWrong (nm, nb, nl, nc, nd, nf, na, nz, no, ns, nv, np, ni, nn, nu, nt) 214 = some 0 := by
  rw [fRf_lengthWrong]; simp [ixc4]
theorem pw_214 : fRf_placesWrong (nm, nb, nl, nc, nd, nf, na, nz, no, ns, nv, np, ni, nn, nu, nt) 214 = if 0 < ni 2 then some 1 else some 0 := by
  rw [fRf_placesWrong]; simp [ixc2, ixc3]
theorem ad_214 {sh : Int32} {v3 : Nat} (hc4 : 4 ≤ c) (hc : c ≤ 24) (s1 : fI_shape (ib, nI c) = some sh) (s2 : fRf_shape (nm, nb, nl, nc, nd, nf, na, nz, 1, ns, nv, np, ni, nI c, nu, 0) = some sh) (s0 : sh ≠ 0) (s3 : sh = 3 → ib 4 = ni 4) (h0 : ib 0 = 128) (h0' : ni 0 = 128) (h1 : ni 1 = 214) (h2 : ib 2 = ni 2) (h3 : ib 3 = nI v3) (h3' : ni 3 = nI v3) (hv3 : v3 < 256) (hsel : (xs = -2 ∧ ns = -1) ∨ ∃ a : Nat, a < 4 ∧ xs = nI a ∧ ns = nI a) :
    (∃ st : Int32, st ≠ 36864 ∧ st ≠ -1 ∧ st ≠ 0 ∧ fA_admit (mc, nd, nf, mz, ib, nI c, xa, xg, 0, 1, xs, nv, np) 5 = some st ∧ fRf_refuse (nm, nb, nl, nc, nd, nf, na, nz, 1, ns, nv, np, ni, nI c, nu, 0) = some st) ∨ (fA_admit (mc, nd, nf, mz, ib, nI c, xa, xg, 0, 1, xs, nv, np) 5 = some 36864 ∧ fRf_refuse (nm, nb, nl, nc, nd, nf, na, nz, 1, ns, nv, np, ni, nI c, nu, 0) = some 0 ∧ sh = 3 ∧ ¬ 0 < ni 2 ∧ (∃ a : Nat, a < 4 ∧ xs = nI a ∧ ns = nI a)) := by
  have hno : ∀ st : Int32, st ≠ 36864 → st ≠ -1 → st ≠ 0 → (∃ st' : Int32, st' ≠ 36864 ∧ st' ≠ -1 ∧ st' ≠ 0 ∧ some st = some st' ∧ some st = some st') := fun st a1 a2 a3 => ⟨st, a1, a2, a3, rfl, rfl⟩
  rw [fA_admit, s1, bd1_eq, if_neg s0, fI_cc_eq, bd1_eq, h0, if_pos (show (128 : Int32) = 128 from rfl), if_neg (show ¬ (5 : Nat) = 12 by decide), bd1_eq, fI_lc_eq, bd1_eq, fE_takesForm, show tbS 5 = 3 from rfl, show tbL 5 = 0 from rfl,
    fRf_refuse, if_neg (show ¬ nI c ≤ (1 : Int32) from nI_ge (a := 1) (by omega) (by omega)), ixc1, s2, bd1_eq, if_neg s0, ixc0, h0', if_pos (show (128 : Int32) = 128 from rfl), h1, show fRf_known 214 = some 1 by decide +kernel, bd1_eq, if_neg h10, show fRf_shapeOf 214 = some 3 by decide +kernel, bd1_eq, lw_214, pw_214, show fRf_starred 214 = some 1 by decide +kernel]
  rcases (Decidable.em (sh = 3)).symm with g1 | g1
  · rw [if_neg g1, bd1_eq, if_pos z00, if_neg g1]; exact Or.inl (hno _ (by decide) (by decide) (by decide))
  rw [if_pos g1, if_pos g1]
  rw [if_pos z00, bd1_eq, if_neg h10, bd1_eq, if_pos z00]
  rw [fI_p1_eq, bd1_eq, fI_p2_eq, bd1_eq, fE_takesParameters, show tbP 5 = 0 from rfl, show tbQ 5 = 255 from rfl, h2, h3]
  by_cases g3 : 0 < ni 2
  · rw [if_pos g3, bd1_eq, if_pos z00, if_pos g3, bd1_eq, if_neg h10]; exact Or.inl (hno _ (by decide) (by decide) (by decide))
  rw [if_neg g3, if_neg g3]
  rw [if_neg (show ¬ (255 : Int32) < nI v3 from nI_nlt (a := 255) (by omega) (by omega)), bd1_eq, if_neg h10, bd1_eq, if_pos z00]
  rw [if_neg (show ¬ (214 : Int32) = 164 by decide), fE_isGuarded, bd1_eq, show tbG 5 = 1 from rfl, bd1_eq]
  rcases hsel with ⟨rfl, rfl⟩ | ⟨a, ha, rfl, rfl⟩
  · rw [if_pos (show (-2 : Int32) = -2 from rfl), if_neg (show ¬ (5 : Nat) = 0 by decide), if_neg (show ¬ (0 : Int32) ≤ -1 by decide)]; exact Or.inl (hno _ (by decide) (by decide) (by decide))
  rw [if_neg (nI_m2 (by omega)), if_pos (nI_pos' (by omega))]
  rw [if_neg (show ¬ (1 : Int32) = 0 by decide), if_neg (show ¬ (1 : Int32) = 0 by decide)]
  by_cases g5 : nv = 0
  · rw [if_pos g5, if_pos g5]; exact Or.inl (hno _ (by decide) (by decide) (by decide))
  rw [if_neg g5, if_neg g5]
  exact Or.inr ⟨rfl, rfl, g1, g3, a, ha, rfl, rfl⟩
theorem lw_112 : fRf_lengthWrong (nm, nb, nl, nc, nd, nf, na, nz, no, ns, nv, np, ni, nn, nu, nt) 112 = some 0 := by
  rw [fRf_lengthWrong]; simp [ixc4]
theorem pw_112 : fRf_placesWrong (nm, nb, nl, nc, nd, nf, na, nz, no, ns, nv, np, ni, nn, nu, nt) 112 = if 0 < ni 2 then some 1 else (if ni 3 = 0 then some 0 else some 1) := by
  rw [fRf_placesWrong]; simp [ixc2, ixc3]
theorem ad_112 {sh : Int32} {v3 : Nat} (hc4 : 4 ≤ c) (hc : c ≤ 24) (s1 : fI_shape (ib, nI c) = some sh) (s2 : fRf_shape (nm, nb, nl, nc, nd, nf, na, nz, 1, ns, nv, np, ni, nI c, nu, 0) = some sh) (s0 : sh ≠ 0) (s3 : sh = 3 → ib 4 = ni 4) (h0 : ib 0 = 128) (h0' : ni 0 = 128) (h1 : ni 1 = 112) (h2 : ib 2 = ni 2) (h3 : ib 3 = nI v3) (h3' : ni 3 = nI v3) (hv3 : v3 < 256) (hsel : (xs = -2 ∧ ns = -1) ∨ ∃ a : Nat, a < 4 ∧ xs = nI a ∧ ns = nI a) :
    (∃ st : Int32, st ≠ 36864 ∧ st ≠ -1 ∧ st ≠ 0 ∧ fA_admit (mc, nd, nf, mz, ib, nI c, xa, xg, 0, 1, xs, nv, np) 6 = some st ∧ fRf_refuse (nm, nb, nl, nc, nd, nf, na, nz, 1, ns, nv, np, ni, nI c, nu, 0) = some st) ∨ (fA_admit (mc, nd, nf, mz, ib, nI c, xa, xg, 0, 1, xs, nv, np) 6 = some 36864 ∧ fRf_refuse (nm, nb, nl, nc, nd, nf, na, nz, 1, ns, nv, np, ni, nI c, nu, 0) = some 0 ∧ sh = 1 ∧ ¬ 0 < ni 2 ∧ ni 3 = 0 ∧ (∃ a : Nat, a < 4 ∧ xs = nI a ∧ ns = nI a)) := by
  have hno : ∀ st : Int32, st ≠ 36864 → st ≠ -1 → st ≠ 0 → (∃ st' : Int32, st' ≠ 36864 ∧ st' ≠ -1 ∧ st' ≠ 0 ∧ some st = some st' ∧ some st = some st') := fun st a1 a2 a3 => ⟨st, a1, a2, a3, rfl, rfl⟩
  rw [fA_admit, s1, bd1_eq, if_neg s0, fI_cc_eq, bd1_eq, h0, if_pos (show (128 : Int32) = 128 from rfl), if_neg (show ¬ (6 : Nat) = 12 by decide), bd1_eq, fI_lc_eq, bd1_eq, fE_takesForm, show tbS 6 = 1 from rfl, show tbL 6 = 0 from rfl,
    fRf_refuse, if_neg (show ¬ nI c ≤ (1 : Int32) from nI_ge (a := 1) (by omega) (by omega)), ixc1, s2, bd1_eq, if_neg s0, ixc0, h0', if_pos (show (128 : Int32) = 128 from rfl), h1, show fRf_known 112 = some 1 by decide +kernel, bd1_eq, if_neg h10, show fRf_shapeOf 112 = some 1 by decide +kernel, bd1_eq, lw_112, pw_112, show fRf_starred 112 = some 0 by decide +kernel]
  rcases (Decidable.em (sh = 1)).symm with g1 | g1
  · rw [if_neg g1, bd1_eq, if_pos z00, if_neg g1]; exact Or.inl (hno _ (by decide) (by decide) (by decide))
  rw [if_pos g1, if_pos g1]
  rw [if_pos z00, bd1_eq, if_neg h10, bd1_eq, if_pos z00]
  rw [fI_p1_eq, bd1_eq, fI_p2_eq, bd1_eq, fE_takesParameters, show tbP 6 = 0 from rfl, show tbQ 6 = 0 from rfl, h2, h3]
  by_cases g3 : 0 < ni 2
  · rw [if_pos g3, bd1_eq, if_pos z00, if_pos g3, bd1_eq, if_neg h10]; exact Or.inl (hno _ (by decide) (by decide) (by decide))
  rw [if_neg g3, if_neg g3]
  rcases (Decidable.em (v3 = 0)).symm with g4 | g4
  · rw [if_pos (show (0 : Int32) < nI v3 from nI_lt (a := 0) (by omega) (by omega)), bd1_eq, if_pos z00, h3', if_neg (nI_ne0 (by omega) (by omega)), bd1_eq, if_neg h10]; exact Or.inl (hno _ (by decide) (by decide) (by decide))
  rw [if_neg (show ¬ (0 : Int32) < nI v3 by rw [g4]; decide), bd1_eq, if_neg h10, if_pos (show ni 3 = 0 by rw [h3', g4]; rfl), bd1_eq, if_pos z00]
  rw [if_neg (show ¬ (112 : Int32) = 164 by decide), fE_isGuarded, bd1_eq, show tbG 6 = 0 from rfl, bd1_eq]
  rcases hsel with ⟨rfl, rfl⟩ | ⟨a, ha, rfl, rfl⟩
  · rw [if_pos (show (-2 : Int32) = -2 from rfl), if_neg (show ¬ (6 : Nat) = 0 by decide), if_neg (show ¬ (0 : Int32) ≤ -1 by decide)]; exact Or.inl (hno _ (by decide) (by decide) (by decide))
  rw [if_neg (nI_m2 (by omega)), if_pos (nI_pos' (by omega))]
  rw [if_pos (show (0 : Int32) = 0 from rfl), if_pos (show (0 : Int32) = 0 from rfl)]
  exact Or.inr ⟨rfl, rfl, g1, g3, by rw [h3', g4]; rfl, a, ha, rfl, rfl⟩
theorem lw_114 : fRf_lengthWrong (nm, nb, nl, nc, nd, nf, na, nz, no, ns, nv, np, ni, nn, nu, nt) 114 = some 0 := by
  rw [fRf_lengthWrong]; simp [ixc4]
theorem pw_114 : fRf_placesWrong (nm, nb, nl, nc, nd, nf, na, nz, no, ns, nv, np, ni, nn, nu, nt) 114 = if 1 < ni 2 then some 1 else (if ni 3 = 0 then some 0 else some 1) := by
  rw [fRf_placesWrong]; simp [ixc2, ixc3]
theorem ad_114 {sh : Int32} {v3 : Nat} (hc4 : 4 ≤ c) (hc : c ≤ 24) (s1 : fI_shape (ib, nI c) = some sh) (s2 : fRf_shape (nm, nb, nl, nc, nd, nf, na, nz, 1, ns, nv, np, ni, nI c, nu, 0) = some sh) (s0 : sh ≠ 0) (s3 : sh = 3 → ib 4 = ni 4) (h0 : ib 0 = 128) (h0' : ni 0 = 128) (h1 : ni 1 = 114) (h2 : ib 2 = ni 2) (h3 : ib 3 = nI v3) (h3' : ni 3 = nI v3) (hv3 : v3 < 256) (hsel : (xs = -2 ∧ ns = -1) ∨ ∃ a : Nat, a < 4 ∧ xs = nI a ∧ ns = nI a) :
    (∃ st : Int32, st ≠ 36864 ∧ st ≠ -1 ∧ st ≠ 0 ∧ fA_admit (mc, nd, nf, mz, ib, nI c, xa, xg, 0, 1, xs, nv, np) 7 = some st ∧ fRf_refuse (nm, nb, nl, nc, nd, nf, na, nz, 1, ns, nv, np, ni, nI c, nu, 0) = some st) ∨ (fA_admit (mc, nd, nf, mz, ib, nI c, xa, xg, 0, 1, xs, nv, np) 7 = some 36864 ∧ fRf_refuse (nm, nb, nl, nc, nd, nf, na, nz, 1, ns, nv, np, ni, nI c, nu, 0) = some 0 ∧ sh = 1 ∧ ¬ 1 < ni 2 ∧ ni 3 = 0 ∧ (∃ a : Nat, a < 4 ∧ xs = nI a ∧ ns = nI a)) := by
  have hno : ∀ st : Int32, st ≠ 36864 → st ≠ -1 → st ≠ 0 → (∃ st' : Int32, st' ≠ 36864 ∧ st' ≠ -1 ∧ st' ≠ 0 ∧ some st = some st' ∧ some st = some st') := fun st a1 a2 a3 => ⟨st, a1, a2, a3, rfl, rfl⟩
  rw [fA_admit, s1, bd1_eq, if_neg s0, fI_cc_eq, bd1_eq, h0, if_pos (show (128 : Int32) = 128 from rfl), if_neg (show ¬ (7 : Nat) = 12 by decide), bd1_eq, fI_lc_eq, bd1_eq, fE_takesForm, show tbS 7 = 1 from rfl, show tbL 7 = 0 from rfl,
    fRf_refuse, if_neg (show ¬ nI c ≤ (1 : Int32) from nI_ge (a := 1) (by omega) (by omega)), ixc1, s2, bd1_eq, if_neg s0, ixc0, h0', if_pos (show (128 : Int32) = 128 from rfl), h1, show fRf_known 114 = some 1 by decide +kernel, bd1_eq, if_neg h10, show fRf_shapeOf 114 = some 1 by decide +kernel, bd1_eq, lw_114, pw_114, show fRf_starred 114 = some 0 by decide +kernel]
  rcases (Decidable.em (sh = 1)).symm with g1 | g1
  · rw [if_neg g1, bd1_eq, if_pos z00, if_neg g1]; exact Or.inl (hno _ (by decide) (by decide) (by decide))
  rw [if_pos g1, if_pos g1]
  rw [if_pos z00, bd1_eq, if_neg h10, bd1_eq, if_pos z00]
  rw [fI_p1_eq, bd1_eq, fI_p2_eq, bd1_eq, fE_takesParameters, show tbP 7 = 1 from rfl, show tbQ 7 = 0 from rfl, h2, h3]
  by_cases g3 : 1 < ni 2
  · rw [if_pos g3, bd1_eq, if_pos z00, if_pos g3, bd1_eq, if_neg h10]; exact Or.inl (hno _ (by decide) (by decide) (by decide))
  rw [if_neg g3, if_neg g3]
  rcases (Decidable.em (v3 = 0)).symm with g4 | g4
  · rw [if_pos (show (0 : Int32) < nI v3 from nI_lt (a := 0) (by omega) (by omega)), bd1_eq, if_pos z00, h3', if_neg (nI_ne0 (by omega) (by omega)), bd1_eq, if_neg h10]; exact Or.inl (hno _ (by decide) (by decide) (by decide))
  rw [if_neg (show ¬ (0 : Int32) < nI v3 by rw [g4]; decide), bd1_eq, if_neg h10, if_pos (show ni 3 = 0 by rw [h3', g4]; rfl), bd1_eq, if_pos z00]
  rw [if_neg (show ¬ (114 : Int32) = 164 by decide), fE_isGuarded, bd1_eq, show tbG 7 = 0 from rfl, bd1_eq]
  rcases hsel with ⟨rfl, rfl⟩ | ⟨a, ha, rfl, rfl⟩
  · rw [if_pos (show (-2 : Int32) = -2 from rfl), if_neg (show ¬ (7 : Nat) = 0 by decide), if_neg (show ¬ (0 : Int32) ≤ -1 by decide)]; exact Or.inl (hno _ (by decide) (by decide) (by decide))
  rw [if_neg (nI_m2 (by omega)), if_pos (nI_pos' (by omega))]
  rw [if_pos (show (0 : Int32) = 0 from rfl), if_pos (show (0 : Int32) = 0 from rfl)]
  exact Or.inr ⟨rfl, rfl, g1, g3, by rw [h3', g4]; rfl, a, ha, rfl, rfl⟩
theorem lw_226 : fRf_lengthWrong (nm, nb, nl, nc, nd, nf, na, nz, no, ns, nv, np, ni, nn, nu, nt) 226 = if ni 4 = 4 then some 0 else some 1 := by
  rw [fRf_lengthWrong]; simp [ixc4]
theorem pw_226 : fRf_placesWrong (nm, nb, nl, nc, nd, nf, na, nz, no, ns, nv, np, ni, nn, nu, nt) 226 = if 7 < ni 2 then some 1 else (if ni 3 = 0 then some 0 else some 1) := by
  rw [fRf_placesWrong]; simp [ixc2, ixc3]
theorem ad_226 {sh : Int32} {v3 : Nat} (hc4 : 4 ≤ c) (hc : c ≤ 24) (s1 : fI_shape (ib, nI c) = some sh) (s2 : fRf_shape (nm, nb, nl, nc, nd, nf, na, nz, 1, ns, nv, np, ni, nI c, nu, 0) = some sh) (s0 : sh ≠ 0) (s3 : sh = 3 → ib 4 = ni 4) (h0 : ib 0 = 128) (h0' : ni 0 = 128) (h1 : ni 1 = 226) (h2 : ib 2 = ni 2) (h3 : ib 3 = nI v3) (h3' : ni 3 = nI v3) (hv3 : v3 < 256) (hsel : (xs = -2 ∧ ns = -1) ∨ ∃ a : Nat, a < 4 ∧ xs = nI a ∧ ns = nI a) :
    (∃ st : Int32, st ≠ 36864 ∧ st ≠ -1 ∧ st ≠ 0 ∧ fA_admit (mc, nd, nf, mz, ib, nI c, xa, xg, 0, 1, xs, nv, np) 8 = some st ∧ fRf_refuse (nm, nb, nl, nc, nd, nf, na, nz, 1, ns, nv, np, ni, nI c, nu, 0) = some st) ∨ (fA_admit (mc, nd, nf, mz, ib, nI c, xa, xg, 0, 1, xs, nv, np) 8 = some 36864 ∧ fRf_refuse (nm, nb, nl, nc, nd, nf, na, nz, 1, ns, nv, np, ni, nI c, nu, 0) = some 0 ∧ sh = 3 ∧ ¬ 7 < ni 2 ∧ ni 4 = 4 ∧ ni 3 = 0 ∧ (∃ a : Nat, a < 4 ∧ xs = nI a ∧ ns = nI a)) := by
  have hno : ∀ st : Int32, st ≠ 36864 → st ≠ -1 → st ≠ 0 → (∃ st' : Int32, st' ≠ 36864 ∧ st' ≠ -1 ∧ st' ≠ 0 ∧ some st = some st' ∧ some st = some st') := fun st a1 a2 a3 => ⟨st, a1, a2, a3, rfl, rfl⟩
  rw [fA_admit, s1, bd1_eq, if_neg s0, fI_cc_eq, bd1_eq, h0, if_pos (show (128 : Int32) = 128 from rfl), if_neg (show ¬ (8 : Nat) = 12 by decide), bd1_eq, fI_lc_eq, bd1_eq, fE_takesForm, show tbS 8 = 3 from rfl, show tbL 8 = 4 from rfl,
    fRf_refuse, if_neg (show ¬ nI c ≤ (1 : Int32) from nI_ge (a := 1) (by omega) (by omega)), ixc1, s2, bd1_eq, if_neg s0, ixc0, h0', if_pos (show (128 : Int32) = 128 from rfl), h1, show fRf_known 226 = some 1 by decide +kernel, bd1_eq, if_neg h10, show fRf_shapeOf 226 = some 3 by decide +kernel, bd1_eq, lw_226, pw_226, show fRf_starred 226 = some 1 by decide +kernel]
  rcases (Decidable.em (sh = 3)).symm with g1 | g1
  · rw [if_neg g1, bd1_eq, if_pos z00, if_neg g1]; exact Or.inl (hno _ (by decide) (by decide) (by decide))
  rw [if_pos g1, if_pos g1]
  rw [if_neg (show ¬ (4 : Int32) = 0 by decide), s3 g1]
  rcases (Decidable.em (ni 4 = 4)).symm with g2 | g2
  · rw [if_neg g2, bd1_eq, if_pos z00, if_neg g2, bd1_eq, if_neg h10]; exact Or.inl (hno _ (by decide) (by decide) (by decide))
  rw [if_pos g2, if_pos g2, bd1_eq, if_neg h10, bd1_eq, if_pos z00]
  rw [fI_p1_eq, bd1_eq, fI_p2_eq, bd1_eq, fE_takesParameters, show tbP 8 = 7 from rfl, show tbQ 8 = 0 from rfl, h2, h3]
  by_cases g3 : 7 < ni 2
  · rw [if_pos g3, bd1_eq, if_pos z00, if_pos g3, bd1_eq, if_neg h10]; exact Or.inl (hno _ (by decide) (by decide) (by decide))
  rw [if_neg g3, if_neg g3]
  rcases (Decidable.em (v3 = 0)).symm with g4 | g4
  · rw [if_pos (show (0 : Int32) < nI v3 from nI_lt (a := 0) (by omega) (by omega)), bd1_eq, if_pos z00, h3', if_neg (nI_ne0 (by omega) (by omega)), bd1_eq, if_neg h10]; exact Or.inl (hno _ (by decide) (by decide) (by decide))
  rw [if_neg (show ¬ (0 : Int32) < nI v3 by rw [g4]; decide), bd1_eq, if_neg h10, if_pos (show ni 3 = 0 by rw [h3', g4]; rfl), bd1_eq, if_pos z00]
  rw [if_neg (show ¬ (226 : Int32) = 164 by decide), fE_isGuarded, bd1_eq, show tbG 8 = 1 from rfl, bd1_eq]
  rcases hsel with ⟨rfl, rfl⟩ | ⟨a, ha, rfl, rfl⟩
  · rw [if_pos (show (-2 : Int32) = -2 from rfl), if_neg (show ¬ (8 : Nat) = 0 by decide), if_neg (show ¬ (0 : Int32) ≤ -1 by decide)]; exact Or.inl (hno _ (by decide) (by decide) (by decide))
  rw [if_neg (nI_m2 (by omega)), if_pos (nI_pos' (by omega))]
  rw [if_neg (show ¬ (1 : Int32) = 0 by decide), if_neg (show ¬ (1 : Int32) = 0 by decide)]
  by_cases g5 : nv = 0
  · rw [if_pos g5, if_pos g5]; exact Or.inl (hno _ (by decide) (by decide) (by decide))
  rw [if_neg g5, if_neg g5]
  exact Or.inr ⟨rfl, rfl, g1, g3, g2, by rw [h3', g4]; rfl, a, ha, rfl, rfl⟩
theorem lw_228 : fRf_lengthWrong (nm, nb, nl, nc, nd, nf, na, nz, no, ns, nv, np, ni, nn, nu, nt) 228 = some 0 := by
  rw [fRf_lengthWrong]; simp [ixc4]
theorem pw_228 : fRf_placesWrong (nm, nb, nl, nc, nd, nf, na, nz, no, ns, nv, np, ni, nn, nu, nt) 228 = if 7 < ni 2 then some 1 else (if ni 3 = 0 then some 0 else some 1) := by
  rw [fRf_placesWrong]; simp [ixc2, ixc3]
theorem ad_228 {sh : Int32} {v3 : Nat} (hc4 : 4 ≤ c) (hc : c ≤ 24) (s1 : fI_shape (ib, nI c) = some sh) (s2 : fRf_shape (nm, nb, nl, nc, nd, nf, na, nz, 1, ns, nv, np, ni, nI c, nu, 0) = some sh) (s0 : sh ≠ 0) (s3 : sh = 3 → ib 4 = ni 4) (h0 : ib 0 = 128) (h0' : ni 0 = 128) (h1 : ni 1 = 228) (h2 : ib 2 = ni 2) (h3 : ib 3 = nI v3) (h3' : ni 3 = nI v3) (hv3 : v3 < 256) (hsel : (xs = -2 ∧ ns = -1) ∨ ∃ a : Nat, a < 4 ∧ xs = nI a ∧ ns = nI a) :
    (∃ st : Int32, st ≠ 36864 ∧ st ≠ -1 ∧ st ≠ 0 ∧ fA_admit (mc, nd, nf, mz, ib, nI c, xa, xg, 0, 1, xs, nv, np) 9 = some st ∧ fRf_refuse (nm, nb, nl, nc, nd, nf, na, nz, 1, ns, nv, np, ni, nI c, nu, 0) = some st) ∨ (fA_admit (mc, nd, nf, mz, ib, nI c, xa, xg, 0, 1, xs, nv, np) 9 = some 36864 ∧ fRf_refuse (nm, nb, nl, nc, nd, nf, na, nz, 1, ns, nv, np, ni, nI c, nu, 0) = some 0 ∧ sh = 1 ∧ ¬ 7 < ni 2 ∧ ni 3 = 0 ∧ (∃ a : Nat, a < 4 ∧ xs = nI a ∧ ns = nI a)) := by
  have hno : ∀ st : Int32, st ≠ 36864 → st ≠ -1 → st ≠ 0 → (∃ st' : Int32, st' ≠ 36864 ∧ st' ≠ -1 ∧ st' ≠ 0 ∧ some st = some st' ∧ some st = some st') := fun st a1 a2 a3 => ⟨st, a1, a2, a3, rfl, rfl⟩
  rw [fA_admit, s1, bd1_eq, if_neg s0, fI_cc_eq, bd1_eq, h0, if_pos (show (128 : Int32) = 128 from rfl), if_neg (show ¬ (9 : Nat) = 12 by decide), bd1_eq, fI_lc_eq, bd1_eq, fE_takesForm, show tbS 9 = 1 from rfl, show tbL 9 = 0 from rfl,
    fRf_refuse, if_neg (show ¬ nI c ≤ (1 : Int32) from nI_ge (a := 1) (by omega) (by omega)), ixc1, s2, bd1_eq, if_neg s0, ixc0, h0', if_pos (show (128 : Int32) = 128 from rfl), h1, show fRf_known 228 = some 1 by decide +kernel, bd1_eq, if_neg h10, show fRf_shapeOf 228 = some 1 by decide +kernel, bd1_eq, lw_228, pw_228, show fRf_starred 228 = some 1 by decide +kernel]
  rcases (Decidable.em (sh = 1)).symm with g1 | g1
  · rw [if_neg g1, bd1_eq, if_pos z00, if_neg g1]; exact Or.inl (hno _ (by decide) (by decide) (by decide))
  rw [if_pos g1, if_pos g1]
  rw [if_pos z00, bd1_eq, if_neg h10, bd1_eq, if_pos z00]
  rw [fI_p1_eq, bd1_eq, fI_p2_eq, bd1_eq, fE_takesParameters, show tbP 9 = 7 from rfl, show tbQ 9 = 0 from rfl, h2, h3]
  by_cases g3 : 7 < ni 2
  · rw [if_pos g3, bd1_eq, if_pos z00, if_pos g3, bd1_eq, if_neg h10]; exact Or.inl (hno _ (by decide) (by decide) (by decide))
  rw [if_neg g3, if_neg g3]
  rcases (Decidable.em (v3 = 0)).symm with g4 | g4
  · rw [if_pos (show (0 : Int32) < nI v3 from nI_lt (a := 0) (by omega) (by omega)), bd1_eq, if_pos z00, h3', if_neg (nI_ne0 (by omega) (by omega)), bd1_eq, if_neg h10]; exact Or.inl (hno _ (by decide) (by decide) (by decide))
  rw [if_neg (show ¬ (0 : Int32) < nI v3 by rw [g4]; decide), bd1_eq, if_neg h10, if_pos (show ni 3 = 0 by rw [h3', g4]; rfl), bd1_eq, if_pos z00]
  rw [if_neg (show ¬ (228 : Int32) = 164 by decide), fE_isGuarded, bd1_eq, show tbG 9 = 1 from rfl, bd1_eq]
  rcases hsel with ⟨rfl, rfl⟩ | ⟨a, ha, rfl, rfl⟩
  · rw [if_pos (show (-2 : Int32) = -2 from rfl), if_neg (show ¬ (9 : Nat) = 0 by decide), if_neg (show ¬ (0 : Int32) ≤ -1 by decide)]; exact Or.inl (hno _ (by decide) (by decide) (by decide))
  rw [if_neg (nI_m2 (by omega)), if_pos (nI_pos' (by omega))]
  rw [if_neg (show ¬ (1 : Int32) = 0 by decide), if_neg (show ¬ (1 : Int32) = 0 by decide)]
  by_cases g5 : nv = 0
  · rw [if_pos g5, if_pos g5]; exact Or.inl (hno _ (by decide) (by decide) (by decide))
  rw [if_neg g5, if_neg g5]
  exact Or.inr ⟨rfl, rfl, g1, g3, by rw [h3', g4]; rfl, a, ha, rfl, rfl⟩
theorem lw_178 : fRf_lengthWrong (nm, nb, nl, nc, nd, nf, na, nz, no, ns, nv, np, ni, nn, nu, nt) 178 = some 0 := by
  rw [fRf_lengthWrong]; simp [ixc4]
theorem pw_178 : fRf_placesWrong (nm, nb, nl, nc, nd, nf, na, nz, no, ns, nv, np, ni, nn, nu, nt) 178 = if 7 < ni 2 then some 1 else some 0 := by
  rw [fRf_placesWrong]; simp [ixc2, ixc3]
theorem ad_178 {sh : Int32} {v3 : Nat} (hc4 : 4 ≤ c) (hc : c ≤ 24) (s1 : fI_shape (ib, nI c) = some sh) (s2 : fRf_shape (nm, nb, nl, nc, nd, nf, na, nz, 1, ns, nv, np, ni, nI c, nu, 0) = some sh) (s0 : sh ≠ 0) (s3 : sh = 3 → ib 4 = ni 4) (h0 : ib 0 = 128) (h0' : ni 0 = 128) (h1 : ni 1 = 178) (h2 : ib 2 = ni 2) (h3 : ib 3 = nI v3) (h3' : ni 3 = nI v3) (hv3 : v3 < 256) (hsel : (xs = -2 ∧ ns = -1) ∨ ∃ a : Nat, a < 4 ∧ xs = nI a ∧ ns = nI a) :
    (∃ st : Int32, st ≠ 36864 ∧ st ≠ -1 ∧ st ≠ 0 ∧ fA_admit (mc, nd, nf, mz, ib, nI c, xa, xg, 0, 1, xs, nv, np) 10 = some st ∧ fRf_refuse (nm, nb, nl, nc, nd, nf, na, nz, 1, ns, nv, np, ni, nI c, nu, 0) = some st) ∨ (fA_admit (mc, nd, nf, mz, ib, nI c, xa, xg, 0, 1, xs, nv, np) 10 = some 36864 ∧ fRf_refuse (nm, nb, nl, nc, nd, nf, na, nz, 1, ns, nv, np, ni, nI c, nu, 0) = some 0 ∧ sh = 2 ∧ ¬ 7 < ni 2 ∧ (∃ a : Nat, a < 4 ∧ xs = nI a ∧ ns = nI a)) := by
  have hno : ∀ st : Int32, st ≠ 36864 → st ≠ -1 → st ≠ 0 → (∃ st' : Int32, st' ≠ 36864 ∧ st' ≠ -1 ∧ st' ≠ 0 ∧ some st = some st' ∧ some st = some st') := fun st a1 a2 a3 => ⟨st, a1, a2, a3, rfl, rfl⟩
  rw [fA_admit, s1, bd1_eq, if_neg s0, fI_cc_eq, bd1_eq, h0, if_pos (show (128 : Int32) = 128 from rfl), if_neg (show ¬ (10 : Nat) = 12 by decide), bd1_eq, fI_lc_eq, bd1_eq, fE_takesForm, show tbS 10 = 2 from rfl, show tbL 10 = 0 from rfl,
    fRf_refuse, if_neg (show ¬ nI c ≤ (1 : Int32) from nI_ge (a := 1) (by omega) (by omega)), ixc1, s2, bd1_eq, if_neg s0, ixc0, h0', if_pos (show (128 : Int32) = 128 from rfl), h1, show fRf_known 178 = some 1 by decide +kernel, bd1_eq, if_neg h10, show fRf_shapeOf 178 = some 2 by decide +kernel, bd1_eq, lw_178, pw_178, show fRf_starred 178 = some 1 by decide +kernel]
  rcases (Decidable.em (sh = 2)).symm with g1 | g1
  · rw [if_neg g1, bd1_eq, if_pos z00, if_neg g1]; exact Or.inl (hno _ (by decide) (by decide) (by decide))
  rw [if_pos g1, if_pos g1]
  rw [if_pos z00, bd1_eq, if_neg h10, bd1_eq, if_pos z00]
  rw [fI_p1_eq, bd1_eq, fI_p2_eq, bd1_eq, fE_takesParameters, show tbP 10 = 7 from rfl, show tbQ 10 = 255 from rfl, h2, h3]
  by_cases g3 : 7 < ni 2
  · rw [if_pos g3, bd1_eq, if_pos z00, if_pos g3, bd1_eq, if_neg h10]; exact Or.inl (hno _ (by decide) (by decide) (by decide))
  rw [if_neg g3, if_neg g3]
  rw [if_neg (show ¬ (255 : Int32) < nI v3 from nI_nlt (a := 255) (by omega) (by omega)), bd1_eq, if_neg h10, bd1_eq, if_pos z00]
  rw [if_neg (show ¬ (178 : Int32) = 164 by decide), fE_isGuarded, bd1_eq, show tbG 10 = 1 from rfl, bd1_eq]
  rcases hsel with ⟨rfl, rfl⟩ | ⟨a, ha, rfl, rfl⟩
  · rw [if_pos (show (-2 : Int32) = -2 from rfl), if_neg (show ¬ (10 : Nat) = 0 by decide), if_neg (show ¬ (0 : Int32) ≤ -1 by decide)]; exact Or.inl (hno _ (by decide) (by decide) (by decide))
  rw [if_neg (nI_m2 (by omega)), if_pos (nI_pos' (by omega))]
  rw [if_neg (show ¬ (1 : Int32) = 0 by decide), if_neg (show ¬ (1 : Int32) = 0 by decide)]
  by_cases g5 : nv = 0
  · rw [if_pos g5, if_pos g5]; exact Or.inl (hno _ (by decide) (by decide) (by decide))
  rw [if_neg g5, if_neg g5]
  exact Or.inr ⟨rfl, rfl, g1, g3, a, ha, rfl, rfl⟩
theorem lw_220 : fRf_lengthWrong (nm, nb, nl, nc, nd, nf, na, nz, no, ns, nv, np, ni, nn, nu, nt) 220 = some 0 := by
  rw [fRf_lengthWrong]; simp [ixc4]
theorem pw_220 : fRf_placesWrong (nm, nb, nl, nc, nd, nf, na, nz, no, ns, nv, np, ni, nn, nu, nt) 220 = if 7 < ni 2 then some 1 else some 0 := by
  rw [fRf_placesWrong]; simp [ixc2, ixc3]
theorem ad_220 {sh : Int32} {v3 : Nat} (hc4 : 4 ≤ c) (hc : c ≤ 24) (s1 : fI_shape (ib, nI c) = some sh) (s2 : fRf_shape (nm, nb, nl, nc, nd, nf, na, nz, 1, ns, nv, np, ni, nI c, nu, 0) = some sh) (s0 : sh ≠ 0) (s3 : sh = 3 → ib 4 = ni 4) (h0 : ib 0 = 128) (h0' : ni 0 = 128) (h1 : ni 1 = 220) (h2 : ib 2 = ni 2) (h3 : ib 3 = nI v3) (h3' : ni 3 = nI v3) (hv3 : v3 < 256) (hsel : (xs = -2 ∧ ns = -1) ∨ ∃ a : Nat, a < 4 ∧ xs = nI a ∧ ns = nI a) :
    (∃ st : Int32, st ≠ 36864 ∧ st ≠ -1 ∧ st ≠ 0 ∧ fA_admit (mc, nd, nf, mz, ib, nI c, xa, xg, 0, 1, xs, nv, np) 11 = some st ∧ fRf_refuse (nm, nb, nl, nc, nd, nf, na, nz, 1, ns, nv, np, ni, nI c, nu, 0) = some st) ∨ (fA_admit (mc, nd, nf, mz, ib, nI c, xa, xg, 0, 1, xs, nv, np) 11 = some 36864 ∧ fRf_refuse (nm, nb, nl, nc, nd, nf, na, nz, 1, ns, nv, np, ni, nI c, nu, 0) = some 0 ∧ sh = 3 ∧ ¬ 7 < ni 2 ∧ (∃ a : Nat, a < 4 ∧ xs = nI a ∧ ns = nI a)) := by
  have hno : ∀ st : Int32, st ≠ 36864 → st ≠ -1 → st ≠ 0 → (∃ st' : Int32, st' ≠ 36864 ∧ st' ≠ -1 ∧ st' ≠ 0 ∧ some st = some st' ∧ some st = some st') := fun st a1 a2 a3 => ⟨st, a1, a2, a3, rfl, rfl⟩
  rw [fA_admit, s1, bd1_eq, if_neg s0, fI_cc_eq, bd1_eq, h0, if_pos (show (128 : Int32) = 128 from rfl), if_neg (show ¬ (11 : Nat) = 12 by decide), bd1_eq, fI_lc_eq, bd1_eq, fE_takesForm, show tbS 11 = 3 from rfl, show tbL 11 = 0 from rfl,
    fRf_refuse, if_neg (show ¬ nI c ≤ (1 : Int32) from nI_ge (a := 1) (by omega) (by omega)), ixc1, s2, bd1_eq, if_neg s0, ixc0, h0', if_pos (show (128 : Int32) = 128 from rfl), h1, show fRf_known 220 = some 1 by decide +kernel, bd1_eq, if_neg h10, show fRf_shapeOf 220 = some 3 by decide +kernel, bd1_eq, lw_220, pw_220, show fRf_starred 220 = some 1 by decide +kernel]
  rcases (Decidable.em (sh = 3)).symm with g1 | g1
  · rw [if_neg g1, bd1_eq, if_pos z00, if_neg g1]; exact Or.inl (hno _ (by decide) (by decide) (by decide))
  rw [if_pos g1, if_pos g1]
  rw [if_pos z00, bd1_eq, if_neg h10, bd1_eq, if_pos z00]
  rw [fI_p1_eq, bd1_eq, fI_p2_eq, bd1_eq, fE_takesParameters, show tbP 11 = 7 from rfl, show tbQ 11 = 255 from rfl, h2, h3]
  by_cases g3 : 7 < ni 2
  · rw [if_pos g3, bd1_eq, if_pos z00, if_pos g3, bd1_eq, if_neg h10]; exact Or.inl (hno _ (by decide) (by decide) (by decide))
  rw [if_neg g3, if_neg g3]
  rw [if_neg (show ¬ (255 : Int32) < nI v3 from nI_nlt (a := 255) (by omega) (by omega)), bd1_eq, if_neg h10, bd1_eq, if_pos z00]
  rw [if_neg (show ¬ (220 : Int32) = 164 by decide), fE_isGuarded, bd1_eq, show tbG 11 = 1 from rfl, bd1_eq]
  rcases hsel with ⟨rfl, rfl⟩ | ⟨a, ha, rfl, rfl⟩
  · rw [if_pos (show (-2 : Int32) = -2 from rfl), if_neg (show ¬ (11 : Nat) = 0 by decide), if_neg (show ¬ (0 : Int32) ≤ -1 by decide)]; exact Or.inl (hno _ (by decide) (by decide) (by decide))
  rw [if_neg (nI_m2 (by omega)), if_pos (nI_pos' (by omega))]
  rw [if_neg (show ¬ (1 : Int32) = 0 by decide), if_neg (show ¬ (1 : Int32) = 0 by decide)]
  by_cases g5 : nv = 0
  · rw [if_pos g5, if_pos g5]; exact Or.inl (hno _ (by decide) (by decide) (by decide))
  rw [if_neg g5, if_neg g5]
  exact Or.inr ⟨rfl, rfl, g1, g3, a, ha, rfl, rfl⟩
end PADM
