theorem bd14_id (o : Option (Int32 × StX)) : (bd14 o fun x1 x2 x3 x4 x5 x6 x7 x8 x9 x10 x11 x12 x13 x14 => some (x1, x2, x3, x4, x5, x6, x7, x8, x9, x10, x11, x12, x13, x14)) = o := by cases o <;> rfl
theorem bd17_id (o : Option (Int32 × StR)) : (bd17 o fun x1 x2 x3 x4 x5 x6 x7 x8 x9 x10 x11 x12 x13 x14 x15 x16 x17 => some (x1, x2, x3, x4, x5, x6, x7, x8, x9, x10, x11, x12, x13, x14, x15, x16, x17)) = o := by cases o <;> rfl
section PRUN
variable {mc nm nb nl ni nu ib xa xg : Nat → Int32} {mw mf mz nc nd nf na nz no ns nv np nn nt ic xl xo xs xv xp a1 a2 a3 : Int32} {c k : Nat}
theorem pf_0 : fA_perform (mc, mw, mf, mz, ib, ic, xa, xg, xl, xo, xs, xv, xp) 0 = fA_select (mc, mw, mf, mz, ib, ic, xa, xg, xl, xo, xs, xv, xp) := by
  rw [fA_perform, ix_nI (show 0 < 13 by omega) (by decide), if_pos (show smT 0 = 1 from rfl)]
  simp only [bd14_id]
theorem pf_1 : fA_perform (mc, mw, mf, mz, ib, ic, xa, xg, xl, xo, xs, xv, xp) 1 = fA_verify (mc, mw, mf, mz, ib, ic, xa, xg, xl, xo, xs, xv, xp) := by
  rw [fA_perform, ix_nI (show 1 < 13 by omega) (by decide), if_neg (show ¬ smT 1 = 1 by decide), if_pos (show smT 1 = 2 from rfl)]
  simp only [bd14_id]
theorem pf_2 : fA_perform (mc, mw, mf, mz, ib, ic, xa, xg, xl, xo, xs, xv, xp) 2 = (bd1 (fA_secretPlace xs) fun r => fA_storePayload (mc, mw, mf, mz, ib, ic, xa, xg, xl, xo, xs, xv, xp) r) := by
  rw [fA_perform, ix_nI (show 2 < 13 by omega) (by decide), if_neg (show ¬ smT 2 = 1 by decide), if_neg (show ¬ smT 2 = 2 by decide), if_pos (show smT 2 = 3 from rfl)]
  simp only [bd14_id]
theorem pf_3 : fA_perform (mc, mw, mf, mz, ib, ic, xa, xg, xl, xo, xs, xv, xp) 3 = fA_unblock (mc, mw, mf, mz, ib, ic, xa, xg, xl, xo, xs, xv, xp) := by
  rw [fA_perform, ix_nI (show 3 < 13 by omega) (by decide), if_neg (show ¬ smT 3 = 1 by decide), if_neg (show ¬ smT 3 = 2 by decide), if_neg (show ¬ smT 3 = 3 by decide), if_pos (show smT 3 = 4 from rfl)]
  simp only [bd14_id]
theorem pf_4 : fA_perform (mc, mw, mf, mz, ib, ic, xa, xg, xl, xo, xs, xv, xp) 4 = fA_read (mc, mw, mf, mz, ib, ic, xa, xg, xl, xo, xs, xv, xp) := by
  rw [fA_perform, ix_nI (show 4 < 13 by omega) (by decide), if_neg (show ¬ smT 4 = 1 by decide), if_neg (show ¬ smT 4 = 2 by decide), if_neg (show ¬ smT 4 = 3 by decide), if_neg (show ¬ smT 4 = 4 by decide), if_pos (show smT 4 = 5 from rfl)]
  simp only [bd14_id]
theorem pf_5 : fA_perform (mc, mw, mf, mz, ib, ic, xa, xg, xl, xo, xs, xv, xp) 5 = fA_update (mc, mw, mf, mz, ib, ic, xa, xg, xl, xo, xs, xv, xp) := by
  rw [fA_perform, ix_nI (show 5 < 13 by omega) (by decide), if_neg (show ¬ smT 5 = 1 by decide), if_neg (show ¬ smT 5 = 2 by decide), if_neg (show ¬ smT 5 = 3 by decide), if_neg (show ¬ smT 5 = 4 by decide), if_neg (show ¬ smT 5 = 5 by decide), if_pos (show smT 5 = 6 from rfl)]
  simp only [bd14_id]
theorem pf_6 : fA_perform (mc, mw, mf, mz, ib, ic, xa, xg, xl, xo, xs, xv, xp) 6 = fA_begin (mc, mw, mf, mz, ib, ic, xa, xg, xl, xo, xs, xv, xp) := by
  rw [fA_perform, ix_nI (show 6 < 13 by omega) (by decide), if_neg (show ¬ smT 6 = 1 by decide), if_neg (show ¬ smT 6 = 2 by decide), if_neg (show ¬ smT 6 = 3 by decide), if_neg (show ¬ smT 6 = 4 by decide), if_neg (show ¬ smT 6 = 5 by decide), if_neg (show ¬ smT 6 = 6 by decide), if_pos (show smT 6 = 7 from rfl)]
  simp only [bd14_id]
theorem pf_7 : fA_perform (mc, mw, mf, mz, ib, ic, xa, xg, xl, xo, xs, xv, xp) 7 = fA_end (mc, mw, mf, mz, ib, ic, xa, xg, xl, xo, xs, xv, xp) := by
  rw [fA_perform, ix_nI (show 7 < 13 by omega) (by decide), if_neg (show ¬ smT 7 = 1 by decide), if_neg (show ¬ smT 7 = 2 by decide), if_neg (show ¬ smT 7 = 3 by decide), if_neg (show ¬ smT 7 = 4 by decide), if_neg (show ¬ smT 7 = 5 by decide), if_neg (show ¬ smT 7 = 6 by decide), if_neg (show ¬ smT 7 = 7 by decide), if_pos (show smT 7 = 8 from rfl)]
  simp only [bd14_id]
theorem pf_8 : fA_perform (mc, mw, mf, mz, ib, ic, xa, xg, xl, xo, xs, xv, xp) 8 = fA_grant (mc, mw, mf, mz, ib, ic, xa, xg, xl, xo, xs, xv, xp) := by
  rw [fA_perform, ix_nI (show 8 < 13 by omega) (by decide), if_neg (show ¬ smT 8 = 1 by decide), if_neg (show ¬ smT 8 = 2 by decide), if_neg (show ¬ smT 8 = 3 by decide), if_neg (show ¬ smT 8 = 4 by decide), if_neg (show ¬ smT 8 = 5 by decide), if_neg (show ¬ smT 8 = 6 by decide), if_neg (show ¬ smT 8 = 7 by decide), if_neg (show ¬ smT 8 = 8 by decide), if_pos (show smT 8 = 9 from rfl)]
  simp only [bd14_id]
theorem pf_9 : fA_perform (mc, mw, mf, mz, ib, ic, xa, xg, xl, xo, xs, xv, xp) 9 = fA_revoke (mc, mw, mf, mz, ib, ic, xa, xg, xl, xo, xs, xv, xp) := by
  rw [fA_perform, ix_nI (show 9 < 13 by omega) (by decide), if_neg (show ¬ smT 9 = 1 by decide), if_neg (show ¬ smT 9 = 2 by decide), if_neg (show ¬ smT 9 = 3 by decide), if_neg (show ¬ smT 9 = 4 by decide), if_neg (show ¬ smT 9 = 5 by decide), if_neg (show ¬ smT 9 = 6 by decide), if_neg (show ¬ smT 9 = 7 by decide), if_neg (show ¬ smT 9 = 8 by decide), if_neg (show ¬ smT 9 = 9 by decide), if_pos (show smT 9 = 10 from rfl)]
  simp only [bd14_id]
theorem pf_10 : fA_perform (mc, mw, mf, mz, ib, ic, xa, xg, xl, xo, xs, xv, xp) 10 = fA_readShared (mc, mw, mf, mz, ib, ic, xa, xg, xl, xo, xs, xv, xp) := by
  rw [fA_perform, ix_nI (show 10 < 13 by omega) (by decide), if_neg (show ¬ smT 10 = 1 by decide), if_neg (show ¬ smT 10 = 2 by decide), if_neg (show ¬ smT 10 = 3 by decide), if_neg (show ¬ smT 10 = 4 by decide), if_neg (show ¬ smT 10 = 5 by decide), if_neg (show ¬ smT 10 = 6 by decide), if_neg (show ¬ smT 10 = 7 by decide), if_neg (show ¬ smT 10 = 8 by decide), if_neg (show ¬ smT 10 = 9 by decide), if_neg (show ¬ smT 10 = 10 by decide), if_pos (show smT 10 = 11 from rfl)]
  simp only [bd14_id]
theorem pf_11 : fA_perform (mc, mw, mf, mz, ib, ic, xa, xg, xl, xo, xs, xv, xp) 11 = fA_updateShared (mc, mw, mf, mz, ib, ic, xa, xg, xl, xo, xs, xv, xp) := by
  rw [fA_perform, ix_nI (show 11 < 13 by omega) (by decide), if_neg (show ¬ smT 11 = 1 by decide), if_neg (show ¬ smT 11 = 2 by decide), if_neg (show ¬ smT 11 = 3 by decide), if_neg (show ¬ smT 11 = 4 by decide), if_neg (show ¬ smT 11 = 5 by decide), if_neg (show ¬ smT 11 = 6 by decide), if_neg (show ¬ smT 11 = 7 by decide), if_neg (show ¬ smT 11 = 8 by decide), if_neg (show ¬ smT 11 = 9 by decide), if_neg (show ¬ smT 11 = 10 by decide), if_neg (show ¬ smT 11 = 11 by decide), if_pos (show smT 11 = 12 from rfl)]
  simp only [bd14_id]
theorem cr_164 : fRf_carry (nm, nb, nl, nc, nd, nf, na, nz, no, ns, nv, np, ni, nn, nu, nt) 164 a2 a3 = fRf_select (nm, nb, nl, nc, nd, nf, na, nz, no, ns, nv, np, ni, nn, nu, nt) (ni 5) := by
  rw [fRf_carry, if_neg (show ¬ (164 : Int32) = 32 by decide), if_neg (show ¬ (164 : Int32) = 36 by decide), if_neg (show ¬ (164 : Int32) = 44 by decide), if_neg (show ¬ (164 : Int32) = 112 by decide), if_neg (show ¬ (164 : Int32) = 114 by decide), if_pos (show (164 : Int32) = 164 from rfl)]
  simp only [bd17_id, ixc5]
theorem cr_32 : fRf_carry (nm, nb, nl, nc, nd, nf, na, nz, no, ns, nv, np, ni, nn, nu, nt) 32 a2 a3 = fRf_verify (nm, nb, nl, nc, nd, nf, na, nz, no, ns, nv, np, ni, nn, nu, nt) := by
  rw [fRf_carry, if_pos (show (32 : Int32) = 32 from rfl)]
  simp only [bd17_id]
theorem cr_36 : fRf_carry (nm, nb, nl, nc, nd, nf, na, nz, no, ns, nv, np, ni, nn, nu, nt) 36 a2 a3 = fRf_store (nm, nb, nl, nc, nd, nf, na, nz, no, ns, nv, np, ni, nn, nu, nt) (64 + 2 * ns) 2 := by
  rw [fRf_carry, if_neg (show ¬ (36 : Int32) = 32 by decide), if_pos (show (36 : Int32) = 36 from rfl)]
  simp only [bd17_id]
theorem cr_44 : fRf_carry (nm, nb, nl, nc, nd, nf, na, nz, no, ns, nv, np, ni, nn, nu, nt) 44 a2 a3 = fRf_unblock (nm, nb, nl, nc, nd, nf, na, nz, no, ns, nv, np, ni, nn, nu, nt) a2 := by
  rw [fRf_carry, if_neg (show ¬ (44 : Int32) = 32 by decide), if_neg (show ¬ (44 : Int32) = 36 by decide), if_pos (show (44 : Int32) = 44 from rfl)]
  simp only [bd17_id]
theorem cr_176 : fRf_carry (nm, nb, nl, nc, nd, nf, na, nz, no, ns, nv, np, ni, nn, nu, nt) 176 a2 a3 = fRf_read (nm, nb, nl, nc, nd, nf, na, nz, no, ns, nv, np, ni, nn, nu, nt) (16 * ns) a3 16 := by
  rw [fRf_carry, if_neg (show ¬ (176 : Int32) = 32 by decide), if_neg (show ¬ (176 : Int32) = 36 by decide), if_neg (show ¬ (176 : Int32) = 44 by decide), if_neg (show ¬ (176 : Int32) = 112 by decide), if_neg (show ¬ (176 : Int32) = 114 by decide), if_neg (show ¬ (176 : Int32) = 164 by decide), if_pos (show (176 : Int32) = 176 from rfl)]
  simp only [bd17_id]
theorem cr_214 : fRf_carry (nm, nb, nl, nc, nd, nf, na, nz, no, ns, nv, np, ni, nn, nu, nt) 214 a2 a3 = (ix 4 24 fun j9 => if a3 + ni j9 ≤ 16 then (ix 4 24 fun j10 => fRf_store (nm, nb, nl, nc, nd, nf, na, nz, no, ns, nv, np, ni, nn, nu, nt) (16 * ns + a3) (ni j10)) else some (27392, nm, nb, nl, nc, nd, nf, na, nz, no, ns, nv, np, ni, nn, nu, nt)) := by
  rw [fRf_carry, if_neg (show ¬ (214 : Int32) = 32 by decide), if_neg (show ¬ (214 : Int32) = 36 by decide), if_neg (show ¬ (214 : Int32) = 44 by decide), if_neg (show ¬ (214 : Int32) = 112 by decide), if_neg (show ¬ (214 : Int32) = 114 by decide), if_neg (show ¬ (214 : Int32) = 164 by decide), if_neg (show ¬ (214 : Int32) = 176 by decide), if_pos (show (214 : Int32) = 214 from rfl)]
  simp only [bd17_id, ixc4]
theorem cr_112 : fRf_carry (nm, nb, nl, nc, nd, nf, na, nz, no, ns, nv, np, ni, nn, nu, nt) 112 a2 a3 = fRf_begin (nm, nb, nl, nc, nd, nf, na, nz, no, ns, nv, np, ni, nn, nu, nt) := by
  rw [fRf_carry, if_neg (show ¬ (112 : Int32) = 32 by decide), if_neg (show ¬ (112 : Int32) = 36 by decide), if_neg (show ¬ (112 : Int32) = 44 by decide), if_pos (show (112 : Int32) = 112 from rfl)]
  simp only [bd17_id]
theorem cr_114 : fRf_carry (nm, nb, nl, nc, nd, nf, na, nz, no, ns, nv, np, ni, nn, nu, nt) 114 a2 a3 = fRf_end (nm, nb, nl, nc, nd, nf, na, nz, no, ns, nv, np, ni, nn, nu, nt) a2 := by
  rw [fRf_carry, if_neg (show ¬ (114 : Int32) = 32 by decide), if_neg (show ¬ (114 : Int32) = 36 by decide), if_neg (show ¬ (114 : Int32) = 44 by decide), if_neg (show ¬ (114 : Int32) = 112 by decide), if_pos (show (114 : Int32) = 114 from rfl)]
  simp only [bd17_id]
theorem cr_226 : fRf_carry (nm, nb, nl, nc, nd, nf, na, nz, no, ns, nv, np, ni, nn, nu, nt) 226 a2 a3 = fRf_grant (nm, nb, nl, nc, nd, nf, na, nz, no, ns, nv, np, ni, nn, nu, nt) a2 := by
  rw [fRf_carry, if_neg (show ¬ (226 : Int32) = 32 by decide), if_neg (show ¬ (226 : Int32) = 36 by decide), if_neg (show ¬ (226 : Int32) = 44 by decide), if_neg (show ¬ (226 : Int32) = 112 by decide), if_neg (show ¬ (226 : Int32) = 114 by decide), if_neg (show ¬ (226 : Int32) = 164 by decide), if_neg (show ¬ (226 : Int32) = 176 by decide), if_neg (show ¬ (226 : Int32) = 214 by decide), if_pos (show (226 : Int32) = 226 from rfl)]
  simp only [bd17_id]
theorem cr_228 : fRf_carry (nm, nb, nl, nc, nd, nf, na, nz, no, ns, nv, np, ni, nn, nu, nt) 228 a2 a3 = fRf_shared (nm, nb, nl, nc, nd, nf, na, nz, no, ns, nv, np, ni, nn, nu, nt) 228 (72 + 4 * a2) a3 := by
  rw [fRf_carry, if_neg (show ¬ (228 : Int32) = 32 by decide), if_neg (show ¬ (228 : Int32) = 36 by decide), if_neg (show ¬ (228 : Int32) = 44 by decide), if_neg (show ¬ (228 : Int32) = 112 by decide), if_neg (show ¬ (228 : Int32) = 114 by decide), if_neg (show ¬ (228 : Int32) = 164 by decide), if_neg (show ¬ (228 : Int32) = 176 by decide), if_neg (show ¬ (228 : Int32) = 214 by decide), if_neg (show ¬ (228 : Int32) = 226 by decide)]
  simp only [bd17_id]
theorem cr_178 : fRf_carry (nm, nb, nl, nc, nd, nf, na, nz, no, ns, nv, np, ni, nn, nu, nt) 178 a2 a3 = fRf_shared (nm, nb, nl, nc, nd, nf, na, nz, no, ns, nv, np, ni, nn, nu, nt) 178 (72 + 4 * a2) a3 := by
  rw [fRf_carry, if_neg (show ¬ (178 : Int32) = 32 by decide), if_neg (show ¬ (178 : Int32) = 36 by decide), if_neg (show ¬ (178 : Int32) = 44 by decide), if_neg (show ¬ (178 : Int32) = 112 by decide), if_neg (show ¬ (178 : Int32) = 114 by decide), if_neg (show ¬ (178 : Int32) = 164 by decide), if_neg (show ¬ (178 : Int32) = 176 by decide), if_neg (show ¬ (178 : Int32) = 214 by decide), if_neg (show ¬ (178 : Int32) = 226 by decide)]
  simp only [bd17_id]
theorem cr_220 : fRf_carry (nm, nb, nl, nc, nd, nf, na, nz, no, ns, nv, np, ni, nn, nu, nt) 220 a2 a3 = fRf_shared (nm, nb, nl, nc, nd, nf, na, nz, no, ns, nv, np, ni, nn, nu, nt) 220 (72 + 4 * a2) a3 := by
  rw [fRf_carry, if_neg (show ¬ (220 : Int32) = 32 by decide), if_neg (show ¬ (220 : Int32) = 36 by decide), if_neg (show ¬ (220 : Int32) = 44 by decide), if_neg (show ¬ (220 : Int32) = 112 by decide), if_neg (show ¬ (220 : Int32) = 114 by decide), if_neg (show ¬ (220 : Int32) = 164 by decide), if_neg (show ¬ (220 : Int32) = 176 by decide), if_neg (show ¬ (220 : Int32) = 214 by decide), if_neg (show ¬ (220 : Int32) = 226 by decide)]
  simp only [bd17_id]
theorem fin {r x2 x3 x4 x6 x9 x10 x11 x12 x13 y4 y5 y6 y7 y8 y9 y10 y11 y12 y14 y16 : Int32} {x1 x5 x7 x8 y1 y2 y3 y13 y15 : Nat → Int32} (h : nEND r (x1, x2, x3, x4, x5, x6, x7, x8, x9, x10, x11, x12, x13) (y1, y2, y3, y4, y5, y6, y7, y8, y9, y10, y11, y12, y13, y14, y15, y16)) :
    ∃ (x' : StX) (m' : StR), (bd2 (fI_clear (x5, x6)) fun ib10 ic10 => if r = (-1) then (bd13 (fA_switchOff (x1, x2, x3, x4, ib10, ic10, x7, x8, x9, x10, x11, x12, x13)) fun z1 z2 z3 z4 z5 z6 z7 z8 z9 z10 z11 z12 z13 => some (r, z1, z2, z3, z4, z5, z6, z7, z8, z9, z10, z11, z12, z13)) else (some (r, x1, x2, x3, x4, ib10, ic10, x7, x8, x9, x10, x11, x12, x13))) = some (r, x') ∧
      (if r = 36864 then (some (r, y1, y2, y3, y4, y5, y6, y7, y8, y9, y10, y11, y12, y13, (0 : Int32), y15, y16)) else (some (r, y1, y2, y3, y4, y5, y6, y7, y8, y9, y10, y11, y12, y13, 0, y15, 0))) = some (r, m') ∧ nREL x' m' := by
  rw [fI_clear, bd2_eq]
  rcases h with ⟨hr, k, hM, e1, e2, e3, e4, e5⟩ | ⟨hr, k, t, hM, hN, ht, e1, e2, e3⟩
  · rw [if_pos hr, fA_switchOff, fI_clear, bd2_eq, bd13_eq, if_neg (by rw [hr]; decide)]
    obtain ⟨m1, m2, m3, m4, m5, m6, m7, m8⟩ := hM
    have n1 : x2 = y5 := m1
    have n2 : x3 = y6 := m2
    have n3 : nRF x4 y7 y8 := m3
    have n4 : nTR x1 y3 := m4
    have n5 : nNT x1 k := m5
    have n6 : y4 = nI k := m6
    have n7 : nUB x1 k (nBS k y1 y2) := m7
    have n8 : nV (nBS k y1 y2) := m8
    have f1 : y9 = 0 := e1
    have f2 : y10 = -1 := e2
    have f3 : y11 = 0 := e3
    have f4 : y12 = 0 := e4
    clear m1 m2 m3 m4 m5 m6 m7 m8 e1 e2 e3 e4 e5
    refine ⟨_, _, rfl, rfl, ?_⟩
    exact ⟨k, 0, 0, ⟨n1, n2, n3, n4, n5, n6, n7, n8⟩, ⟨by omega, rfl, rfl, fun j hj => by omega⟩, ⟨by omega, rfl, rfl, fun j hj => by omega⟩, Or.inr ⟨rfl, f1, rfl, f2, rfl, f3, rfl, f4, rfl, rfl⟩⟩
  · rw [if_neg hr]
    obtain ⟨m1, m2, m3, m4, m5, m6, m7, m8⟩ := hM
    have n1 : x2 = y5 := m1
    have n2 : x3 = y6 := m2
    have n3 : nRF x4 y7 y8 := m3
    have n4 : nTR x1 y3 := m4
    have n5 : nNT x1 k := m5
    have n6 : y4 = nI k := m6
    have n7 : nUB x1 k (nBS k y1 y2) := m7
    have n8 : nV (nBS k y1 y2) := m8
    obtain ⟨o1, o2, o3, o4, o5, o6, o7, o8, o9, o10⟩ := hN
    have p1 : x10 = 1 := o1
    have p2 : y9 = 1 := o2
    have p3 : x12 = y11 := o3
    have p4 : y11 = 0 ∨ y11 = 1 := o4
    have p5 : x13 = y12 := o5
    have p6 : y12 = 0 ∨ y12 = 1 := o6
    have p7 : nLE x1 y1 := o7
    have p8 : nV y1 := o8
    have p9 : y12 = 0 → k = 0 := o9
    have p10 : (x11 = -2 ∧ y10 = -1) ∨ ∃ a : Nat, a < 4 ∧ x11 = nI a ∧ y10 = nI a := o10
    have f1 : x9 = nI t := e1
    have f2 : r = 36864 → y16 = nI t ∧ ∀ j, j < t → x7 j = y15 j := e2
    clear m1 m2 m3 m4 m5 m6 m7 m8 o1 o2 o3 o4 o5 o6 o7 o8 o9 o10 e1 e2
    by_cases hd : r = 36864
    · rw [if_pos hd]
      obtain ⟨g1, g2⟩ := f2 hd
      refine ⟨_, _, rfl, rfl, ?_⟩
      exact ⟨k, 0, t, ⟨n1, n2, n3, n4, n5, n6, n7, n8⟩, ⟨by omega, rfl, rfl, fun j hj => by omega⟩, ⟨ht, f1, g1, g2⟩, Or.inl ⟨p1, p2, p3, p4, p5, p6, p7, p8, p9, p10⟩⟩
    · rw [if_neg hd]
      have ht0 := e3 hd
      subst ht0
      refine ⟨_, _, rfl, rfl, ?_⟩
      exact ⟨k, 0, 0, ⟨n1, n2, n3, n4, n5, n6, n7, n8⟩, ⟨by omega, rfl, rfl, fun j hj => by omega⟩, ⟨ht, f1, rfl, fun j hj => by omega⟩, Or.inl ⟨p1, p2, p3, p4, p5, p6, p7, p8, p9, p10⟩⟩
end PRUN
