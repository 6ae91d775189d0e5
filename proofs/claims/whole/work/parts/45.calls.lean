theorem h10 : ¬ (1 : Int32) = 0 := by decide
theorem z00 : (0 : Int32) = 0 := rfl
theorem phlo {j : Nat} (h : j < 72) : ph j = j := by unfold ph; rw [if_pos h]
theorem phhi {j : Nat} (h : 72 ≤ j) : ph j = j + 4 := by unfold ph; rw [if_neg (by omega)]
theorem nI_m2 {a : Nat} (h : a < 2 ^ 31) : ¬ nI a = -2 := fun e => by
  have e := congrArg Int32.toInt e
  rw [nI_toInt h] at e
  have e2 : (-2 : Int32).toInt = -2 := rfl
  omega
theorem nI_m1 {a : Nat} (h : a < 2 ^ 31) : ¬ nI a = -1 := fun e => by
  have e := congrArg Int32.toInt e
  rw [nI_toInt h] at e
  have e2 : (-1 : Int32).toInt = -1 := rfl
  omega
theorem iv {x : Int32} {a b : Nat} (ha : a < 2 ^ 31) (hb : b < 2 ^ 31) (h1 : ¬ x < nI a) (h2 : ¬ nI b < x) : ∃ j, a ≤ j ∧ j ≤ b ∧ x = nI j := by
  obtain ⟨j, hj, rfl⟩ := nI_of (x := x) (fun h => h1 (Int32.lt_iff_toInt_lt.mpr (by
    have h3 := Int32.lt_iff_toInt_lt.mp h
    rw [nI_toInt ha]
    have e : (0 : Int32).toInt = 0 := rfl
    omega)))
  refine ⟨j, ?_, ?_, rfl⟩
  · rcases Nat.lt_or_ge j a with h | h
    · exact absurd (nI_lt h ha) h1
    · exact h
  · rcases Nat.lt_or_ge b j with h | h
    · exact absurd (nI_lt h hj) h2
    · exact h
section PCALL
variable {x : StX} {m : StR}
theorem p_waiting (h : nREL x m) : ∃ r, fA_waiting x = some r ∧ fRf_waiting m = some r := by
  have h0 := h
  obtain ⟨mc, mw, mf, mz, ib, ic, xa, xg, xl, xo, xs, xv, xp⟩ := x
  obtain ⟨nm, nb, nl, nc, nd, nf, na, nz, no, ns, nv, np, ni, nn, nu, nt⟩ := m
  obtain ⟨k, c, t, ⟨e1, e2, gF, gT, gN, e3, gU, gV⟩, ⟨hc, e4, e5, gb⟩, ⟨ht, e6, e7, go⟩, hS⟩ := h
  have f1 : nd = mw := e1.symm
  have f2 : nf = mf := e2.symm
  have f3 : nc = nI k := e3
  have f4 : ic = nI c := e4
  have f5 : nn = nI c := e5
  have f6 : xl = nI t := e6
  have f7 : nt = nI t := e7
  clear e1 e2 e3 e4 e5 e6 e7
  subst f1; subst f2; subst f3; subst f4; subst f5; subst f6; subst f7
  have hF : nRF mz na nz := gF
  have hT : nTR mc nl := gT
  have hN : nNT mc k := gN
  have hU : nUB mc k (nBS k nm nb) := gU
  have hV : nV (nBS k nm nb) := gV
  have hby : ∀ j, j < c → ib j = ni j ∧ ∃ v : Nat, v < 256 ∧ ni j = nI v := gb
  have hou : ∀ j, j < t → xa j = nu j := go
  clear gF gT gN gU gV gb go
  rw [fA_waiting, fI_size, bd1_eq, fRf_waiting]
  exact ⟨_, rfl, rfl⟩
theorem p_length (h : nREL x m) : ∃ r, fA_length x = some r ∧ fRf_length m = some r := by
  have h0 := h
  obtain ⟨mc, mw, mf, mz, ib, ic, xa, xg, xl, xo, xs, xv, xp⟩ := x
  obtain ⟨nm, nb, nl, nc, nd, nf, na, nz, no, ns, nv, np, ni, nn, nu, nt⟩ := m
  obtain ⟨k, c, t, ⟨e1, e2, gF, gT, gN, e3, gU, gV⟩, ⟨hc, e4, e5, gb⟩, ⟨ht, e6, e7, go⟩, hS⟩ := h
  have f1 : nd = mw := e1.symm
  have f2 : nf = mf := e2.symm
  have f3 : nc = nI k := e3
  have f4 : ic = nI c := e4
  have f5 : nn = nI c := e5
  have f6 : xl = nI t := e6
  have f7 : nt = nI t := e7
  clear e1 e2 e3 e4 e5 e6 e7
  subst f1; subst f2; subst f3; subst f4; subst f5; subst f6; subst f7
  have hF : nRF mz na nz := gF
  have hT : nTR mc nl := gT
  have hN : nNT mc k := gN
  have hU : nUB mc k (nBS k nm nb) := gU
  have hV : nV (nBS k nm nb) := gV
  have hby : ∀ j, j < c → ib j = ni j ∧ ∃ v : Nat, v < 256 ∧ ni j = nI v := gb
  have hou : ∀ j, j < t → xa j = nu j := go
  clear gF gT gN gU gV gb go
  rw [fA_length, fRf_length]
  exact ⟨_, rfl, rfl⟩
theorem p_writes (h : nREL x m) : ∃ r, fA_writes x = some r ∧ fRf_writes m = some r := by
  have h0 := h
  obtain ⟨mc, mw, mf, mz, ib, ic, xa, xg, xl, xo, xs, xv, xp⟩ := x
  obtain ⟨nm, nb, nl, nc, nd, nf, na, nz, no, ns, nv, np, ni, nn, nu, nt⟩ := m
  obtain ⟨k, c, t, ⟨e1, e2, gF, gT, gN, e3, gU, gV⟩, ⟨hc, e4, e5, gb⟩, ⟨ht, e6, e7, go⟩, hS⟩ := h
  have f1 : nd = mw := e1.symm
  have f2 : nf = mf := e2.symm
  have f3 : nc = nI k := e3
  have f4 : ic = nI c := e4
  have f5 : nn = nI c := e5
  have f6 : xl = nI t := e6
  have f7 : nt = nI t := e7
  clear e1 e2 e3 e4 e5 e6 e7
  subst f1; subst f2; subst f3; subst f4; subst f5; subst f6; subst f7
  have hF : nRF mz na nz := gF
  have hT : nTR mc nl := gT
  have hN : nNT mc k := gN
  have hU : nUB mc k (nBS k nm nb) := gU
  have hV : nV (nBS k nm nb) := gV
  have hby : ∀ j, j < c → ib j = ni j ∧ ∃ v : Nat, v < 256 ∧ ni j = nI v := gb
  have hou : ∀ j, j < t → xa j = nu j := go
  clear gF gT gN gU gV gb go
  rw [fA_writes, fM_written, bd1_eq, fRf_writes]
  exact ⟨_, rfl, rfl⟩
theorem p_failures (h : nREL x m) : ∃ r, fA_failures x = some r ∧ fRf_failures m = some r := by
  have h0 := h
  obtain ⟨mc, mw, mf, mz, ib, ic, xa, xg, xl, xo, xs, xv, xp⟩ := x
  obtain ⟨nm, nb, nl, nc, nd, nf, na, nz, no, ns, nv, np, ni, nn, nu, nt⟩ := m
  obtain ⟨k, c, t, ⟨e1, e2, gF, gT, gN, e3, gU, gV⟩, ⟨hc, e4, e5, gb⟩, ⟨ht, e6, e7, go⟩, hS⟩ := h
  have f1 : nd = mw := e1.symm
  have f2 : nf = mf := e2.symm
  have f3 : nc = nI k := e3
  have f4 : ic = nI c := e4
  have f5 : nn = nI c := e5
  have f6 : xl = nI t := e6
  have f7 : nt = nI t := e7
  clear e1 e2 e3 e4 e5 e6 e7
  subst f1; subst f2; subst f3; subst f4; subst f5; subst f6; subst f7
  have hF : nRF mz na nz := gF
  have hT : nTR mc nl := gT
  have hN : nNT mc k := gN
  have hU : nUB mc k (nBS k nm nb) := gU
  have hV : nV (nBS k nm nb) := gV
  have hby : ∀ j, j < c → ib j = ni j ∧ ∃ v : Nat, v < 256 ∧ ni j = nI v := gb
  have hou : ∀ j, j < t → xa j = nu j := go
  clear gF gT gN gU gV gb go
  rw [fA_failures, fM_failed, bd1_eq, fRf_failures]
  exact ⟨_, rfl, rfl⟩
theorem p_response (h : nREL x m) (a : Int32) : ∃ r, fA_response x a = some r ∧ fRf_response m a = some r := by
  have h0 := h
  obtain ⟨mc, mw, mf, mz, ib, ic, xa, xg, xl, xo, xs, xv, xp⟩ := x
  obtain ⟨nm, nb, nl, nc, nd, nf, na, nz, no, ns, nv, np, ni, nn, nu, nt⟩ := m
  obtain ⟨k, c, t, ⟨e1, e2, gF, gT, gN, e3, gU, gV⟩, ⟨hc, e4, e5, gb⟩, ⟨ht, e6, e7, go⟩, hS⟩ := h
  have f1 : nd = mw := e1.symm
  have f2 : nf = mf := e2.symm
  have f3 : nc = nI k := e3
  have f4 : ic = nI c := e4
  have f5 : nn = nI c := e5
  have f6 : xl = nI t := e6
  have f7 : nt = nI t := e7
  clear e1 e2 e3 e4 e5 e6 e7
  subst f1; subst f2; subst f3; subst f4; subst f5; subst f6; subst f7
  have hF : nRF mz na nz := gF
  have hT : nTR mc nl := gT
  have hN : nNT mc k := gN
  have hU : nUB mc k (nBS k nm nb) := gU
  have hV : nV (nBS k nm nb) := gV
  have hby : ∀ j, j < c → ib j = ni j ∧ ∃ v : Nat, v < 256 ∧ ni j = nI v := gb
  have hou : ∀ j, j < t → xa j = nu j := go
  clear gF gT gN gU gV gb go
  rw [fA_response, fRf_response]
  by_cases h1 : a < 0
  · rw [if_pos h1, if_pos h1]; exact ⟨_, rfl, rfl⟩
  · rw [if_neg h1, if_neg h1]
    by_cases h2 : a < nI t
    · rw [if_pos h2, if_pos h2]
      obtain ⟨j, hj, rfl⟩ := nI_of h1
      have h3 : j < t := (nI_ltI hj (by omega)).mp h2
      rw [ix_nI (by omega) (by decide), ix_nI (by omega) (by decide), hou j h3]
      exact ⟨_, rfl, rfl⟩
    · rw [if_neg h2, if_neg h2]; exact ⟨_, rfl, rfl⟩
theorem p_tear (h : nREL x m) (a : Int32) : ∃ r x' m', fA_tear x a = some (r, x') ∧ fRf_tear m a = some (r, m') ∧ nREL x' m' := by
  have h0 := h
  obtain ⟨mc, mw, mf, mz, ib, ic, xa, xg, xl, xo, xs, xv, xp⟩ := x
  obtain ⟨nm, nb, nl, nc, nd, nf, na, nz, no, ns, nv, np, ni, nn, nu, nt⟩ := m
  obtain ⟨k, c, t, ⟨e1, e2, gF, gT, gN, e3, gU, gV⟩, ⟨hc, e4, e5, gb⟩, ⟨ht, e6, e7, go⟩, hS⟩ := h
  have f1 : nd = mw := e1.symm
  have f2 : nf = mf := e2.symm
  have f3 : nc = nI k := e3
  have f4 : ic = nI c := e4
  have f5 : nn = nI c := e5
  have f6 : xl = nI t := e6
  have f7 : nt = nI t := e7
  clear e1 e2 e3 e4 e5 e6 e7
  subst f1; subst f2; subst f3; subst f4; subst f5; subst f6; subst f7
  have hF : nRF mz na nz := gF
  have hT : nTR mc nl := gT
  have hN : nNT mc k := gN
  have hU : nUB mc k (nBS k nm nb) := gU
  have hV : nV (nBS k nm nb) := gV
  have hby : ∀ j, j < c → ib j = ni j ∧ ∃ v : Nat, v < 256 ∧ ni j = nI v := gb
  have hou : ∀ j, j < t → xa j = nu j := go
  clear gF gT gN gU gV gb go
  rw [fA_tear, fRf_tear]
  by_cases h1 : a < 0
  · rw [if_pos h1, if_pos h1]; exact ⟨_, _, _, rfl, rfl, h0⟩
  · rw [if_neg h1, if_neg h1]
    by_cases h2 : 1000 < a
    · rw [if_pos h2, if_pos h2]; exact ⟨_, _, _, rfl, rfl, h0⟩
    · rw [if_neg h2, if_neg h2, fM_failed, bd1_eq]
      by_cases h3 : nf < 40
      · rw [if_pos h3, if_pos h3, fM_arm, bd4_eq]
        exact ⟨_, _, _, rfl, rfl, k, c, t, ⟨rfl, rfl, Or.inr ⟨rfl, rfl, Int32.not_lt.mp h1⟩, hT, hN, rfl, hU, hV⟩, ⟨hc, rfl, rfl, hby⟩, ⟨ht, rfl, rfl, hou⟩, hS⟩
      · rw [if_neg h3, if_neg h3]; exact ⟨_, _, _, rfl, rfl, h0⟩
theorem p_reset (h : nREL x m) : ∃ r x' m', fA_reset x = some (r, x') ∧ fRf_reset m = some (r, m') ∧ nREL x' m' := by
  have h0 := h
  obtain ⟨mc, mw, mf, mz, ib, ic, xa, xg, xl, xo, xs, xv, xp⟩ := x
  obtain ⟨nm, nb, nl, nc, nd, nf, na, nz, no, ns, nv, np, ni, nn, nu, nt⟩ := m
  obtain ⟨k, c, t, ⟨e1, e2, gF, gT, gN, e3, gU, gV⟩, ⟨hc, e4, e5, gb⟩, ⟨ht, e6, e7, go⟩, hS⟩ := h
  have f1 : nd = mw := e1.symm
  have f2 : nf = mf := e2.symm
  have f3 : nc = nI k := e3
  have f4 : ic = nI c := e4
  have f5 : nn = nI c := e5
  have f6 : xl = nI t := e6
  have f7 : nt = nI t := e7
  clear e1 e2 e3 e4 e5 e6 e7
  subst f1; subst f2; subst f3; subst f4; subst f5; subst f6; subst f7
  have hF : nRF mz na nz := gF
  have hT : nTR mc nl := gT
  have hN : nNT mc k := gN
  have hU : nUB mc k (nBS k nm nb) := gU
  have hV : nV (nBS k nm nb) := gV
  have hby : ∀ j, j < c → ib j = ni j ∧ ∃ v : Nat, v < 256 ∧ ni j = nI v := gb
  have hou : ∀ j, j < t → xa j = nu j := go
  clear gF gT gN gU gV gb go
  rw [fA_reset, fA_switchOff, fI_clear, bd2_eq, bd13_eq, fM_count_eq, bd1_eq, fRf_reset, fRf_forget, bd16_eq, hN.2.1]
  have hk := hN.1
  rcases upair (b := nBS k nm nb) (nd := nd) (nf := nf) (nm := nm) (nb := nb) (no := 1) (ns := -1) (nv := 0) (np := 0) (ni := ni) (nn := 0) (nu := nu) (nt := 0) hN hU (fun _ _ => rfl) hT hF with ⟨mc', w, z', hk1, e1, e2, q1, q2, q3⟩ | ⟨mc', nm', w, z, z', q0, e1, e2, q1, q2, q3, q4⟩
  · rw [e1, bd5_eq, if_pos rfl, fA_switchOff, fI_clear, bd2_eq, bd13_eq, e2, bd17_eq, if_pos rfl]
    exact ⟨_, _, _, rfl, rfl, k, 0, 0, ⟨rfl, rfl, Or.inl ⟨rfl, rfl⟩, q3, q1, rfl, q2, hV⟩, ⟨by omega, rfl, rfl, fun j hj => by omega⟩, ⟨by omega, rfl, rfl, fun j hj => by omega⟩, Or.inr ⟨rfl, rfl, rfl, rfl, rfl, rfl, rfl, rfl, rfl, rfl⟩⟩
  · rw [e1, bd5_eq, if_neg (by decide), e2, bd17_eq, if_neg (by decide)]
    have hV' : nV nm' := nV_congr (fun j _ h2 => q4 j h2) hV
    exact ⟨_, _, _, rfl, rfl, 0, 0, 0, ⟨rfl, rfl, q0, q2, ⟨by omega, q1, fun i hi => by omega⟩, rfl, fun j hj => by rw [uu_0]; exact q3 j hj, hV'⟩, ⟨by omega, rfl, rfl, fun j hj => by omega⟩, ⟨by omega, rfl, rfl, fun j hj => by omega⟩, Or.inl ⟨rfl, rfl, rfl, Or.inl rfl, rfl, Or.inl rfl, q3, hV', fun _ => rfl, Or.inl ⟨rfl, rfl⟩⟩⟩
theorem isA_no {a : Int32} (h : a < 0) : fA_isApplet a = some 0 := by rw [fA_isApplet, if_pos h]
theorem isA_big {j : Nat} (h : 4 ≤ j) (hj : j < 2 ^ 31) : fA_isApplet (nI j) = some 0 := by rw [fA_isApplet, if_neg (nI_pos hj), if_pos (show (4 : Int32) ≤ nI j from nI_le (a := 4) h hj)]
theorem isA_yes {j : Nat} (h : j < 4) : fA_isApplet (nI j) = some 1 := by rw [fA_isApplet, if_neg (nI_pos (by omega)), if_neg (show ¬ (4 : Int32) ≤ nI j from nI_ge (b := 4) h (by omega))]
theorem p_data (h : nREL x m) (a i : Int32) : ∃ r, fA_data x a i = some r ∧ fRf_data m a i = some r := by
  have h0 := h
  obtain ⟨mc, mw, mf, mz, ib, ic, xa, xg, xl, xo, xs, xv, xp⟩ := x
  obtain ⟨nm, nb, nl, nc, nd, nf, na, nz, no, ns, nv, np, ni, nn, nu, nt⟩ := m
  obtain ⟨k, c, t, ⟨e1, e2, gF, gT, gN, e3, gU, gV⟩, ⟨hc, e4, e5, gb⟩, ⟨ht, e6, e7, go⟩, hS⟩ := h
  have f1 : nd = mw := e1.symm
  have f2 : nf = mf := e2.symm
  have f3 : nc = nI k := e3
  have f4 : ic = nI c := e4
  have f5 : nn = nI c := e5
  have f6 : xl = nI t := e6
  have f7 : nt = nI t := e7
  clear e1 e2 e3 e4 e5 e6 e7
  subst f1; subst f2; subst f3; subst f4; subst f5; subst f6; subst f7
  have hF : nRF mz na nz := gF
  have hT : nTR mc nl := gT
  have hN : nNT mc k := gN
  have hU : nUB mc k (nBS k nm nb) := gU
  have hV : nV (nBS k nm nb) := gV
  have hby : ∀ j, j < c → ib j = ni j ∧ ∃ v : Nat, v < 256 ∧ ni j = nI v := gb
  have hou : ∀ j, j < t → xa j = nu j := go
  clear gF gT gN gU gV gb go
  rw [fA_data, fRf_data]
  by_cases h1 : a < 0
  · rw [isA_no h1, bd1_eq, if_pos rfl, if_pos h1]; exact ⟨_, rfl, rfl⟩
  obtain ⟨j, hj, rfl⟩ := nI_of h1
  rw [if_neg h1]
  by_cases h2 : j < 4
  · rw [isA_yes h2, bd1_eq, if_neg (by decide), if_neg (show ¬ (3 : Int32) < nI j from nI_nlt (b := j) (a := 3) (by omega) (by omega))]
    by_cases h3 : i < 0
    · rw [if_pos h3, if_pos h3]; exact ⟨_, rfl, rfl⟩
    obtain ⟨q, hq, rfl⟩ := nI_of h3
    rw [if_neg h3, if_neg h3]
    by_cases h4 : q < 16
    · rw [if_pos (show nI q < (16 : Int32) from nI_lt (b := 16) h4 (by omega)), if_pos (show nI q ≤ (15 : Int32) from nI_le (b := 15) (by omega) (by omega))]
      rcases hS with ⟨o1, o2, o3, o4, o5, o6, gL, gW, gk, gs⟩ | ⟨o1, o2, o3, o4, o5, o6, o7, o8, o9, o10⟩
      · have p1 : xo = 1 := o1
        have p2 : no = 1 := o2
        have p3 : nv = xv := o3.symm
        have p4 : nv = 0 ∨ nv = 1 := o4
        have p5 : np = xp := o5.symm
        have p6 : np = 0 ∨ np = 1 := o6
        clear o1 o2 o3 o4 o5 o6
        subst p1; subst p2; subst p3; subst p5
        have hL : nLE mc nm := gL
        have hVm : nV nm := gW
        have hk0 : np = 0 → k = 0 := gk
        have hsel : (xs = -2 ∧ ns = -1) ∨ ∃ a : Nat, a < 4 ∧ xs = nI a ∧ ns = nI a := gs
        clear gL gW gk gs
        simp only [if_neg h10]
        rw [fA_dataPlace, bd1_eq, show (0 : Int32) + 16 * nI j + nI q = nI (16 * j + q) by
          show nI 0 + nI 16 * nI j + nI q = _
          rw [pk_mul, nI_add, nI_add]; congr 1; omega, show (16 : Int32) * nI j + nI q = nI (16 * j + q) by
          show nI 16 * nI j + nI q = _
          rw [pk_mul, nI_add], fM_at_eq (by omega), bd1_eq, ix_nI (by omega) (by decide)]
        have e := hL (16 * j + q) (by omega)
        rw [phlo (by omega)] at e
        rw [e]
        exact ⟨_, rfl, rfl⟩
      · have p1 : xo = 0 := o1
        have p2 : no = 0 := o2
        have p3 : xs = -2 := o3
        have p4 : ns = -1 := o4
        have p5 : xv = 0 := o5
        have p6 : nv = 0 := o6
        have p7 : xp = 0 := o7
        have p8 : np = 0 := o8
        clear o1 o2 o3 o4 o5 o6 o7 o8
        subst p1; subst p2; subst p3; subst p4; subst p5; subst p6; subst p7; subst p8
        simp only [if_pos z00]; exact ⟨_, rfl, rfl⟩
    · rw [if_neg (show ¬ nI q < (16 : Int32) from nI_nlt (b := 16) (by omega) hq), if_neg (show ¬ nI q ≤ (15 : Int32) from nI_ge (a := 15) (by omega) hq)]; exact ⟨_, rfl, rfl⟩
  · rw [isA_big (by omega) hj, bd1_eq, if_pos rfl, if_pos (show (3 : Int32) < nI j from nI_lt (a := 3) (by omega) hj)]; exact ⟨_, rfl, rfl⟩
theorem p_tries (h : nREL x m) (a : Int32) : ∃ r, fA_tries x a = some r ∧ fRf_tries m a = some r := by
  have h0 := h
  obtain ⟨mc, mw, mf, mz, ib, ic, xa, xg, xl, xo, xs, xv, xp⟩ := x
  obtain ⟨nm, nb, nl, nc, nd, nf, na, nz, no, ns, nv, np, ni, nn, nu, nt⟩ := m
  obtain ⟨k, c, t, ⟨e1, e2, gF, gT, gN, e3, gU, gV⟩, ⟨hc, e4, e5, gb⟩, ⟨ht, e6, e7, go⟩, hS⟩ := h
  have f1 : nd = mw := e1.symm
  have f2 : nf = mf := e2.symm
  have f3 : nc = nI k := e3
  have f4 : ic = nI c := e4
  have f5 : nn = nI c := e5
  have f6 : xl = nI t := e6
  have f7 : nt = nI t := e7
  clear e1 e2 e3 e4 e5 e6 e7
  subst f1; subst f2; subst f3; subst f4; subst f5; subst f6; subst f7
  have hF : nRF mz na nz := gF
  have hT : nTR mc nl := gT
  have hN : nNT mc k := gN
  have hU : nUB mc k (nBS k nm nb) := gU
  have hV : nV (nBS k nm nb) := gV
  have hby : ∀ j, j < c → ib j = ni j ∧ ∃ v : Nat, v < 256 ∧ ni j = nI v := gb
  have hou : ∀ j, j < t → xa j = nu j := go
  clear gF gT gN gU gV gb go
  rw [fA_tries, fRf_tries]
  by_cases h1 : a < 0
  · rw [isA_no h1, bd1_eq, if_pos rfl, if_pos h1]; exact ⟨_, rfl, rfl⟩
  obtain ⟨j, hj, rfl⟩ := nI_of h1
  rw [if_neg h1]
  by_cases h2 : j < 4
  · rw [isA_yes h2, bd1_eq, if_neg (by decide), if_pos (show nI j ≤ (3 : Int32) from nI_le (b := 3) (by omega) (by omega))]
    rcases hS with ⟨o1, o2, o3, o4, o5, o6, gL, gW, gk, gs⟩ | ⟨o1, o2, o3, o4, o5, o6, o7, o8, o9, o10⟩
    · have p1 : xo = 1 := o1
      have p2 : no = 1 := o2
      have p3 : nv = xv := o3.symm
      have p4 : nv = 0 ∨ nv = 1 := o4
      have p5 : np = xp := o5.symm
      have p6 : np = 0 ∨ np = 1 := o6
      clear o1 o2 o3 o4 o5 o6
      subst p1; subst p2; subst p3; subst p5
      have hL : nLE mc nm := gL
      have hVm : nV nm := gW
      have hk0 : np = 0 → k = 0 := gk
      have hsel : (xs = -2 ∧ ns = -1) ∨ ∃ a : Nat, a < 4 ∧ xs = nI a ∧ ns = nI a := gs
      clear gL gW gk gs
      simp only [if_neg h10]
      rw [fA_triesPlace, bd1_eq, show (72 : Int32) + nI j = nI (72 + j) from nI_add 72 j, fM_at_eq (by omega), bd1_eq, ix_nI h2 (by decide), (hT j h2).1]
      exact ⟨_, rfl, rfl⟩
    · have p1 : xo = 0 := o1
      have p2 : no = 0 := o2
      have p3 : xs = -2 := o3
      have p4 : ns = -1 := o4
      have p5 : xv = 0 := o5
      have p6 : nv = 0 := o6
      have p7 : xp = 0 := o7
      have p8 : np = 0 := o8
      clear o1 o2 o3 o4 o5 o6 o7 o8
      subst p1; subst p2; subst p3; subst p4; subst p5; subst p6; subst p7; subst p8
      simp only [if_pos z00]; exact ⟨_, rfl, rfl⟩
  · rw [isA_big (by omega) hj, bd1_eq, if_pos rfl, if_neg (show ¬ nI j ≤ (3 : Int32) from nI_ge (a := 3) (by omega) hj)]; exact ⟨_, rfl, rfl⟩
theorem p_pending (h : nREL x m) : ∃ r, fA_pending x = some r ∧ fRf_pending m = some r := by
  have h0 := h
  obtain ⟨mc, mw, mf, mz, ib, ic, xa, xg, xl, xo, xs, xv, xp⟩ := x
  obtain ⟨nm, nb, nl, nc, nd, nf, na, nz, no, ns, nv, np, ni, nn, nu, nt⟩ := m
  obtain ⟨k, c, t, ⟨e1, e2, gF, gT, gN, e3, gU, gV⟩, ⟨hc, e4, e5, gb⟩, ⟨ht, e6, e7, go⟩, hS⟩ := h
  have f1 : nd = mw := e1.symm
  have f2 : nf = mf := e2.symm
  have f3 : nc = nI k := e3
  have f4 : ic = nI c := e4
  have f5 : nn = nI c := e5
  have f6 : xl = nI t := e6
  have f7 : nt = nI t := e7
  clear e1 e2 e3 e4 e5 e6 e7
  subst f1; subst f2; subst f3; subst f4; subst f5; subst f6; subst f7
  have hF : nRF mz na nz := gF
  have hT : nTR mc nl := gT
  have hN : nNT mc k := gN
  have hU : nUB mc k (nBS k nm nb) := gU
  have hV : nV (nBS k nm nb) := gV
  have hby : ∀ j, j < c → ib j = ni j ∧ ∃ v : Nat, v < 256 ∧ ni j = nI v := gb
  have hou : ∀ j, j < t → xa j = nu j := go
  clear gF gT gN gU gV gb go
  rw [fA_pending, fRf_pending, fM_count_eq, bd1_eq, hN.2.1]
  rcases hS with ⟨o1, o2, o3, o4, o5, o6, gL, gW, gk, gs⟩ | ⟨o1, o2, o3, o4, o5, o6, o7, o8, o9, o10⟩
  · have p1 : xo = 1 := o1
    have p2 : no = 1 := o2
    have p3 : nv = xv := o3.symm
    have p4 : nv = 0 ∨ nv = 1 := o4
    have p5 : np = xp := o5.symm
    have p6 : np = 0 ∨ np = 1 := o6
    clear o1 o2 o3 o4 o5 o6
    subst p1; subst p2; subst p3; subst p5
    have hL : nLE mc nm := gL
    have hVm : nV nm := gW
    have hk0 : np = 0 → k = 0 := gk
    have hsel : (xs = -2 ∧ ns = -1) ∨ ∃ a : Nat, a < 4 ∧ xs = nI a ∧ ns = nI a := gs
    clear gL gW gk gs
    simp only [if_neg h10]; exact ⟨_, rfl, rfl⟩
  · have p1 : xo = 0 := o1
    have p2 : no = 0 := o2
    have p3 : xs = -2 := o3
    have p4 : ns = -1 := o4
    have p5 : xv = 0 := o5
    have p6 : nv = 0 := o6
    have p7 : xp = 0 := o7
    have p8 : np = 0 := o8
    clear o1 o2 o3 o4 o5 o6 o7 o8
    subst p1; subst p2; subst p3; subst p4; subst p5; subst p6; subst p7; subst p8
    simp only [if_pos z00]; exact ⟨_, rfl, rfl⟩
theorem p_session (h : nREL x m) : ∃ r, fA_session x = some r ∧ fRf_session m = some r := by
  have h0 := h
  obtain ⟨mc, mw, mf, mz, ib, ic, xa, xg, xl, xo, xs, xv, xp⟩ := x
  obtain ⟨nm, nb, nl, nc, nd, nf, na, nz, no, ns, nv, np, ni, nn, nu, nt⟩ := m
  obtain ⟨k, c, t, ⟨e1, e2, gF, gT, gN, e3, gU, gV⟩, ⟨hc, e4, e5, gb⟩, ⟨ht, e6, e7, go⟩, hS⟩ := h
  have f1 : nd = mw := e1.symm
  have f2 : nf = mf := e2.symm
  have f3 : nc = nI k := e3
  have f4 : ic = nI c := e4
  have f5 : nn = nI c := e5
  have f6 : xl = nI t := e6
  have f7 : nt = nI t := e7
  clear e1 e2 e3 e4 e5 e6 e7
  subst f1; subst f2; subst f3; subst f4; subst f5; subst f6; subst f7
  have hF : nRF mz na nz := gF
  have hT : nTR mc nl := gT
  have hN : nNT mc k := gN
  have hU : nUB mc k (nBS k nm nb) := gU
  have hV : nV (nBS k nm nb) := gV
  have hby : ∀ j, j < c → ib j = ni j ∧ ∃ v : Nat, v < 256 ∧ ni j = nI v := gb
  have hou : ∀ j, j < t → xa j = nu j := go
  clear gF gT gN gU gV gb go
  rw [fA_session, fRf_session]
  rcases hS with ⟨o1, o2, o3, o4, o5, o6, gL, gW, gk, gs⟩ | ⟨o1, o2, o3, o4, o5, o6, o7, o8, o9, o10⟩
  · have p1 : xo = 1 := o1
    have p2 : no = 1 := o2
    have p3 : nv = xv := o3.symm
    have p4 : nv = 0 ∨ nv = 1 := o4
    have p5 : np = xp := o5.symm
    have p6 : np = 0 ∨ np = 1 := o6
    clear o1 o2 o3 o4 o5 o6
    subst p1; subst p2; subst p3; subst p5
    have hL : nLE mc nm := gL
    have hVm : nV nm := gW
    have hk0 : np = 0 → k = 0 := gk
    have hsel : (xs = -2 ∧ ns = -1) ∨ ∃ a : Nat, a < 4 ∧ xs = nI a ∧ ns = nI a := gs
    clear gL gW gk gs
    simp only [if_neg h10]
    rcases hsel with ⟨rfl, rfl⟩ | ⟨a, ha, rfl, rfl⟩
    · rw [if_pos (show (-2 : Int32) = -2 from rfl), if_neg (show ¬ (0 : Int32) ≤ -1 by decide)]; exact ⟨_, rfl, rfl⟩
    · rw [if_neg (nI_m2 (by omega)), if_pos (nI_pos' (by omega))]
      by_cases a1 : nv = 0
      · rw [if_pos a1]
        by_cases a2 : np = 0
        · rw [if_pos a2]; exact ⟨_, rfl, rfl⟩
        · rw [if_neg a2]; exact ⟨_, rfl, rfl⟩
      · rw [if_neg a1]
        by_cases a2 : np = 0
        · rw [if_pos a2]; exact ⟨_, rfl, rfl⟩
        · rw [if_neg a2]; exact ⟨_, rfl, rfl⟩
  · have p1 : xo = 0 := o1
    have p2 : no = 0 := o2
    have p3 : xs = -2 := o3
    have p4 : ns = -1 := o4
    have p5 : xv = 0 := o5
    have p6 : nv = 0 := o6
    have p7 : xp = 0 := o7
    have p8 : np = 0 := o8
    clear o1 o2 o3 o4 o5 o6 o7 o8
    subst p1; subst p2; subst p3; subst p4; subst p5; subst p6; subst p7; subst p8
    simp only [if_pos z00]; exact ⟨_, rfl, rfl⟩
theorem sb_eq {mc ib xa xg : Nat → Int32} {mw mf mz ic xl xo xs xv xp : Int32} {s i : Nat} (hs : s < 8) (hi : i < 4) : fA_shareByte (mc, mw, mf, mz, ib, ic, xa, xg, xl, xo, xs, xv, xp) (nI s) (nI i) = some (mc (76 + 4 * s + i)) := by
  rw [fA_shareByte, fA_sharePlace, bd1_eq, show (76 : Int32) + 4 * nI s + nI i = nI (76 + 4 * s + i) by
    show nI 76 + nI 4 * nI s + nI i = _
    rw [pk_mul, nI_add, nI_add], fM_at_eq (by omega), bd1_eq]
theorem sh_hn (a b c d : Int32) : 256 * (256 * (256 * (256 * 0 + d) + c) + b) + a = a + 256 * b + 65536 * c + 16777216 * d := by grind
theorem p_share (h : nREL x m) (a : Int32) : ∃ r, fA_share x a = some r ∧ fRf_share m a = some r := by
  have h0 := h
  obtain ⟨mc, mw, mf, mz, ib, ic, xa, xg, xl, xo, xs, xv, xp⟩ := x
  obtain ⟨nm, nb, nl, nc, nd, nf, na, nz, no, ns, nv, np, ni, nn, nu, nt⟩ := m
  obtain ⟨k, c, t, ⟨e1, e2, gF, gT, gN, e3, gU, gV⟩, ⟨hc, e4, e5, gb⟩, ⟨ht, e6, e7, go⟩, hS⟩ := h
  have f1 : nd = mw := e1.symm
  have f2 : nf = mf := e2.symm
  have f3 : nc = nI k := e3
  have f4 : ic = nI c := e4
  have f5 : nn = nI c := e5
  have f6 : xl = nI t := e6
  have f7 : nt = nI t := e7
  clear e1 e2 e3 e4 e5 e6 e7
  subst f1; subst f2; subst f3; subst f4; subst f5; subst f6; subst f7
  have hF : nRF mz na nz := gF
  have hT : nTR mc nl := gT
  have hN : nNT mc k := gN
  have hU : nUB mc k (nBS k nm nb) := gU
  have hV : nV (nBS k nm nb) := gV
  have hby : ∀ j, j < c → ib j = ni j ∧ ∃ v : Nat, v < 256 ∧ ni j = nI v := gb
  have hou : ∀ j, j < t → xa j = nu j := go
  clear gF gT gN gU gV gb go
  rw [fA_share, fRf_share]
  by_cases h1 : a < 0
  · rw [if_pos h1, if_pos h1]; exact ⟨_, rfl, rfl⟩
  obtain ⟨s, hs, rfl⟩ := nI_of h1
  rw [if_neg h1, if_neg h1]
  by_cases h2 : s < 8
  · rw [if_pos (show nI s < (8 : Int32) from nI_lt (b := 8) h2 (by omega)), if_pos (show nI s ≤ (7 : Int32) from nI_le (b := 7) (by omega) (by omega))]
    rcases hS with ⟨o1, o2, o3, o4, o5, o6, gL, gW, gk, gs⟩ | ⟨o1, o2, o3, o4, o5, o6, o7, o8, o9, o10⟩
    · have p1 : xo = 1 := o1
      have p2 : no = 1 := o2
      have p3 : nv = xv := o3.symm
      have p4 : nv = 0 ∨ nv = 1 := o4
      have p5 : np = xp := o5.symm
      have p6 : np = 0 ∨ np = 1 := o6
      clear o1 o2 o3 o4 o5 o6
      subst p1; subst p2; subst p3; subst p5
      have hL : nLE mc nm := gL
      have hVm : nV nm := gW
      have hk0 : np = 0 → k = 0 := gk
      have hsel : (xs = -2 ∧ ns = -1) ∨ ∃ a : Nat, a < 4 ∧ xs = nI a ∧ ns = nI a := gs
      clear gL gW gk gs
      simp only [if_neg h10]
      rw [show (72 : Int32) + 4 * nI s = nI (72 + 4 * s) by
        show nI 72 + nI 4 * nI s = _
        rw [pk_mul, nI_add], show nI (72 + 4 * s) + 1 = nI (73 + 4 * s) by rw [nI_1]; congr 1; omega, show nI (72 + 4 * s) + 2 = nI (74 + 4 * s) by
        show nI (72 + 4 * s) + nI 2 = _
        rw [nI_add]; congr 1; omega, show nI (72 + 4 * s) + 3 = nI (75 + 4 * s) by
        show nI (72 + 4 * s) + nI 3 = _
        rw [nI_add]; congr 1; omega, ix_nI (by omega) (by decide), ix_nI (by omega) (by decide), ix_nI (by omega) (by decide), ix_nI (by omega) (by decide)]
      rw [fA_share_L26, if_neg (by decide), show (3 : Int32) = nI 3 from rfl, sb_eq h2 (by omega), bd1_eq, fA_share_L26, if_neg (by decide), show nI 3 + -1 = nI 2 by decide, sb_eq h2 (by omega), bd1_eq, fA_share_L26, if_neg (by decide), show nI 2 + -1 = nI 1 by decide, sb_eq h2 (by omega), bd1_eq, fA_share_L26, if_neg (by decide), show nI 1 + -1 = nI 0 by decide, sb_eq h2 (by omega), bd1_eq, fA_share_L26, if_pos (by decide), sh_hn]
      have f0 := hL (72 + 4 * s) (by omega)
      have f1 := hL (73 + 4 * s) (by omega)
      have f2 := hL (74 + 4 * s) (by omega)
      have f3 := hL (75 + 4 * s) (by omega)
      rw [phhi (by omega)] at f0 f1 f2 f3
      rw [← f0, ← f1, ← f2, ← f3, show 76 + 4 * s + 0 = 72 + 4 * s + 4 by omega, show 76 + 4 * s + 1 = 73 + 4 * s + 4 by omega, show 76 + 4 * s + 2 = 74 + 4 * s + 4 by omega, show 76 + 4 * s + 3 = 75 + 4 * s + 4 by omega]
      exact ⟨_, rfl, rfl⟩
    · have p1 : xo = 0 := o1
      have p2 : no = 0 := o2
      have p3 : xs = -2 := o3
      have p4 : ns = -1 := o4
      have p5 : xv = 0 := o5
      have p6 : nv = 0 := o6
      have p7 : xp = 0 := o7
      have p8 : np = 0 := o8
      clear o1 o2 o3 o4 o5 o6 o7 o8
      subst p1; subst p2; subst p3; subst p4; subst p5; subst p6; subst p7; subst p8
      simp only [if_pos z00]; exact ⟨_, rfl, rfl⟩
  · rw [if_neg (show ¬ nI s < (8 : Int32) from nI_nlt (b := 8) (by omega) hs), if_neg (show ¬ nI s ≤ (7 : Int32) from nI_ge (a := 7) (by omega) hs)]; exact ⟨_, rfl, rfl⟩
theorem put_loop {v1 : Int64} {v3 : Int32} {nm nb nl nu : Nat → Int32} {nc nd nf na nz no ns nv np nt : Int32} : ∀ (i c f g : Nat) (ib ni : Nat → Int32), i ≤ 8 → c + i ≤ 24 → i < f → i < g → (∀ j, j < c → ib j = ni j ∧ ∃ v : Nat, v < 256 ∧ ni j = nI v) →
    ∃ ib' ni' : Nat → Int32, fI_append_L29 f (ib, nI c) v1 v3 (nI i - 1) = some (1, ib', nI (c + i)) ∧ fRf_put_L36 g (nm, nb, nl, nc, nd, nf, na, nz, no, ns, nv, np, ni, nI c, nu, nt) v1 v3 (nI i - 1) = some (1, nm, nb, nl, nc, nd, nf, na, nz, no, ns, nv, np, ni', nI (c + i), nu, nt) ∧ ∀ j, j < c + i → ib' j = ni' j ∧ ∃ v : Nat, v < 256 ∧ ni' j = nI v := by
  intro i
  induction i with
  | zero =>
    intro c f g ib ni h1 h2 hf hg hb
    obtain ⟨f, rfl⟩ : ∃ q, f = q + 1 := ⟨f - 1, by omega⟩
    obtain ⟨g, rfl⟩ : ∃ q, g = q + 1 := ⟨g - 1, by omega⟩
    rw [fI_append_L29, if_pos m1_lt, fRf_put_L36, if_pos m1_lt]
    exact ⟨ib, ni, rfl, rfl, hb⟩
  | succ i ih =>
    intro c f g ib ni h1 h2 hf hg hb
    obtain ⟨f, rfl⟩ : ∃ q, f = q + 1 := ⟨f - 1, by omega⟩
    obtain ⟨g, rfl⟩ : ∃ q, g = q + 1 := ⟨g - 1, by omega⟩
    obtain ⟨v, hv, ea, eb⟩ := by_put v1 (show i < 8 by omega)
    rw [fI_append_L29, nI_pred, if_neg (nI_pos (by omega)), ix_nI (show c < 24 by omega) (by decide), fRf_put_L36, if_neg (nI_pos (by omega)), ix_nI (show c < 24 by omega) (by decide), ea, eb, nI_1, show nI i + -1 = nI i - 1 from (Int32.sub_eq_add_neg _ _).symm, show c + (i + 1) = c + 1 + i by omega]
    refine ih (c + 1) f g _ _ (by omega) (by omega) (by omega) (by omega) (fun j hj => ?_)
    by_cases hjc : j = c
    · subst hjc; rw [pk_us, pk_us]; exact ⟨rfl, v, hv, rfl⟩
    · rw [pk_un hjc, pk_un hjc]; exact hb j (by omega)
theorem p_put (h : nREL x m) (a : Int64) (n : Int32) : ∃ r x' m', fA_put x a n = some (r, x') ∧ fRf_put m a n = some (r, m') ∧ nREL x' m' := by
  have h0 := h
  obtain ⟨mc, mw, mf, mz, ib, ic, xa, xg, xl, xo, xs, xv, xp⟩ := x
  obtain ⟨nm, nb, nl, nc, nd, nf, na, nz, no, ns, nv, np, ni, nn, nu, nt⟩ := m
  obtain ⟨k, c, t, ⟨e1, e2, gF, gT, gN, e3, gU, gV⟩, ⟨hc, e4, e5, gb⟩, ⟨ht, e6, e7, go⟩, hS⟩ := h
  have f1 : nd = mw := e1.symm
  have f2 : nf = mf := e2.symm
  have f3 : nc = nI k := e3
  have f4 : ic = nI c := e4
  have f5 : nn = nI c := e5
  have f6 : xl = nI t := e6
  have f7 : nt = nI t := e7
  clear e1 e2 e3 e4 e5 e6 e7
  subst f1; subst f2; subst f3; subst f4; subst f5; subst f6; subst f7
  have hF : nRF mz na nz := gF
  have hT : nTR mc nl := gT
  have hN : nNT mc k := gN
  have hU : nUB mc k (nBS k nm nb) := gU
  have hV : nV (nBS k nm nb) := gV
  have hby : ∀ j, j < c → ib j = ni j ∧ ∃ v : Nat, v < 256 ∧ ni j = nI v := gb
  have hou : ∀ j, j < t → xa j = nu j := go
  clear gF gT gN gU gV gb go
  rw [fA_put, fRf_put]
  rcases hS with ⟨o1, o2, o3, o4, o5, o6, gL, gW, gk, gs⟩ | ⟨o1, o2, o3, o4, o5, o6, o7, o8, o9, o10⟩
  · have p1 : xo = 1 := o1
    have p2 : no = 1 := o2
    have p3 : nv = xv := o3.symm
    have p4 : nv = 0 ∨ nv = 1 := o4
    have p5 : np = xp := o5.symm
    have p6 : np = 0 ∨ np = 1 := o6
    clear o1 o2 o3 o4 o5 o6
    subst p1; subst p2; subst p3; subst p5
    have hL : nLE mc nm := gL
    have hVm : nV nm := gW
    have hk0 : np = 0 → k = 0 := gk
    have hsel : (xs = -2 ∧ ns = -1) ∨ ∃ a : Nat, a < 4 ∧ xs = nI a ∧ ns = nI a := gs
    clear gL gW gk gs
    simp only [if_neg h10]
    rw [fI_append]
    by_cases h1 : n < 1
    · rw [if_pos h1, bd3_eq, if_pos rfl, if_pos h1]; exact ⟨_, _, _, rfl, rfl, h0⟩
    rw [if_neg h1, if_neg h1]
    by_cases h2 : 8 < n
    · rw [if_pos h2, bd3_eq, if_pos rfl, if_pos h2]; exact ⟨_, _, _, rfl, rfl, h0⟩
    rw [if_neg h2, if_neg h2]
    obtain ⟨q, hq1, hq2, rfl⟩ := iv (a := 1) (b := 8) (by omega) (by omega) h1 h2
    rw [nI_add]
    by_cases h3 : c + q ≤ 24
    · rw [if_pos (show nI (c + q) ≤ (24 : Int32) from nI_le (b := 24) h3 (by omega)), if_pos (show nI (c + q) ≤ (24 : Int32) from nI_le (b := 24) h3 (by omega))]
      obtain ⟨ib', ni', e1, e2, hb'⟩ := put_loop (v1 := a) (v3 := nI q) (nm := nm) (nb := nb) (nl := nl) (nu := nu) (nc := nI k) (nd := nd) (nf := nf) (na := na) (nz := nz) (no := 1) (ns := ns) (nv := nv) (np := np) (nt := nI t) q c 300 300 ib ni hq2 h3 (by omega) (by omega) hby
      rw [e1, bd3_eq, if_neg (by decide), e2]
      exact ⟨_, _, _, rfl, rfl, k, c + q, t, ⟨rfl, rfl, hF, hT, hN, rfl, hU, hV⟩, ⟨h3, rfl, rfl, hb'⟩, ⟨ht, rfl, rfl, hou⟩, Or.inl ⟨rfl, rfl, rfl, p4, rfl, p6, hL, hVm, hk0, hsel⟩⟩
    · rw [if_neg (show ¬ nI (c + q) ≤ (24 : Int32) from nI_ge (a := 24) (by omega) (by omega)), if_neg (show ¬ nI (c + q) ≤ (24 : Int32) from nI_ge (a := 24) (by omega) (by omega)), bd3_eq, if_pos rfl]; exact ⟨_, _, _, rfl, rfl, h0⟩
  · have p1 : xo = 0 := o1
    have p2 : no = 0 := o2
    have p3 : xs = -2 := o3
    have p4 : ns = -1 := o4
    have p5 : xv = 0 := o5
    have p6 : nv = 0 := o6
    have p7 : xp = 0 := o7
    have p8 : np = 0 := o8
    clear o1 o2 o3 o4 o5 o6 o7 o8
    subst p1; subst p2; subst p3; subst p4; subst p5; subst p6; subst p7; subst p8
    simp only [if_pos z00]; exact ⟨_, _, _, rfl, rfl, h0⟩
end PCALL
