-- the start of both objects
theorem fM_init_eq : fM_init = some (upd (upd (upd (upd (fun _ => 0) 72 3) 73 3) 74 3) 75 3, 0, 0, -1) := by
  rw [fM_init, fM_init_L15, if_neg (by decide), show (72 : Int32) + 0 = nI 72 from rfl, ix_nI (by decide) (by decide), show (0 : Int32) + 1 = 1 from rfl, fM_init_L15, if_neg (by decide), show (72 : Int32) + 1 = nI 73 from rfl, ix_nI (by decide) (by decide), show (1 : Int32) + 1 = 2 from rfl, fM_init_L15, if_neg (by decide), show (72 : Int32) + 2 = nI 74 from rfl, ix_nI (by decide) (by decide), show (2 : Int32) + 1 = 3 from rfl, fM_init_L15, if_neg (by decide), show (72 : Int32) + 3 = nI 75 from rfl, ix_nI (by decide) (by decide), show (3 : Int32) + 1 = 4 from rfl, fM_init_L15, if_pos (by decide)]
theorem fRf_init_eq : fRf_init = some (fun _ => 0, fun _ => 0, upd (upd (upd (upd (fun _ => 0) 0 3) 1 3) 2 3) 3 3, 0, 0, 0, 0, 0, 1, -1, 0, 0, fun _ => 0, 0, fun _ => 0, 0) := by
  rw [fRf_init, fRf_init_L55, if_neg (by decide), ixg0, show (0 : Int32) + 1 = 1 from rfl, fRf_init_L55, if_neg (by decide), ixg1, show (1 : Int32) + 1 = 2 from rfl, fRf_init_L55, if_neg (by decide), ixg2, show (2 : Int32) + 1 = 3 from rfl, fRf_init_L55, if_neg (by decide), ixg3, show (3 : Int32) + 1 = 4 from rfl, fRf_init_L55, if_pos (by decide)]
theorem init_pair : ∃ (x : StX) (m : StR), fA_init = some x ∧ fRf_init = some m ∧ nREL x m := by
  rw [fA_init, fM_init_eq, bd4_eq, fI_init, bd2_eq, fRf_init_eq]
  refine ⟨_, _, rfl, rfl, 0, 0, 0, ⟨rfl, rfl, Or.inl ⟨rfl, rfl⟩, ?_, ⟨by omega, ?_, fun i hi => by omega⟩, rfl, ?_, ?_⟩, ⟨by omega, rfl, rfl, fun j hj => by omega⟩, ⟨by omega, rfl, rfl, fun j hj => by omega⟩, Or.inl ⟨rfl, rfl, rfl, Or.inl rfl, rfl, Or.inl rfl, ?_, ?_, fun _ => rfl, Or.inl ⟨rfl, rfl⟩⟩⟩
  · intro a ha
    have h4 : a = 0 ∨ a = 1 ∨ a = 2 ∨ a = 3 := by omega
    rcases h4 with rfl | rfl | rfl | rfl <;> exact ⟨rfl, 3, by omega, rfl⟩
  · rfl
  · intro j hj
    rw [uu_0]
    show upd (upd (upd (upd (fun _ => 0) 72 3) 73 3) 74 3) 75 3 (ph j) = 0
    rw [pk_un (ph_nt (a := 3) (by omega)), pk_un (ph_nt (a := 2) (by omega)), pk_un (ph_nt (a := 1) (by omega)), pk_un (ph_nt (a := 0) (by omega))]
  · intro s hs; left; rfl
  · intro j hj
    show upd (upd (upd (upd (fun _ => 0) 72 3) 73 3) 74 3) 75 3 (ph j) = 0
    rw [pk_un (ph_nt (a := 3) (by omega)), pk_un (ph_nt (a := 2) (by omega)), pk_un (ph_nt (a := 1) (by omega)), pk_un (ph_nt (a := 0) (by omega))]
  · intro s hs; left; rfl
-- the tables at the start
theorem k_start {args : Array Value} {s : State} (hts : ∀ w ∈ lw_g, w.before args s = true) : ∃ (dC : Nat → ClassId) (dI : Nat → Nat → Nat) (cI : ClassId), va_K (dC, dI) vwCl [(cI, .int)] s := by
  obtain ⟨c0, i0, h0⟩ := u_known (C := R_A) (T := F_A) (N := 9) (n := 9) hts in_A (hts _ (List.mem_filter.mpr ⟨List.mem_of_getElem? (i := 51) (by decide +kernel), by decide +kernel⟩))
  obtain ⟨c1, i1, h1⟩ := u_known (C := R_M) (T := F_M) (N := 4) (n := 4) hts in_M (hts _ (List.mem_filter.mpr ⟨List.mem_of_getElem? (i := 59) (by decide +kernel), by decide +kernel⟩))
  obtain ⟨c2, i2, h2⟩ := u_known (C := R_I) (T := F_I) (N := 2) (n := 2) hts in_I (hts _ (List.mem_filter.mpr ⟨List.mem_of_getElem? (i := 79) (by decide +kernel), by decide +kernel⟩))
  obtain ⟨c3, i3, h3⟩ := u_known (C := R_Rf) (T := F_Rf) (N := 16) (n := 16) hts in_Rf (hts _ (List.mem_filter.mpr ⟨List.mem_of_getElem? (i := 401) (by decide +kernel), by decide +kernel⟩))
  obtain ⟨cA, kA, comp, e1, e2, e3⟩ := Cond.arrayClass_spec (type := .int) (hts (.arrayClass .int) (List.mem_filter.mpr ⟨List.mem_of_getElem? (i := 77) (by decide +kernel), by decide +kernel⟩))
  refine ⟨fun c => match c with | 0 => c0 | 1 => c1 | 2 => c2 | _ => c3, fun c => match c with | 0 => i0 | 1 => i1 | 2 => i2 | _ => i3, cA, fun c q hq => ?_, fun k q hk => ?_⟩
  · match c, hq with
    | 0, hq => cases hq; exact h0
    | 1, hq => cases hq; exact h1
    | 2, hq => cases hq; exact h2
    | 3, hq => cases hq; exact h3
    | n + 4, hq => cases hq
  · match k, hk with
    | 0, hk => cases hk; exact ⟨fun n z => ⟨fun k h => (by cases h), kA, e2, comp, e3⟩, e1⟩
    | n + 1, hk => cases hk
def nmE : List String := ["SELECT", "VERIFY", "CHANGE_SECRET", "UNBLOCK", "READ", "UPDATE", "BEGIN", "END", "GRANT", "REVOKE", "READ_SHARED", "UPDATE_SHARED", "UNKNOWN"]
abbrev stE (i : Nat) : Term := .static E_n (nmE.getD i "") E_d
abbrev stA : Term := .static E_n "ALL" "[LAppletFirewall$Instruction;"
abbrev stS : Term := .static "AppletFirewall$1" S_n "[I"
abbrev flN : List Cond := flatC (Jvm.Cond.and given_1 narrow_1)
set_option maxRecDepth 100000 in
theorem n_ex : ∀ i, i < 13 → Cond.exactly (stE i) E_n ∈ flN := by decide +kernel
set_option maxRecDepth 100000 in
theorem n_all : ∀ j, j < 13 → Cond.eq (.elem stA (.int (Int32.ofNat j))) (stE j) ∈ flN := by decide +kernel
set_option maxRecDepth 100000 in
theorem n_sm : ∀ j, j < 13 → Cond.eq (.elem stS (.int (Int32.ofNat j))) (.int (smT j)) ∈ flN := by decide +kernel
theorem tbC_inj : ∀ i, i < 13 → ∀ j, j < 13 → tbC i = tbC j → i = j := by decide +kernel
theorem ef_inj {ad : Nat → Nat} {A : Nat → Prop} {U : State} {H : Heap} (h : va_Ef 13 E_n "code" "I" (fun i => .int (tbC i)) ad A U H) : ∀ i j, i < 13 → j < 13 → ad i = ad j → i = j := fun i j hi hj e => by
  obtain ⟨cf, k, fi, f, cell, a1, a2, a3, a4, a5, a6⟩ := h i hi
  obtain ⟨cf', k', fi', f', cell', b1, b2, b3, b4, b5, b6⟩ := h j hj
  cases a1.symm.trans b1
  rw [e] at a3
  cases a3.symm.trans b3
  have h9 := Option.some.inj (a5.symm.trans b5)
  exact tbC_inj i hi j hj (Value.int.inj h9)
set_option maxRecDepth 100000 in
theorem n_fc : ∀ i, i < 13 → Cond.eq (.field (stE i) E_n "code" "I") (.int (tbC i)) ∈ flN := by decide +kernel
set_option maxRecDepth 100000 in
theorem n_fs : ∀ i, i < 13 → Cond.eq (.field (stE i) E_n "shape" "I") (.int (tbS i)) ∈ flN := by decide +kernel
set_option maxRecDepth 100000 in
theorem n_fl : ∀ i, i < 13 → Cond.eq (.field (stE i) E_n "lc" "I") (.int (tbL i)) ∈ flN := by decide +kernel
set_option maxRecDepth 100000 in
theorem n_fp : ∀ i, i < 13 → Cond.eq (.field (stE i) E_n "highestP1" "I") (.int (tbP i)) ∈ flN := by decide +kernel
set_option maxRecDepth 100000 in
theorem n_fq : ∀ i, i < 13 → Cond.eq (.field (stE i) E_n "highestP2" "I") (.int (tbQ i)) ∈ flN := by decide +kernel
set_option maxRecDepth 100000 in
theorem n_fg : ∀ i, i < 13 → Cond.eq (.field (stE i) E_n "guarded" "Z") (.int (tbG i)) ∈ flN := by decide +kernel
set_option maxRecDepth 100000 in
theorem n_fo : ∀ i, i < 13 → Cond.eq (.field (stE i) "java/lang/Enum" "ordinal" "I") (.int (nI i)) ∈ flN := by decide +kernel
set_option maxHeartbeats 4000000 in
set_option maxRecDepth 100000 in
theorem est_start {args : Array Value} {s : State} {A : Nat → Prop} (hts : ∀ w ∈ lw_tbl, w.before args s = true) (hgv : (Jvm.Cond.and given_1 narrow_1).before args s = true) (hA : ∀ a : Nat, a < s.heap.size → ¬ A a) : ∃ (ad : Nat → Nat) (tA tS : Nat), Est ad tA tS A s s.heap := by
  have hs := flat_of_before _ hgv
  have h0 : ∀ i : Nat, ∃ t : Nat, i < 13 → (stE i).eval args s none [] s = some (.ref t) := by
    intro i
    by_cases hi : i < 13
    · obtain ⟨a2, c, cA, kA, q1, -⟩ := Cond.exactly_spec (args := args) (first := s) (o := none) (s := s) (idx := []) (hs _ (n_ex i hi))
      exact ⟨a2, fun _ => q1⟩
    · exact ⟨0, fun h => absurd h hi⟩
  obtain ⟨ad, hev⟩ : ∃ ad : Nat → Nat, ∀ i, i < 13 → (Term.static E_n (nmE.getD i "") E_d).eval args s none [] s = some (.ref (ad i)) := ⟨fun i => Classical.choose (h0 i), fun i hi => Classical.choose_spec (h0 i) hi⟩
  have hiniE : (Cond.initialized E_n).before args s = true := hts _ (List.mem_of_getElem? (i := 48) (by decide +kernel))
  obtain ⟨tA, hA1, hA2⟩ := va_Tof (tm := stA) (ty := .object E_n) (N := 13) (f := fun j => .ref (ad j)) (A := A) (by decide) (hs _ (by decide +kernel)) (va_eqv (u := .int 13) (hs _ (by decide +kernel)) rfl) (fun j hj => va_eqv (hs _ (n_all j hj)) (hev j hj)) hA
  obtain ⟨tS, hS1, hS2⟩ := va_Tof (tm := stS) (ty := .int) (N := 13) (f := fun j => .int (smT j)) (A := A) (by decide) (hs _ (by decide +kernel)) (va_eqv (u := .int 13) (hs _ (by decide +kernel)) rfl) (fun j hj => va_eqv (u := .int (smT j)) (hs _ (n_sm j hj)) rfl) hA
  refine ⟨ad, tA, tS, va_Zof (hts _ (List.mem_of_getElem? (i := 139) (by decide +kernel))) hiniE hA1 hA, hA2, va_Zof (hts _ (List.mem_of_getElem? (i := 141) (by decide +kernel))) hiniE (hev 12 (by decide)) hA, va_Zof (hts _ (List.mem_of_getElem? (i := 177) (by decide +kernel))) hiniE (hev 0 (by decide)) hA, va_Zof (hts _ (List.mem_of_getElem? (i := 188) (by decide +kernel))) (hts _ (List.mem_of_getElem? (i := 49) (by decide +kernel))) hS1 hA, hS2, fun i hi => va_Oof (hs _ (n_ex i hi)) (hev i hi) hA, va_Efof (N := 13) (E := E_n) (d0 := E_d) (nm := nmE) (tm := fun i => .int (tbC i)) hev (fun i hi => hs _ (n_fc i hi)) (fun i _ => rfl) hA, va_Efof (N := 13) (E := E_n) (d0 := E_d) (nm := nmE) (tm := fun i => .int (tbS i)) hev (fun i hi => hs _ (n_fs i hi)) (fun i _ => rfl) hA, va_Efof (N := 13) (E := E_n) (d0 := E_d) (nm := nmE) (tm := fun i => .int (tbL i)) hev (fun i hi => hs _ (n_fl i hi)) (fun i _ => rfl) hA, va_Efof (N := 13) (E := E_n) (d0 := E_d) (nm := nmE) (tm := fun i => .int (tbP i)) hev (fun i hi => hs _ (n_fp i hi)) (fun i _ => rfl) hA, va_Efof (N := 13) (E := E_n) (d0 := E_d) (nm := nmE) (tm := fun i => .int (tbQ i)) hev (fun i hi => hs _ (n_fq i hi)) (fun i _ => rfl) hA, va_Efof (N := 13) (E := E_n) (d0 := E_d) (nm := nmE) (tm := fun i => .int (tbG i)) hev (fun i hi => hs _ (n_fg i hi)) (fun i _ => rfl) hA, va_Efof (N := 13) (E := E_n) (d0 := E_d) (nm := nmE) (tm := fun i => .int (nI i)) hev (fun i hi => hs _ (n_fo i hi)) (fun i _ => rfl) hA, ef_inj (va_Efof (N := 13) (E := E_n) (d0 := E_d) (nm := nmE) (tm := fun i => .int (tbC i)) hev (fun i hi => hs _ (n_fc i hi)) (fun i _ => rfl) hA)⟩
