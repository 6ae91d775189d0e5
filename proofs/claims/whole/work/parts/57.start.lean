theorem wq50 : (.classLink "AppletFirewallLaw" 7 "AppletFirewall" : Cond) ∈ lw_g := List.mem_filter.mpr ⟨List.mem_of_getElem? (i := 50) (by decide +kernel), by decide +kernel⟩
theorem wq51 : (.instantiable "AppletFirewall" 9 : Cond) ∈ lw_g := List.mem_filter.mpr ⟨List.mem_of_getElem? (i := 51) (by decide +kernel), by decide +kernel⟩
theorem wq52 : (.methodLink "AppletFirewallLaw" 9 ⟨"AppletFirewall", "<init>", "()V"⟩ : Cond) ∈ lw_g := List.mem_filter.mpr ⟨List.mem_of_getElem? (i := 52) (by decide +kernel), by decide +kernel⟩
theorem wq53 : (.instanceMethod ⟨"AppletFirewall", "<init>", "()V"⟩ : Cond) ∈ lw_g := List.mem_filter.mpr ⟨List.mem_of_getElem? (i := 53) (by decide +kernel), by decide +kernel⟩
theorem wq54 : (.code ⟨"AppletFirewall", "<init>", "()V"⟩ prog_1_method_1_code 1 none : Cond) ∈ lw_g := List.mem_filter.mpr ⟨List.mem_of_getElem? (i := 54) (by decide +kernel), by decide +kernel⟩
theorem wq400 : (.classLink "AppletFirewallLaw" 10 "AppletFirewallModel" : Cond) ∈ lw_g := List.mem_filter.mpr ⟨List.mem_of_getElem? (i := 400) (by decide +kernel), by decide +kernel⟩
theorem wq401 : (.instantiable "AppletFirewallModel" 16 : Cond) ∈ lw_g := List.mem_filter.mpr ⟨List.mem_of_getElem? (i := 401) (by decide +kernel), by decide +kernel⟩
theorem wq402 : (.methodLink "AppletFirewallLaw" 12 ⟨"AppletFirewallModel", "<init>", "()V"⟩ : Cond) ∈ lw_g := List.mem_filter.mpr ⟨List.mem_of_getElem? (i := 402) (by decide +kernel), by decide +kernel⟩
theorem wq403 : (.instanceMethod ⟨"AppletFirewallModel", "<init>", "()V"⟩ : Cond) ∈ lw_g := List.mem_filter.mpr ⟨List.mem_of_getElem? (i := 403) (by decide +kernel), by decide +kernel⟩
theorem wq404 : (.code ⟨"AppletFirewallModel", "<init>", "()V"⟩ prog_7_method_1_code 2 none : Cond) ∈ lw_g := List.mem_filter.mpr ⟨List.mem_of_getElem? (i := 404) (by decide +kernel), by decide +kernel⟩
set_option maxHeartbeats 4000000 in
set_option maxRecDepth 100000 in
theorem whole_start {p : Program} {e : Env} {s : State} {m : MethodId} {below : List Frame} {meth : Method} {c : Code} (l : Launch) {b L : Nat} {xs : Nat → Int32} (hL : L ≤ 2048) (C0 : lw_At p s m meth c b L xs) : W p l e room_1 s m #[Value.ref b] below meth c s.heap [] 0 0 (lw_Z below #[Value.ref b] s) (entryFrame m ([Value.ref b] : List Value).toArray 4) := by
  obtain ⟨hx, hb, hr, hml, hown, hts, hX, hbl, hlocks, hgv⟩ := C0
  have hown' : s.vm.findClass "AppletFirewallLaw" = some m.cls := hown
  have hg0 : ∀ w ∈ lw_g, w.before #[Value.ref b] s = true := fun w h => hts w (List.mem_filter.mp h).1
  have htg : ∀ w ∈ (Cond.initialized "AppletFirewall" :: lw_g), w.before #[Value.ref b] s = true := fun w h => by
    rcases List.mem_cons.mp h with h | h
    · rw [h]; exact hg0 _ wq43
    · exact hg0 w h
  obtain ⟨dC, dI, cI, hK⟩ := k_start hg0
  obtain ⟨A, hA, hAs⟩ : ∃ A : Nat → Prop, (∀ q, s.heap.size ≤ q → A q) ∧ ∀ q, A q → s.heap.size ≤ q := ⟨fun q => s.heap.size ≤ q, fun _ h => h, fun _ h => h⟩
  have hbA : ¬ A b := fun h => Nat.not_le.mpr hbl (hAs b h)
  obtain ⟨ad, tA, tS, hE⟩ := est_start (A := A) hts hgv (fun a h h9 => Nat.not_le.mpr h (hAs a h9))
  obtain ⟨⟨mc, mw, mf, mz, ib, ic, xa, xg, xl, xo, xs, xv, xp⟩, ⟨nm, nb, nl, nc, nd, nf, na, nz, no, ns, nv, np, ni, nn, nu, nt⟩, i1, i2, hR⟩ := init_pair
  have hS : va_S A s.heap s.heap [] := va_S.rf
  have hP : va_P (dC, dI) vwCl [] s.heap := fun i q h => by cases h
  have hD : va_D A [] := ⟨fun i j p q hp => by simp at hp, fun i q h => by simp at h⟩
  have hl := lv_entry ([.ref b]) (n := 4) (Nat.le_of_ble_eq_true rfl)
  rw [lg_entry_eq]
  generalize (lg_sl ([.ref b]) ++ List.replicate (4 - (lg_sl ([.ref b])).length) Slot.unset).toArray = ls at hl ⊢
  have hl : lv_has ls 4 [(0, .ref b)] := hl
  refine va_new (ci := 0) (fs := [.null, .null, .null, .null, .int 0, .int 0, .int 0, .int 0, .int 0]) (C := R_A) (T := F_A) (N := 9) hx hb htg (fun w h => List.mem_cons_of_mem _ (in_A w h)) t_A t_A_ok hown' (htg _ (List.mem_cons_of_mem _ wq50)) (htg _ (List.mem_cons_of_mem _ wq51)) (htg _ (List.mem_cons_of_mem _ wq43)) hK hP hD hS hA rfl (fun j hj => by rcases (show j = 0 ∨ j = 1 ∨ j = 2 ∨ j = 3 ∨ j = 4 ∨ j = 5 ∨ j = 6 ∨ j = 7 ∨ j = 8 by omega) with rfl | rfl | rfl | rfl | rfl | rfl | rfl | rfl | rfl <;> rfl) (Nat.le_of_ble_eq_true rfl) (Nat.le_of_ble_eq_true rfl) d_L_law_0 (fun ha H hP hD hS => ?_)
  have hP : va_P (dC, dI) vwCl [(ha, .inr (0, [.null, .null, .null, .null, .int 0, .int 0, .int 0, .int 0, .int 0]))] H := hP
  have hD : va_D A [(ha, .inr (0, [.null, .null, .null, .null, .int 0, .int 0, .int 0, .int 0, .int 0]))] := hD
  refine lv_dup hx hb d_L_law_3 rfl ?_
  refine xnv (wr := []) (ctA_init l dC dI cI ha mc mw mf mz ib ic xa xg xl xo xs xv xp i1) ⟨hx, hb, hml, hown', htg⟩ (cwI 0 htg (gC wq54) rfl rfl rfl (htg _ (List.mem_cons_of_mem _ wq43)) (htg _ (List.mem_cons_of_mem _ wq52)) (htg _ (List.mem_cons_of_mem _ wq53)) rfl (by decide +kernel) ⟨Nat.le_of_ble_eq_true rfl, Nat.le_of_ble_eq_true rfl⟩) hK hP hD hS hA [0] [] rfl rfl rfl rfl (by decide) rfl hl.1 rfl (Nat.le_of_ble_eq_true rfl) d_L_law_4 ⟨Nat.le_of_ble_eq_true rfl, Nat.le_of_ble_eq_true rfl⟩ (fun u H locs hP hD hS => ?_)
  obtain ⟨hm, qc, hi, qb, qa, qg⟩ := u
  have hP : va_P (dC, dI) vwCl [(ha, .inr (0, [.ref hm, .ref hi, .ref qa, .ref qg, .int xl, .int xo, .int xs, .int xv, .int xp])), (hm, .inr (1, [.ref qc, .int mw, .int mf, .int mz])), (qc, .inl (cI, 149, .inl mc)), (hi, .inr (2, [.ref qb, .int ic])), (qb, .inl (cI, 24, .inl ib)), (qa, .inl (cI, 16, .inl xa)), (qg, .inl (cI, 4, .inl xg))] H := hP
  have hD : va_D A [(ha, .inr (0, [.ref hm, .ref hi, .ref qa, .ref qg, .int xl, .int xo, .int xs, .int xv, .int xp])), (hm, .inr (1, [.ref qc, .int mw, .int mf, .int mz])), (qc, .inl (cI, 149, .inl mc)), (hi, .inr (2, [.ref qb, .int ic])), (qb, .inl (cI, 24, .inl ib)), (qa, .inl (cI, 16, .inl xa)), (qg, .inl (cI, 4, .inl xg))] := hD
  refine lv_astore_n hx hb d_L_law_7 rfl hl (by decide) rfl (fun ls hl => ?_)
  have hl : lv_has ls 4 [(1, .ref ha), (0, .ref b)] := hl
  refine va_new (ci := 3) (fs := [.null, .null, .null, .int 0, .int 0, .int 0, .int 0, .int 0, .int 0, .int 0, .int 0, .int 0, .null, .int 0, .null, .int 0]) (C := R_Rf) (T := F_Rf) (N := 16) hx hb htg (fun w h => List.mem_cons_of_mem _ (in_Rf w h)) t_Rf t_Rf_ok hown' (htg _ (List.mem_cons_of_mem _ wq400)) (htg _ (List.mem_cons_of_mem _ wq401)) (htg _ (List.mem_cons_of_mem _ wq46)) hK hP hD hS hA rfl (fun j hj => by rcases (show j = 0 ∨ j = 1 ∨ j = 2 ∨ j = 3 ∨ j = 4 ∨ j = 5 ∨ j = 6 ∨ j = 7 ∨ j = 8 ∨ j = 9 ∨ j = 10 ∨ j = 11 ∨ j = 12 ∨ j = 13 ∨ j = 14 ∨ j = 15 by omega) with rfl | rfl | rfl | rfl | rfl | rfl | rfl | rfl | rfl | rfl | rfl | rfl | rfl | rfl | rfl | rfl <;> rfl) (Nat.le_of_ble_eq_true rfl) (Nat.le_of_ble_eq_true rfl) d_L_law_8 (fun hq H hP hD hS => ?_)
  have hP : va_P (dC, dI) vwCl [(ha, .inr (0, [.ref hm, .ref hi, .ref qa, .ref qg, .int xl, .int xo, .int xs, .int xv, .int xp])), (hm, .inr (1, [.ref qc, .int mw, .int mf, .int mz])), (qc, .inl (cI, 149, .inl mc)), (hi, .inr (2, [.ref qb, .int ic])), (qb, .inl (cI, 24, .inl ib)), (qa, .inl (cI, 16, .inl xa)), (qg, .inl (cI, 4, .inl xg)), (hq, .inr (3, [.null, .null, .null, .int 0, .int 0, .int 0, .int 0, .int 0, .int 0, .int 0, .int 0, .int 0, .null, .int 0, .null, .int 0]))] H := hP
  have hD : va_D A [(ha, .inr (0, [.ref hm, .ref hi, .ref qa, .ref qg, .int xl, .int xo, .int xs, .int xv, .int xp])), (hm, .inr (1, [.ref qc, .int mw, .int mf, .int mz])), (qc, .inl (cI, 149, .inl mc)), (hi, .inr (2, [.ref qb, .int ic])), (qb, .inl (cI, 24, .inl ib)), (qa, .inl (cI, 16, .inl xa)), (qg, .inl (cI, 4, .inl xg)), (hq, .inr (3, [.null, .null, .null, .int 0, .int 0, .int 0, .int 0, .int 0, .int 0, .int 0, .int 0, .int 0, .null, .int 0, .null, .int 0]))] := hD
  refine lv_dup hx hb d_L_law_11 rfl ?_
  refine xnv (wr := [(ha, .inr (0, [.ref hm, .ref hi, .ref qa, .ref qg, .int xl, .int xo, .int xs, .int xv, .int xp])), (hm, .inr (1, [.ref qc, .int mw, .int mf, .int mz])), (qc, .inl (cI, 149, .inl mc)), (hi, .inr (2, [.ref qb, .int ic])), (qb, .inl (cI, 24, .inl ib)), (qa, .inl (cI, 16, .inl xa)), (qg, .inl (cI, 4, .inl xg))]) (ctRf_init l dC dI cI hq nm nb nl nc nd nf na nz no ns nv np ni nn nu nt i2) ⟨hx, hb, hml, hown', htg⟩ (cwI 0 htg (gC wq404) rfl rfl rfl (htg _ (List.mem_cons_of_mem _ wq46)) (htg _ (List.mem_cons_of_mem _ wq402)) (htg _ (List.mem_cons_of_mem _ wq403)) rfl (by decide +kernel) ⟨Nat.le_of_ble_eq_true rfl, Nat.le_of_ble_eq_true rfl⟩) hK hP hD hS hA [7] [0, 1, 2, 3, 4, 5, 6] rfl rfl rfl rfl (by decide) rfl hl.1 rfl (Nat.le_of_ble_eq_true rfl) d_L_law_12 ⟨Nat.le_of_ble_eq_true rfl, Nat.le_of_ble_eq_true rfl⟩ (fun u H locs hP hD hS => ?_)
  obtain ⟨qm, qf, ql, qi, qo⟩ := u
  have hP : va_P (dC, dI) vwCl [(ha, .inr (0, [.ref hm, .ref hi, .ref qa, .ref qg, .int xl, .int xo, .int xs, .int xv, .int xp])), (hm, .inr (1, [.ref qc, .int mw, .int mf, .int mz])), (qc, .inl (cI, 149, .inl mc)), (hi, .inr (2, [.ref qb, .int ic])), (qb, .inl (cI, 24, .inl ib)), (qa, .inl (cI, 16, .inl xa)), (qg, .inl (cI, 4, .inl xg)), (hq, .inr (3, [.ref qm, .ref qf, .ref ql, .int nc, .int nd, .int nf, .int na, .int nz, .int no, .int ns, .int nv, .int np, .ref qi, .int nn, .ref qo, .int nt])), (qm, .inl (cI, 104, .inl nm)), (qf, .inl (cI, 104, .inl nb)), (ql, .inl (cI, 4, .inl nl)), (qi, .inl (cI, 24, .inl ni)), (qo, .inl (cI, 16, .inl nu))] H := hP
  have hD : va_D A [(ha, .inr (0, [.ref hm, .ref hi, .ref qa, .ref qg, .int xl, .int xo, .int xs, .int xv, .int xp])), (hm, .inr (1, [.ref qc, .int mw, .int mf, .int mz])), (qc, .inl (cI, 149, .inl mc)), (hi, .inr (2, [.ref qb, .int ic])), (qb, .inl (cI, 24, .inl ib)), (qa, .inl (cI, 16, .inl xa)), (qg, .inl (cI, 4, .inl xg)), (hq, .inr (3, [.ref qm, .ref qf, .ref ql, .int nc, .int nd, .int nf, .int na, .int nz, .int no, .int ns, .int nv, .int np, .ref qi, .int nn, .ref qo, .int nt])), (qm, .inl (cI, 104, .inl nm)), (qf, .inl (cI, 104, .inl nb)), (ql, .inl (cI, 4, .inl nl)), (qi, .inl (cI, 24, .inl ni)), (qo, .inl (cI, 16, .inl nu))] := hD
  refine lv_astore_n hx hb d_L_law_15 rfl hl (by decide) rfl (fun ls hl => ?_)
  refine lv_iconst (v := 0) hx hb d_L_law_16 (by decide) ?_
  refine lv_istore_n hx hb d_L_law_17 rfl hl (by decide) rfl (fun ls hl => ?_)
  have hl : lv_has ls 4 [(3, .int 0), (2, .ref hq), (1, .ref ha), (0, .ref b)] := hl
  have hl := lv_sub (l' := [(0, .ref b), (1, .ref ha), (2, .ref hq), (3, .int (nI 0))]) hl [3, 2, 1, 0] rfl
  refine W.widen (k := 13) (n := 476) (Nat.le_of_ble_eq_true rfl) (Nat.le_of_ble_eq_true rfl) ?_
  exact law_loop ⟨hx, hb, hml, hown', htg, hX, hbl⟩ hL hK hE hA hAs hbA hr hlocks (L + 1) (0, (mc, mw, mf, mz, ib, ic, xa, xg, xl, xo, xs, xv, xp), (nm, nb, nl, nc, nd, nf, na, nz, no, ns, nv, np, ni, nn, nu, nt)) H _ ls ⟨hP, hD, hS, hl, hR, Nat.zero_le _, by show L < 0 + 4 * (L + 1); omega⟩
