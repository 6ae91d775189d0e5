theorem d_A_shareByte_0 : decode b_A_shareByte 0 = .ok (.aload_n 0, 1) := by decide +kernel
theorem d_A_shareByte_1 : decode b_A_shareByte 1 = .ok (.getfield 10, 3) := by decide +kernel
theorem d_A_shareByte_4 : decode b_A_shareByte 4 = .ok (.iload_n 1, 1) := by decide +kernel
theorem d_A_shareByte_5 : decode b_A_shareByte 5 = .ok (.invokestatic 217, 3) := by decide +kernel
theorem d_A_shareByte_8 : decode b_A_shareByte 8 = .ok (.iload_n 2, 1) := by decide +kernel
theorem d_A_shareByte_9 : decode b_A_shareByte 9 = .ok (.iadd, 1) := by decide +kernel
theorem d_A_shareByte_10 : decode b_A_shareByte 10 = .ok (.invokevirtual 97, 3) := by decide +kernel
theorem d_A_shareByte_13 : decode b_A_shareByte 13 = .ok (.ireturn, 1) := by decide +kernel
def fA_shareByte (σ : StX) (a1 : Int32) (a2 : Int32) : Option (Int32) := match σ with | (mc, mw, mf, mz, ib, ic, xa, xg, xl, xo, xs, xv, xp) => bd1 (fA_sharePlace a1) fun r1 => bd1 (fM_at (mc, mw, mf, mz) (r1 + a2)) fun r2 => some r2
set_option maxHeartbeats 4000000 in
set_option maxRecDepth 100000 in
theorem ctA_shareByte (l : Launch) (dC : Nat → ClassId) (dI : Nat → Nat → Nat) (cI : ClassId) (ha hm qc hi qb qa qg : Nat) (mc : Nat → Int32) (mw : Int32) (mf : Int32) (mz : Int32) (ib : Nat → Int32) (ic : Int32) (xa : Nat → Int32) (xg : Nat → Int32) (xl : Int32) (xo : Int32) (xs : Int32) (xv : Int32) (xp : Int32) (a1 : Int32) (a2 : Int32) (r : Int32) (hf : fA_shareByte (mc, mw, mf, mz, ib, ic, xa, xg, xl, xo, xs, xv, xp) a1 a2 = some r) : CtI l y_A_shareByte w_A_shareByte ({ frames := 1, cells := 0, slots := 0, locals := 21 }) (dC, dI) [(cI, .int)] [.ref ha, .int a1, .int a2] [(ha, .inr (0, [.ref hm, .ref hi, .ref qa, .ref qg, .int xl, .int xo, .int xs, .int xv, .int xp])), (hm, .inr (1, [.ref qc, .int mw, .int mf, .int mz])), (qc, .inl (cI, 149, .inl mc)), (hi, .inr (2, [.ref qb, .int ic])), (qb, .inl (cI, 24, .inl ib)), (qa, .inl (cI, 16, .inl xa)), (qg, .inl (cI, 4, .inl xg))] [(ha, .inr (0, [.ref hm, .ref hi, .ref qa, .ref qg, .int xl, .int xo, .int xs, .int xv, .int xp])), (hm, .inr (1, [.ref qc, .int mw, .int mf, .int mz])), (qc, .inl (cI, 149, .inl mc)), (hi, .inr (2, [.ref qb, .int ic])), (qb, .inl (cI, 24, .inl ib)), (qa, .inl (cI, 16, .inl xa)), (qg, .inl (cI, 4, .inl xg))] r := by
  intro sz
  refine Met.ofW (cc := b_A_shareByte) (maxL := 3) (ret := some .int) (by decide) rfl ?_
  intro p e s m args below meth c s₁ B hml hv
  obtain ⟨rfl, hsz, hP, hK, hD0⟩ := hv
  have hx := B.exec
  have hb := B.bytes
  have hr := B.returns
  have hts := atoms_spec (ws := w_A_shareByte) B.pre
  have hown : s.vm.findClass R_A = some m.cls := findClass_of_methodNamed B.named
  have hlocks := B.notSynchronized
  subst hsz
  have hD := hD0.self (sz := s.heap.size)
  generalize hAe : va_A [(ha, .inr (0, [.ref hm, .ref hi, .ref qa, .ref qg, .int xl, .int xo, .int xs, .int xv, .int xp])), (hm, .inr (1, [.ref qc, .int mw, .int mf, .int mz])), (qc, .inl (cI, 149, .inl mc)), (hi, .inr (2, [.ref qb, .int ic])), (qb, .inl (cI, 24, .inl ib)), (qa, .inl (cI, 16, .inl xa)), (qg, .inl (cI, 4, .inl xg))] s.heap.size = A at hD ⊢
  have hA : ∀ q : Nat, s.heap.size ≤ q → A q := fun q h => by rw [← hAe]; exact Or.inr h
  have hS : va_S A s.heap s.heap [] := va_S.rf
  have hP : va_P (dC, dI) vwCl [(ha, .inr (0, [.ref hm, .ref hi, .ref qa, .ref qg, .int xl, .int xo, .int xs, .int xv, .int xp])), (hm, .inr (1, [.ref qc, .int mw, .int mf, .int mz])), (qc, .inl (cI, 149, .inl mc)), (hi, .inr (2, [.ref qb, .int ic])), (qb, .inl (cI, 24, .inl ib)), (qa, .inl (cI, 16, .inl xa)), (qg, .inl (cI, 4, .inl xg))] s.heap := hP
  have hl := lv_entry ([.ref ha, .int a1, .int a2]) (n := 3) (Nat.le_of_ble_eq_true rfl)
  rw [lg_entry_eq]
  generalize (lg_sl ([.ref ha, .int a1, .int a2]) ++ List.replicate (3 - (lg_sl ([.ref ha, .int a1, .int a2])).length) Slot.unset).toArray = ls at hl ⊢
  have hl : lv_has ls 3 [(0, .ref ha), (1, .int a1), (2, .int a2)] := hl
  have inA : ∀ w ∈ u_ws R_A F_A 9, w ∈ w_A_shareByte := fun w h => List.mem_cons_of_mem _ (in_A w h)
  have kf10 := hts _ (List.mem_cons_of_mem _ wq91)
  rw [fA_shareByte] at hf
  refine lv_aload_n hx hb d_A_shareByte_0 rfl (lv_at hl 0 rfl) ?_
  refine va_get (D := (dC, dI)) (ci := 0) (v := .ref hm) (C := R_A) (T := F_A) (N := 9) hx hb hts inA hown hK hP 0 rfl rfl 0 (by decide) kf10 (fun _ h9 => h9) rfl d_A_shareByte_1 ?_
  refine lv_iload_n hx hb d_A_shareByte_4 rfl (lv_at hl 1 rfl) ?_
  obtain ⟨r1, hg, hf⟩ := bd1_some hf
  refine xsi (ctA_sharePlace l dC dI cI a1 r1 hg) ⟨hx, hb, hml, hown, hts⟩ (va_cwS 1 hts (gS wq305 wq306 wq43 wq307) rfl rfl rfl (by decide +kernel) ⟨Nat.le_of_ble_eq_true rfl, Nat.le_of_ble_eq_true rfl⟩) hK hP hD hS hA rfl hl.1 rfl (Nat.le_of_ble_eq_true rfl) d_A_shareByte_5 ⟨Nat.zero_le _, Nat.zero_le _⟩ (fun H locs hP hD hS => ?_)
  refine lv_iload_n hx hb d_A_shareByte_8 rfl (lv_at hl 2 rfl) ?_
  refine lv_iadd hx hb d_A_shareByte_9 ?_
  obtain ⟨r2, hg, hf⟩ := bd1_some hf
  refine xci (wr := [(ha, .inr (0, [.ref hm, .ref hi, .ref qa, .ref qg, .int xl, .int xo, .int xs, .int xv, .int xp])), (hi, .inr (2, [.ref qb, .int ic])), (qb, .inl (cI, 24, .inl ib)), (qa, .inl (cI, 16, .inl xa)), (qg, .inl (cI, 4, .inl xg))]) (ctM_at l dC dI cI hm qc mc mw mf mz (r1 + a2) r2 hg) ⟨hx, hb, hml, hown, hts⟩ (cwV (C := R_M) 1 hts (gV wq229 wq230 wq231 wq44 wq232) rfl rfl rfl (by decide +kernel) ⟨Nat.le_of_ble_eq_true rfl, Nat.le_of_ble_eq_true rfl⟩) hK hP hD hS hA [1, 2] [0, 3, 4, 5, 6] rfl rfl rfl rfl (by decide) (ci := 1) (q0 := 1) rfl rfl rfl rfl hl.1 rfl (Nat.le_of_ble_eq_true rfl) d_A_shareByte_10 ⟨Nat.zero_le _, Nat.zero_le _⟩ (fun H locs hP hD hS => ?_)
  have hP : va_P (dC, dI) vwCl [(ha, .inr (0, [.ref hm, .ref hi, .ref qa, .ref qg, .int xl, .int xo, .int xs, .int xv, .int xp])), (hi, .inr (2, [.ref qb, .int ic])), (qb, .inl (cI, 24, .inl ib)), (qa, .inl (cI, 16, .inl xa)), (qg, .inl (cI, 4, .inl xg)), (hm, .inr (1, [.ref qc, .int mw, .int mf, .int mz])), (qc, .inl (cI, 149, .inl mc))] H := hP
  have hD : va_D A [(ha, .inr (0, [.ref hm, .ref hi, .ref qa, .ref qg, .int xl, .int xo, .int xs, .int xv, .int xp])), (hi, .inr (2, [.ref qb, .int ic])), (qb, .inl (cI, 24, .inl ib)), (qa, .inl (cI, 16, .inl xa)), (qg, .inl (cI, 4, .inl xg)), (hm, .inr (1, [.ref qc, .int mw, .int mf, .int mz])), (qc, .inl (cI, 149, .inl mc))] := hD
  have e1_ := lf1 hf
  subst e1_
  have hP9 := hP.sub (ws' := [(ha, .inr (0, [.ref hm, .ref hi, .ref qa, .ref qg, .int xl, .int xo, .int xs, .int xv, .int xp])), (hm, .inr (1, [.ref qc, .int mw, .int mf, .int mz])), (qc, .inl (cI, 149, .inl mc)), (hi, .inr (2, [.ref qb, .int ic])), (qb, .inl (cI, 24, .inl ib)), (qa, .inl (cI, 16, .inl xa)), (qg, .inl (cI, 4, .inl xg))]) [0, 5, 6, 1, 2, 3, 4] rfl
  have hD9 := hD.sub (ws' := [(ha, .inr (0, [.ref hm, .ref hi, .ref qa, .ref qg, .int xl, .int xo, .int xs, .int xv, .int xp])), (hm, .inr (1, [.ref qc, .int mw, .int mf, .int mz])), (qc, .inl (cI, 149, .inl mc)), (hi, .inr (2, [.ref qb, .int ic])), (qb, .inl (cI, 24, .inl ib)), (qa, .inl (cI, 16, .inl xa)), (qg, .inl (cI, 4, .inl xg))]) [0, 5, 6, 1, 2, 3, 4] (by decide) rfl
  exact W.iret (v := r2) hx hb hr (fun t ht hW => ⟨⟨r2, (), rfl, rfl, by rw [ht]; exact hP9, va_K.moved hW.alike hK, hD9⟩, hS.F ht⟩) hS.2.2 d_A_shareByte_13
theorem d_A_share_0 : decode b_A_share 0 = .ok (.iload_n 1, 1) := by decide +kernel
theorem d_A_share_1 : decode b_A_share 1 = .ok (.ifCond .lt 9, 3) := by decide +kernel
theorem d_A_share_4 : decode b_A_share 4 = .ok (.iload_n 1, 1) := by decide +kernel
theorem d_A_share_5 : decode b_A_share 5 = .ok (.bipush 8, 2) := by decide +kernel
theorem d_A_share_7 : decode b_A_share 7 = .ok (.if_icmp .lt 6, 3) := by decide +kernel
theorem d_A_share_10 : decode b_A_share 10 = .ok (.bipush (-2), 2) := by decide +kernel
theorem d_A_share_12 : decode b_A_share 12 = .ok (.ireturn, 1) := by decide +kernel
theorem d_A_share_13 : decode b_A_share 13 = .ok (.aload_n 0, 1) := by decide +kernel
theorem d_A_share_14 : decode b_A_share 14 = .ok (.getfield 34, 3) := by decide +kernel
theorem d_A_share_17 : decode b_A_share 17 = .ok (.ifCond .ne 5, 3) := by decide +kernel
theorem d_A_share_20 : decode b_A_share 20 = .ok (.iconst (-1), 1) := by decide +kernel
theorem d_A_share_21 : decode b_A_share 21 = .ok (.ireturn, 1) := by decide +kernel
theorem d_A_share_22 : decode b_A_share 22 = .ok (.iconst 0, 1) := by decide +kernel
theorem d_A_share_23 : decode b_A_share 23 = .ok (.istore_n 2, 1) := by decide +kernel
theorem d_A_share_24 : decode b_A_share 24 = .ok (.iconst 3, 1) := by decide +kernel
theorem d_A_share_25 : decode b_A_share 25 = .ok (.istore_n 3, 1) := by decide +kernel
theorem d_A_share_26 : decode b_A_share 26 = .ok (.iload_n 3, 1) := by decide +kernel
theorem d_A_share_27 : decode b_A_share 27 = .ok (.ifCond .lt 22, 3) := by decide +kernel
theorem d_A_share_30 : decode b_A_share 30 = .ok (.sipush 256, 3) := by decide +kernel
theorem d_A_share_33 : decode b_A_share 33 = .ok (.iload_n 2, 1) := by decide +kernel
theorem d_A_share_34 : decode b_A_share 34 = .ok (.imul, 1) := by decide +kernel
theorem d_A_share_35 : decode b_A_share 35 = .ok (.aload_n 0, 1) := by decide +kernel
theorem d_A_share_36 : decode b_A_share 36 = .ok (.iload_n 1, 1) := by decide +kernel
theorem d_A_share_37 : decode b_A_share 37 = .ok (.iload_n 3, 1) := by decide +kernel
theorem d_A_share_38 : decode b_A_share 38 = .ok (.invokevirtual 104, 3) := by decide +kernel
theorem d_A_share_41 : decode b_A_share 41 = .ok (.iadd, 1) := by decide +kernel
theorem d_A_share_42 : decode b_A_share 42 = .ok (.istore_n 2, 1) := by decide +kernel
theorem d_A_share_43 : decode b_A_share 43 = .ok (.iinc 3 (-1), 3) := by decide +kernel
theorem d_A_share_46 : decode b_A_share 46 = .ok (.goto (-20), 3) := by decide +kernel
theorem d_A_share_49 : decode b_A_share 49 = .ok (.iload_n 2, 1) := by decide +kernel
theorem d_A_share_50 : decode b_A_share 50 = .ok (.ireturn, 1) := by decide +kernel
def fA_share_L26 : Nat → StX → Int32 → Int32 → Int32 → Option (Int32)
  | 0, _, _, _, _ => none
  | n + 1, (mc, mw, mf, mz, ib, ic, xa, xg, xl, xo, xs, xv, xp), v1, v2, v3 => if v3 < 0 then (some v2) else (bd1 (fA_shareByte (mc, mw, mf, mz, ib, ic, xa, xg, xl, xo, xs, xv, xp) v1 v3) fun r5 => fA_share_L26 n (mc, mw, mf, mz, ib, ic, xa, xg, xl, xo, xs, xv, xp) v1 ((256 * v2) + r5) (v3 + (-1)))
def fA_share (σ : StX) (a1 : Int32) : Option (Int32) := match σ with | (mc, mw, mf, mz, ib, ic, xa, xg, xl, xo, xs, xv, xp) => if a1 < 0 then (some (-2)) else (if a1 < 8 then (if xo = 0 then (some (-1)) else (fA_share_L26 300 (mc, mw, mf, mz, ib, ic, xa, xg, xl, xo, xs, xv, xp) a1 0 3)) else (some (-2)))
set_option maxHeartbeats 4000000 in
set_option maxRecDepth 100000 in
theorem ctA_share (l : Launch) (dC : Nat → ClassId) (dI : Nat → Nat → Nat) (cI : ClassId) (ha hm qc hi qb qa qg : Nat) (mc : Nat → Int32) (mw : Int32) (mf : Int32) (mz : Int32) (ib : Nat → Int32) (ic : Int32) (xa : Nat → Int32) (xg : Nat → Int32) (xl : Int32) (xo : Int32) (xs : Int32) (xv : Int32) (xp : Int32) (a1 : Int32) (r : Int32) (hf : fA_share (mc, mw, mf, mz, ib, ic, xa, xg, xl, xo, xs, xv, xp) a1 = some r) : CtI l y_A_share w_A_share ({ frames := 2, cells := 0, slots := 0, locals := 43 }) (dC, dI) [(cI, .int)] [.ref ha, .int a1] [(ha, .inr (0, [.ref hm, .ref hi, .ref qa, .ref qg, .int xl, .int xo, .int xs, .int xv, .int xp])), (hm, .inr (1, [.ref qc, .int mw, .int mf, .int mz])), (qc, .inl (cI, 149, .inl mc)), (hi, .inr (2, [.ref qb, .int ic])), (qb, .inl (cI, 24, .inl ib)), (qa, .inl (cI, 16, .inl xa)), (qg, .inl (cI, 4, .inl xg))] [(ha, .inr (0, [.ref hm, .ref hi, .ref qa, .ref qg, .int xl, .int xo, .int xs, .int xv, .int xp])), (hm, .inr (1, [.ref qc, .int mw, .int mf, .int mz])), (qc, .inl (cI, 149, .inl mc)), (hi, .inr (2, [.ref qb, .int ic])), (qb, .inl (cI, 24, .inl ib)), (qa, .inl (cI, 16, .inl xa)), (qg, .inl (cI, 4, .inl xg))] r := by
  intro sz
  refine Met.ofW (cc := b_A_share) (maxL := 4) (ret := some .int) (by decide) rfl ?_
  intro p e s m args below meth c s₁ B hml hv
  obtain ⟨rfl, hsz, hP, hK, hD0⟩ := hv
  have hx := B.exec
  have hb := B.bytes
  have hr := B.returns
  have hts := atoms_spec (ws := w_A_share) B.pre
  have hown : s.vm.findClass R_A = some m.cls := findClass_of_methodNamed B.named
  have hlocks := B.notSynchronized
  subst hsz
  have hD := hD0.self (sz := s.heap.size)
  generalize hAe : va_A [(ha, .inr (0, [.ref hm, .ref hi, .ref qa, .ref qg, .int xl, .int xo, .int xs, .int xv, .int xp])), (hm, .inr (1, [.ref qc, .int mw, .int mf, .int mz])), (qc, .inl (cI, 149, .inl mc)), (hi, .inr (2, [.ref qb, .int ic])), (qb, .inl (cI, 24, .inl ib)), (qa, .inl (cI, 16, .inl xa)), (qg, .inl (cI, 4, .inl xg))] s.heap.size = A at hD ⊢
  have hA : ∀ q : Nat, s.heap.size ≤ q → A q := fun q h => by rw [← hAe]; exact Or.inr h
  have hS : va_S A s.heap s.heap [] := va_S.rf
  have hP : va_P (dC, dI) vwCl [(ha, .inr (0, [.ref hm, .ref hi, .ref qa, .ref qg, .int xl, .int xo, .int xs, .int xv, .int xp])), (hm, .inr (1, [.ref qc, .int mw, .int mf, .int mz])), (qc, .inl (cI, 149, .inl mc)), (hi, .inr (2, [.ref qb, .int ic])), (qb, .inl (cI, 24, .inl ib)), (qa, .inl (cI, 16, .inl xa)), (qg, .inl (cI, 4, .inl xg))] s.heap := hP
  have hl := lv_entry ([.ref ha, .int a1]) (n := 4) (Nat.le_of_ble_eq_true rfl)
  rw [lg_entry_eq]
  generalize (lg_sl ([.ref ha, .int a1]) ++ List.replicate (4 - (lg_sl ([.ref ha, .int a1])).length) Slot.unset).toArray = ls at hl ⊢
  have hl : lv_has ls 4 [(0, .ref ha), (1, .int a1)] := hl
  have inA : ∀ w ∈ u_ws R_A F_A 9, w ∈ w_A_share := fun w h => List.mem_cons_of_mem _ (in_A w h)
  have kf34 := hts _ (List.mem_cons_of_mem _ wq96)
  rw [fA_share] at hf
  refine lv_iload_n hx hb d_A_share_0 rfl (lv_at hl 1 rfl) ?_
  refine lv_if_lt (tgt := 10) hx hb d_A_share_1 rfl (fun hc1 => ?_) (fun hc1 => ?_)
  · have hf := ift hf hc1
    refine lv_bipush (v := (-2)) hx hb d_A_share_10 (by decide) ?_
    have e1_ := lf1 hf
    subst e1_
    have hP9 := hP.sub (ws' := [(ha, .inr (0, [.ref hm, .ref hi, .ref qa, .ref qg, .int xl, .int xo, .int xs, .int xv, .int xp])), (hm, .inr (1, [.ref qc, .int mw, .int mf, .int mz])), (qc, .inl (cI, 149, .inl mc)), (hi, .inr (2, [.ref qb, .int ic])), (qb, .inl (cI, 24, .inl ib)), (qa, .inl (cI, 16, .inl xa)), (qg, .inl (cI, 4, .inl xg))]) [0, 1, 2, 3, 4, 5, 6] rfl
    have hD9 := hD.sub (ws' := [(ha, .inr (0, [.ref hm, .ref hi, .ref qa, .ref qg, .int xl, .int xo, .int xs, .int xv, .int xp])), (hm, .inr (1, [.ref qc, .int mw, .int mf, .int mz])), (qc, .inl (cI, 149, .inl mc)), (hi, .inr (2, [.ref qb, .int ic])), (qb, .inl (cI, 24, .inl ib)), (qa, .inl (cI, 16, .inl xa)), (qg, .inl (cI, 4, .inl xg))]) [0, 1, 2, 3, 4, 5, 6] (by decide) rfl
    exact W.iret (v := (-2)) hx hb hr (fun t ht hW => ⟨⟨(-2), (), rfl, rfl, by rw [ht]; exact hP9, va_K.moved hW.alike hK, hD9⟩, hS.F ht⟩) hS.2.2 d_A_share_12
  have hf := ifn hf hc1
  refine lv_iload_n hx hb d_A_share_4 rfl (lv_at hl 1 rfl) ?_
  refine lv_bipush (v := 8) hx hb d_A_share_5 (by decide) ?_
  refine lv_icmp_lt (tgt := 13) hx hb d_A_share_7 rfl (fun hc2 => ?_) (fun hc2 => ?_)
  · have hf := ift hf hc2
    refine lv_aload_n hx hb d_A_share_13 rfl (lv_at hl 0 rfl) ?_
    refine va_get (D := (dC, dI)) (ci := 0) (v := .int xo) (C := R_A) (T := F_A) (N := 9) hx hb hts inA hown hK hP 0 rfl rfl 5 (by decide) kf34 (fun _ h9 => h9) rfl d_A_share_14 ?_
    refine lv_if_ne (tgt := 22) hx hb d_A_share_17 rfl (fun hc3 => ?_) (fun hc3 => ?_)
    · have hf := ifn hf hc3
      refine lv_iconst (v := 0) hx hb d_A_share_22 (by decide) ?_
      refine lv_istore_n hx hb d_A_share_23 rfl hl (by decide) rfl (fun ls hl => ?_)
      have hl : lv_has ls 4 [(2, .int 0), (0, .ref ha), (1, .int a1)] := hl
      refine lv_iconst (v := 3) hx hb d_A_share_24 (by decide) ?_
      refine lv_istore_n hx hb d_A_share_25 rfl hl (by decide) rfl (fun ls hl => ?_)
      have hl : lv_has ls 4 [(3, .int 3), (2, .int 0), (0, .ref ha), (1, .int a1)] := hl
      have hl := lv_sub (l' := [(0, .ref ha), (1, .int a1), (2, .int 0), (3, .int 3)]) hl [2, 3, 1, 0] rfl
      refine xloop (σ := (Int32) × (Int32) × (Int32)) (pc := 26) (fun n x H locs ls => va_P (dC, dI) vwCl [(ha, .inr (0, [.ref hm, .ref hi, .ref qa, .ref qg, .int xl, .int xo, .int xs, .int xv, .int xp])), (hm, .inr (1, [.ref qc, .int mw, .int mf, .int mz])), (qc, .inl (cI, 149, .inl mc)), (hi, .inr (2, [.ref qb, .int ic])), (qb, .inl (cI, 24, .inl ib)), (qa, .inl (cI, 16, .inl xa)), (qg, .inl (cI, 4, .inl xg))] H ∧ va_D A [(ha, .inr (0, [.ref hm, .ref hi, .ref qa, .ref qg, .int xl, .int xo, .int xs, .int xv, .int xp])), (hm, .inr (1, [.ref qc, .int mw, .int mf, .int mz])), (qc, .inl (cI, 149, .inl mc)), (hi, .inr (2, [.ref qb, .int ic])), (qb, .inl (cI, 24, .inl ib)), (qa, .inl (cI, 16, .inl xa)), (qg, .inl (cI, 4, .inl xg))] ∧ va_S A s.heap H locs ∧ lv_has ls 4 [(0, .ref ha), (1, .int (x.1)), (2, .int (x.2.1)), (3, .int (x.2.2))] ∧ fA_share_L26 n (mc, mw, mf, mz, ib, ic, xa, xg, xl, xo, xs, xv, xp) x.1 x.2.1 x.2.2 = some r) ?_ (fun x H locs ls h => by have h9 := h.2.2.2.2; rw [fA_share_L26] at h9; cases h9) 300 (a1, 0, 3) _ _ ls ⟨hP, hD, hS, hl, hf⟩
      intro n ih x H locs ls hI
      obtain ⟨v1, v2, v3⟩ := x
      obtain ⟨hP, hD, hS, hl, hf⟩ := hI
      have hP : va_P (dC, dI) vwCl [(ha, .inr (0, [.ref hm, .ref hi, .ref qa, .ref qg, .int xl, .int xo, .int xs, .int xv, .int xp])), (hm, .inr (1, [.ref qc, .int mw, .int mf, .int mz])), (qc, .inl (cI, 149, .inl mc)), (hi, .inr (2, [.ref qb, .int ic])), (qb, .inl (cI, 24, .inl ib)), (qa, .inl (cI, 16, .inl xa)), (qg, .inl (cI, 4, .inl xg))] H := hP
      have hD : va_D A [(ha, .inr (0, [.ref hm, .ref hi, .ref qa, .ref qg, .int xl, .int xo, .int xs, .int xv, .int xp])), (hm, .inr (1, [.ref qc, .int mw, .int mf, .int mz])), (qc, .inl (cI, 149, .inl mc)), (hi, .inr (2, [.ref qb, .int ic])), (qb, .inl (cI, 24, .inl ib)), (qa, .inl (cI, 16, .inl xa)), (qg, .inl (cI, 4, .inl xg))] := hD
      have hl : lv_has ls 4 [(0, .ref ha), (1, .int v1), (2, .int v2), (3, .int v3)] := hl
      rw [fA_share_L26] at hf
      refine lv_iload_n hx hb d_A_share_26 rfl (lv_at hl 3 rfl) ?_
      refine lv_if_lt (tgt := 49) hx hb d_A_share_27 rfl (fun hc4 => ?_) (fun hc4 => ?_)
      · have hf := ift hf hc4
        refine lv_iload_n hx hb d_A_share_49 rfl (lv_at hl 2 rfl) ?_
        have e1_ := lf1 hf
        subst e1_
        have hP9 := hP.sub (ws' := [(ha, .inr (0, [.ref hm, .ref hi, .ref qa, .ref qg, .int xl, .int xo, .int xs, .int xv, .int xp])), (hm, .inr (1, [.ref qc, .int mw, .int mf, .int mz])), (qc, .inl (cI, 149, .inl mc)), (hi, .inr (2, [.ref qb, .int ic])), (qb, .inl (cI, 24, .inl ib)), (qa, .inl (cI, 16, .inl xa)), (qg, .inl (cI, 4, .inl xg))]) [0, 1, 2, 3, 4, 5, 6] rfl
        have hD9 := hD.sub (ws' := [(ha, .inr (0, [.ref hm, .ref hi, .ref qa, .ref qg, .int xl, .int xo, .int xs, .int xv, .int xp])), (hm, .inr (1, [.ref qc, .int mw, .int mf, .int mz])), (qc, .inl (cI, 149, .inl mc)), (hi, .inr (2, [.ref qb, .int ic])), (qb, .inl (cI, 24, .inl ib)), (qa, .inl (cI, 16, .inl xa)), (qg, .inl (cI, 4, .inl xg))]) [0, 1, 2, 3, 4, 5, 6] (by decide) rfl
        exact W.iret (v := v2) hx hb hr (fun t ht hW => ⟨⟨v2, (), rfl, rfl, by rw [ht]; exact hP9, va_K.moved hW.alike hK, hD9⟩, hS.F ht⟩) hS.2.2 d_A_share_50
      have hf := ifn hf hc4
      refine lv_sipush (v := 256) hx hb d_A_share_30 (by decide) ?_
      refine lv_iload_n hx hb d_A_share_33 rfl (lv_at hl 2 rfl) ?_
      refine lv_imul hx hb d_A_share_34 ?_
      refine lv_aload_n hx hb d_A_share_35 rfl (lv_at hl 0 rfl) ?_
      refine lv_iload_n hx hb d_A_share_36 rfl (lv_at hl 1 rfl) ?_
      refine lv_iload_n hx hb d_A_share_37 rfl (lv_at hl 3 rfl) ?_
      obtain ⟨r5, hg, hf⟩ := bd1_some hf
      refine xci (wr := []) (ctA_shareByte l dC dI cI ha hm qc hi qb qa qg mc mw mf mz ib ic xa xg xl xo xs xv xp v1 v3 r5 hg) ⟨hx, hb, hml, hown, hts⟩ (cwV (C := R_A) 2 hts (gV wq301 wq303 wq15 wq43 wq304) rfl rfl rfl (by decide +kernel) ⟨Nat.le_of_ble_eq_true rfl, Nat.le_of_ble_eq_true rfl⟩) hK hP hD hS hA [0, 1, 2, 3, 4, 5, 6] [] rfl rfl rfl rfl (by decide) (ci := 0) (q0 := 0) rfl rfl rfl rfl hl.1 rfl (Nat.le_of_ble_eq_true rfl) d_A_share_38 ⟨Nat.zero_le _, Nat.zero_le _⟩ (fun H locs hP hD hS => ?_)
      have hP : va_P (dC, dI) vwCl [(ha, .inr (0, [.ref hm, .ref hi, .ref qa, .ref qg, .int xl, .int xo, .int xs, .int xv, .int xp])), (hm, .inr (1, [.ref qc, .int mw, .int mf, .int mz])), (qc, .inl (cI, 149, .inl mc)), (hi, .inr (2, [.ref qb, .int ic])), (qb, .inl (cI, 24, .inl ib)), (qa, .inl (cI, 16, .inl xa)), (qg, .inl (cI, 4, .inl xg))] H := hP
      have hD : va_D A [(ha, .inr (0, [.ref hm, .ref hi, .ref qa, .ref qg, .int xl, .int xo, .int xs, .int xv, .int xp])), (hm, .inr (1, [.ref qc, .int mw, .int mf, .int mz])), (qc, .inl (cI, 149, .inl mc)), (hi, .inr (2, [.ref qb, .int ic])), (qb, .inl (cI, 24, .inl ib)), (qa, .inl (cI, 16, .inl xa)), (qg, .inl (cI, 4, .inl xg))] := hD
      refine lv_iadd hx hb d_A_share_41 ?_
      refine lv_istore_n hx hb d_A_share_42 rfl hl (by decide) rfl (fun ls hl => ?_)
      have hl : lv_has ls 4 [(2, .int ((256 * v2) + r5)), (0, .ref ha), (1, .int v1), (3, .int v3)] := hl
      refine lv_iinc (v := v3 + (-1)) hx hb d_A_share_43 hl (k := 3) rfl rfl (by decide) rfl (fun ls hl => ?_)
      have hl : lv_has ls 4 [(3, .int (v3 + (-1))), (2, .int ((256 * v2) + r5)), (0, .ref ha), (1, .int v1)] := hl
      refine lv_goto (tgt := 26) hx hb d_A_share_46 rfl ?_
      have hl := lv_sub (l' := [(0, .ref ha), (1, .int v1), (2, .int ((256 * v2) + r5)), (3, .int (v3 + (-1)))]) hl [2, 3, 1, 0] rfl
      exact ih (v1, (256 * v2) + r5, v3 + (-1)) _ _ ls ⟨hP, hD, hS, hl, hf⟩
    have hf := ift hf hc3
    refine lv_iconst (v := (-1)) hx hb d_A_share_20 (by decide) ?_
    have e1_ := lf1 hf
    subst e1_
    have hP9 := hP.sub (ws' := [(ha, .inr (0, [.ref hm, .ref hi, .ref qa, .ref qg, .int xl, .int xo, .int xs, .int xv, .int xp])), (hm, .inr (1, [.ref qc, .int mw, .int mf, .int mz])), (qc, .inl (cI, 149, .inl mc)), (hi, .inr (2, [.ref qb, .int ic])), (qb, .inl (cI, 24, .inl ib)), (qa, .inl (cI, 16, .inl xa)), (qg, .inl (cI, 4, .inl xg))]) [0, 1, 2, 3, 4, 5, 6] rfl
    have hD9 := hD.sub (ws' := [(ha, .inr (0, [.ref hm, .ref hi, .ref qa, .ref qg, .int xl, .int xo, .int xs, .int xv, .int xp])), (hm, .inr (1, [.ref qc, .int mw, .int mf, .int mz])), (qc, .inl (cI, 149, .inl mc)), (hi, .inr (2, [.ref qb, .int ic])), (qb, .inl (cI, 24, .inl ib)), (qa, .inl (cI, 16, .inl xa)), (qg, .inl (cI, 4, .inl xg))]) [0, 1, 2, 3, 4, 5, 6] (by decide) rfl
    exact W.iret (v := (-1)) hx hb hr (fun t ht hW => ⟨⟨(-1), (), rfl, rfl, by rw [ht]; exact hP9, va_K.moved hW.alike hK, hD9⟩, hS.F ht⟩) hS.2.2 d_A_share_21
  have hf := ifn hf hc2
  refine lv_bipush (v := (-2)) hx hb d_A_share_10 (by decide) ?_
  have e1_ := lf1 hf
  subst e1_
  have hP9 := hP.sub (ws' := [(ha, .inr (0, [.ref hm, .ref hi, .ref qa, .ref qg, .int xl, .int xo, .int xs, .int xv, .int xp])), (hm, .inr (1, [.ref qc, .int mw, .int mf, .int mz])), (qc, .inl (cI, 149, .inl mc)), (hi, .inr (2, [.ref qb, .int ic])), (qb, .inl (cI, 24, .inl ib)), (qa, .inl (cI, 16, .inl xa)), (qg, .inl (cI, 4, .inl xg))]) [0, 1, 2, 3, 4, 5, 6] rfl
  have hD9 := hD.sub (ws' := [(ha, .inr (0, [.ref hm, .ref hi, .ref qa, .ref qg, .int xl, .int xo, .int xs, .int xv, .int xp])), (hm, .inr (1, [.ref qc, .int mw, .int mf, .int mz])), (qc, .inl (cI, 149, .inl mc)), (hi, .inr (2, [.ref qb, .int ic])), (qb, .inl (cI, 24, .inl ib)), (qa, .inl (cI, 16, .inl xa)), (qg, .inl (cI, 4, .inl xg))]) [0, 1, 2, 3, 4, 5, 6] (by decide) rfl
  exact W.iret (v := (-2)) hx hb hr (fun t ht hW => ⟨⟨(-2), (), rfl, rfl, by rw [ht]; exact hP9, va_K.moved hW.alike hK, hD9⟩, hS.F ht⟩) hS.2.2 d_A_share_12
theorem d_A_pending_0 : decode b_A_pending 0 = .ok (.aload_n 0, 1) := by decide +kernel
theorem d_A_pending_1 : decode b_A_pending 1 = .ok (.getfield 34, 3) := by decide +kernel
theorem d_A_pending_4 : decode b_A_pending 4 = .ok (.ifCond .eq 13, 3) := by decide +kernel
theorem d_A_pending_7 : decode b_A_pending 7 = .ok (.aload_n 0, 1) := by decide +kernel
theorem d_A_pending_8 : decode b_A_pending 8 = .ok (.getfield 10, 3) := by decide +kernel
theorem d_A_pending_11 : decode b_A_pending 11 = .ok (.invokevirtual 79, 3) := by decide +kernel
theorem d_A_pending_14 : decode b_A_pending 14 = .ok (.goto 4, 3) := by decide +kernel
theorem d_A_pending_17 : decode b_A_pending 17 = .ok (.iconst (-1), 1) := by decide +kernel
theorem d_A_pending_18 : decode b_A_pending 18 = .ok (.ireturn, 1) := by decide +kernel
def fA_pending (σ : StX) : Option (Int32) := match σ with | (mc, mw, mf, mz, ib, ic, xa, xg, xl, xo, xs, xv, xp) => if xo = 0 then (some (-1)) else (bd1 (fM_count (mc, mw, mf, mz)) fun r2 => some r2)
set_option maxHeartbeats 4000000 in
set_option maxRecDepth 100000 in
theorem ctA_pending (l : Launch) (dC : Nat → ClassId) (dI : Nat → Nat → Nat) (cI : ClassId) (ha hm qc hi qb qa qg : Nat) (mc : Nat → Int32) (mw : Int32) (mf : Int32) (mz : Int32) (ib : Nat → Int32) (ic : Int32) (xa : Nat → Int32) (xg : Nat → Int32) (xl : Int32) (xo : Int32) (xs : Int32) (xv : Int32) (xp : Int32) (r : Int32) (hf : fA_pending (mc, mw, mf, mz, ib, ic, xa, xg, xl, xo, xs, xv, xp) = some r) : CtI l y_A_pending w_A_pending ({ frames := 1, cells := 0, slots := 0, locals := 20 }) (dC, dI) [(cI, .int)] [.ref ha] [(ha, .inr (0, [.ref hm, .ref hi, .ref qa, .ref qg, .int xl, .int xo, .int xs, .int xv, .int xp])), (hm, .inr (1, [.ref qc, .int mw, .int mf, .int mz])), (qc, .inl (cI, 149, .inl mc)), (hi, .inr (2, [.ref qb, .int ic])), (qb, .inl (cI, 24, .inl ib)), (qa, .inl (cI, 16, .inl xa)), (qg, .inl (cI, 4, .inl xg))] [(ha, .inr (0, [.ref hm, .ref hi, .ref qa, .ref qg, .int xl, .int xo, .int xs, .int xv, .int xp])), (hm, .inr (1, [.ref qc, .int mw, .int mf, .int mz])), (qc, .inl (cI, 149, .inl mc)), (hi, .inr (2, [.ref qb, .int ic])), (qb, .inl (cI, 24, .inl ib)), (qa, .inl (cI, 16, .inl xa)), (qg, .inl (cI, 4, .inl xg))] r := by
  intro sz
  refine Met.ofW (cc := b_A_pending) (maxL := 1) (ret := some .int) (by decide) rfl ?_
  intro p e s m args below meth c s₁ B hml hv
  obtain ⟨rfl, hsz, hP, hK, hD0⟩ := hv
  have hx := B.exec
  have hb := B.bytes
  have hr := B.returns
  have hts := atoms_spec (ws := w_A_pending) B.pre
  have hown : s.vm.findClass R_A = some m.cls := findClass_of_methodNamed B.named
  have hlocks := B.notSynchronized
  subst hsz
  have hD := hD0.self (sz := s.heap.size)
  generalize hAe : va_A [(ha, .inr (0, [.ref hm, .ref hi, .ref qa, .ref qg, .int xl, .int xo, .int xs, .int xv, .int xp])), (hm, .inr (1, [.ref qc, .int mw, .int mf, .int mz])), (qc, .inl (cI, 149, .inl mc)), (hi, .inr (2, [.ref qb, .int ic])), (qb, .inl (cI, 24, .inl ib)), (qa, .inl (cI, 16, .inl xa)), (qg, .inl (cI, 4, .inl xg))] s.heap.size = A at hD ⊢
  have hA : ∀ q : Nat, s.heap.size ≤ q → A q := fun q h => by rw [← hAe]; exact Or.inr h
  have hS : va_S A s.heap s.heap [] := va_S.rf
  have hP : va_P (dC, dI) vwCl [(ha, .inr (0, [.ref hm, .ref hi, .ref qa, .ref qg, .int xl, .int xo, .int xs, .int xv, .int xp])), (hm, .inr (1, [.ref qc, .int mw, .int mf, .int mz])), (qc, .inl (cI, 149, .inl mc)), (hi, .inr (2, [.ref qb, .int ic])), (qb, .inl (cI, 24, .inl ib)), (qa, .inl (cI, 16, .inl xa)), (qg, .inl (cI, 4, .inl xg))] s.heap := hP
  have hl := lv_entry ([.ref ha]) (n := 1) (Nat.le_of_ble_eq_true rfl)
  rw [lg_entry_eq]
  generalize (lg_sl ([.ref ha]) ++ List.replicate (1 - (lg_sl ([.ref ha])).length) Slot.unset).toArray = ls at hl ⊢
  have hl : lv_has ls 1 [(0, .ref ha)] := hl
  have inA : ∀ w ∈ u_ws R_A F_A 9, w ∈ w_A_pending := fun w h => List.mem_cons_of_mem _ (in_A w h)
  have kf10 := hts _ (List.mem_cons_of_mem _ wq91)
  have kf34 := hts _ (List.mem_cons_of_mem _ wq96)
  rw [fA_pending] at hf
  refine lv_aload_n hx hb d_A_pending_0 rfl (lv_at hl 0 rfl) ?_
  refine va_get (D := (dC, dI)) (ci := 0) (v := .int xo) (C := R_A) (T := F_A) (N := 9) hx hb hts inA hown hK hP 0 rfl rfl 5 (by decide) kf34 (fun _ h9 => h9) rfl d_A_pending_1 ?_
  refine lv_if_eq (tgt := 17) hx hb d_A_pending_4 rfl (fun hc1 => ?_) (fun hc1 => ?_)
  · have hf := ift hf hc1
    refine lv_iconst (v := (-1)) hx hb d_A_pending_17 (by decide) ?_
    have e1_ := lf1 hf
    subst e1_
    have hP9 := hP.sub (ws' := [(ha, .inr (0, [.ref hm, .ref hi, .ref qa, .ref qg, .int xl, .int xo, .int xs, .int xv, .int xp])), (hm, .inr (1, [.ref qc, .int mw, .int mf, .int mz])), (qc, .inl (cI, 149, .inl mc)), (hi, .inr (2, [.ref qb, .int ic])), (qb, .inl (cI, 24, .inl ib)), (qa, .inl (cI, 16, .inl xa)), (qg, .inl (cI, 4, .inl xg))]) [0, 1, 2, 3, 4, 5, 6] rfl
    have hD9 := hD.sub (ws' := [(ha, .inr (0, [.ref hm, .ref hi, .ref qa, .ref qg, .int xl, .int xo, .int xs, .int xv, .int xp])), (hm, .inr (1, [.ref qc, .int mw, .int mf, .int mz])), (qc, .inl (cI, 149, .inl mc)), (hi, .inr (2, [.ref qb, .int ic])), (qb, .inl (cI, 24, .inl ib)), (qa, .inl (cI, 16, .inl xa)), (qg, .inl (cI, 4, .inl xg))]) [0, 1, 2, 3, 4, 5, 6] (by decide) rfl
    exact W.iret (v := (-1)) hx hb hr (fun t ht hW => ⟨⟨(-1), (), rfl, rfl, by rw [ht]; exact hP9, va_K.moved hW.alike hK, hD9⟩, hS.F ht⟩) hS.2.2 d_A_pending_18
  have hf := ifn hf hc1
  refine lv_aload_n hx hb d_A_pending_7 rfl (lv_at hl 0 rfl) ?_
  refine va_get (D := (dC, dI)) (ci := 0) (v := .ref hm) (C := R_A) (T := F_A) (N := 9) hx hb hts inA hown hK hP 0 rfl rfl 0 (by decide) kf10 (fun _ h9 => h9) rfl d_A_pending_8 ?_
  obtain ⟨r2, hg, hf⟩ := bd1_some hf
  refine xci (wr := [(ha, .inr (0, [.ref hm, .ref hi, .ref qa, .ref qg, .int xl, .int xo, .int xs, .int xv, .int xp])), (hi, .inr (2, [.ref qb, .int ic])), (qb, .inl (cI, 24, .inl ib)), (qa, .inl (cI, 16, .inl xa)), (qg, .inl (cI, 4, .inl xg))]) (ctM_count l dC dI cI hm qc mc mw mf mz r2 hg) ⟨hx, hb, hml, hown, hts⟩ (cwV (C := R_M) 0 hts (gV wq257 wq211 wq212 wq44 wq213) rfl rfl rfl (by decide +kernel) ⟨Nat.le_of_ble_eq_true rfl, Nat.le_of_ble_eq_true rfl⟩) hK hP hD hS hA [1, 2] [0, 3, 4, 5, 6] rfl rfl rfl rfl (by decide) (ci := 1) (q0 := 1) rfl rfl rfl rfl hl.1 rfl (Nat.le_of_ble_eq_true rfl) d_A_pending_11 ⟨Nat.zero_le _, Nat.zero_le _⟩ (fun H locs hP hD hS => ?_)
  have hP : va_P (dC, dI) vwCl [(ha, .inr (0, [.ref hm, .ref hi, .ref qa, .ref qg, .int xl, .int xo, .int xs, .int xv, .int xp])), (hi, .inr (2, [.ref qb, .int ic])), (qb, .inl (cI, 24, .inl ib)), (qa, .inl (cI, 16, .inl xa)), (qg, .inl (cI, 4, .inl xg)), (hm, .inr (1, [.ref qc, .int mw, .int mf, .int mz])), (qc, .inl (cI, 149, .inl mc))] H := hP
  have hD : va_D A [(ha, .inr (0, [.ref hm, .ref hi, .ref qa, .ref qg, .int xl, .int xo, .int xs, .int xv, .int xp])), (hi, .inr (2, [.ref qb, .int ic])), (qb, .inl (cI, 24, .inl ib)), (qa, .inl (cI, 16, .inl xa)), (qg, .inl (cI, 4, .inl xg)), (hm, .inr (1, [.ref qc, .int mw, .int mf, .int mz])), (qc, .inl (cI, 149, .inl mc))] := hD
  refine lv_goto (tgt := 18) hx hb d_A_pending_14 rfl ?_
  have e1_ := lf1 hf
  subst e1_
  have hP9 := hP.sub (ws' := [(ha, .inr (0, [.ref hm, .ref hi, .ref qa, .ref qg, .int xl, .int xo, .int xs, .int xv, .int xp])), (hm, .inr (1, [.ref qc, .int mw, .int mf, .int mz])), (qc, .inl (cI, 149, .inl mc)), (hi, .inr (2, [.ref qb, .int ic])), (qb, .inl (cI, 24, .inl ib)), (qa, .inl (cI, 16, .inl xa)), (qg, .inl (cI, 4, .inl xg))]) [0, 5, 6, 1, 2, 3, 4] rfl
  have hD9 := hD.sub (ws' := [(ha, .inr (0, [.ref hm, .ref hi, .ref qa, .ref qg, .int xl, .int xo, .int xs, .int xv, .int xp])), (hm, .inr (1, [.ref qc, .int mw, .int mf, .int mz])), (qc, .inl (cI, 149, .inl mc)), (hi, .inr (2, [.ref qb, .int ic])), (qb, .inl (cI, 24, .inl ib)), (qa, .inl (cI, 16, .inl xa)), (qg, .inl (cI, 4, .inl xg))]) [0, 5, 6, 1, 2, 3, 4] (by decide) rfl
  exact W.iret (v := r2) hx hb hr (fun t ht hW => ⟨⟨r2, (), rfl, rfl, by rw [ht]; exact hP9, va_K.moved hW.alike hK, hD9⟩, hS.F ht⟩) hS.2.2 d_A_pending_18
theorem d_A_session_0 : decode b_A_session 0 = .ok (.aload_n 0, 1) := by decide +kernel
theorem d_A_session_1 : decode b_A_session 1 = .ok (.getfield 34, 3) := by decide +kernel
theorem d_A_session_4 : decode b_A_session 4 = .ok (.ifCond .ne 5, 3) := by decide +kernel
theorem d_A_session_7 : decode b_A_session 7 = .ok (.iconst (-1), 1) := by decide +kernel
theorem d_A_session_8 : decode b_A_session 8 = .ok (.ireturn, 1) := by decide +kernel
theorem d_A_session_9 : decode b_A_session 9 = .ok (.aload_n 0, 1) := by decide +kernel
theorem d_A_session_10 : decode b_A_session 10 = .ok (.getfield 30, 3) := by decide +kernel
theorem d_A_session_13 : decode b_A_session 13 = .ok (.bipush (-2), 2) := by decide +kernel
theorem d_A_session_15 : decode b_A_session 15 = .ok (.if_icmp .ne 6, 3) := by decide +kernel
theorem d_A_session_18 : decode b_A_session 18 = .ok (.bipush (-2), 2) := by decide +kernel
theorem d_A_session_20 : decode b_A_session 20 = .ok (.ireturn, 1) := by decide +kernel
theorem d_A_session_21 : decode b_A_session 21 = .ok (.aload_n 0, 1) := by decide +kernel
theorem d_A_session_22 : decode b_A_session 22 = .ok (.getfield 30, 3) := by decide +kernel
theorem d_A_session_25 : decode b_A_session 25 = .ok (.aload_n 0, 1) := by decide +kernel
theorem d_A_session_26 : decode b_A_session 26 = .ok (.getfield 107, 3) := by decide +kernel
theorem d_A_session_29 : decode b_A_session 29 = .ok (.ifCond .eq 8, 3) := by decide +kernel
theorem d_A_session_32 : decode b_A_session 32 = .ok (.bipush 8, 2) := by decide +kernel
theorem d_A_session_34 : decode b_A_session 34 = .ok (.goto 4, 3) := by decide +kernel
theorem d_A_session_37 : decode b_A_session 37 = .ok (.iconst 0, 1) := by decide +kernel
theorem d_A_session_38 : decode b_A_session 38 = .ok (.iadd, 1) := by decide +kernel
theorem d_A_session_39 : decode b_A_session 39 = .ok (.aload_n 0, 1) := by decide +kernel
theorem d_A_session_40 : decode b_A_session 40 = .ok (.getfield 110, 3) := by decide +kernel
theorem d_A_session_43 : decode b_A_session 43 = .ok (.ifCond .eq 8, 3) := by decide +kernel
theorem d_A_session_46 : decode b_A_session 46 = .ok (.bipush 16, 2) := by decide +kernel
theorem d_A_session_48 : decode b_A_session 48 = .ok (.goto 4, 3) := by decide +kernel
theorem d_A_session_51 : decode b_A_session 51 = .ok (.iconst 0, 1) := by decide +kernel
theorem d_A_session_52 : decode b_A_session 52 = .ok (.iadd, 1) := by decide +kernel
theorem d_A_session_53 : decode b_A_session 53 = .ok (.ireturn, 1) := by decide +kernel
def fA_session (σ : StX) : Option (Int32) := match σ with | (mc, mw, mf, mz, ib, ic, xa, xg, xl, xo, xs, xv, xp) => if xo = 0 then (some (-1)) else (if xs = (-2) then (some (-2)) else (if xv = 0 then (if xp = 0 then (some ((xs + 0) + 0)) else (some ((xs + 0) + 16))) else (if xp = 0 then (some ((xs + 8) + 0)) else (some ((xs + 8) + 16)))))
set_option maxHeartbeats 4000000 in
set_option maxRecDepth 100000 in
theorem ctA_session (l : Launch) (dC : Nat → ClassId) (dI : Nat → Nat → Nat) (cI : ClassId) (ha hm qc hi qb qa qg : Nat) (mc : Nat → Int32) (mw : Int32) (mf : Int32) (mz : Int32) (ib : Nat → Int32) (ic : Int32) (xa : Nat → Int32) (xg : Nat → Int32) (xl : Int32) (xo : Int32) (xs : Int32) (xv : Int32) (xp : Int32) (r : Int32) (hf : fA_session (mc, mw, mf, mz, ib, ic, xa, xg, xl, xo, xs, xv, xp) = some r) : CtI l y_A_session w_A_session ({ frames := 0, cells := 0, slots := 0, locals := 0 }) (dC, dI) [(cI, .int)] [.ref ha] [(ha, .inr (0, [.ref hm, .ref hi, .ref qa, .ref qg, .int xl, .int xo, .int xs, .int xv, .int xp])), (hm, .inr (1, [.ref qc, .int mw, .int mf, .int mz])), (qc, .inl (cI, 149, .inl mc)), (hi, .inr (2, [.ref qb, .int ic])), (qb, .inl (cI, 24, .inl ib)), (qa, .inl (cI, 16, .inl xa)), (qg, .inl (cI, 4, .inl xg))] [(ha, .inr (0, [.ref hm, .ref hi, .ref qa, .ref qg, .int xl, .int xo, .int xs, .int xv, .int xp])), (hm, .inr (1, [.ref qc, .int mw, .int mf, .int mz])), (qc, .inl (cI, 149, .inl mc)), (hi, .inr (2, [.ref qb, .int ic])), (qb, .inl (cI, 24, .inl ib)), (qa, .inl (cI, 16, .inl xa)), (qg, .inl (cI, 4, .inl xg))] r := by
  intro sz
  refine Met.ofW (cc := b_A_session) (maxL := 1) (ret := some .int) (by decide) rfl ?_
  intro p e s m args below meth c s₁ B hml hv
  obtain ⟨rfl, hsz, hP, hK, hD0⟩ := hv
  have hx := B.exec
  have hb := B.bytes
  have hr := B.returns
  have hts := atoms_spec (ws := w_A_session) B.pre
  have hown : s.vm.findClass R_A = some m.cls := findClass_of_methodNamed B.named
  have hlocks := B.notSynchronized
  subst hsz
  have hD := hD0.self (sz := s.heap.size)
  generalize hAe : va_A [(ha, .inr (0, [.ref hm, .ref hi, .ref qa, .ref qg, .int xl, .int xo, .int xs, .int xv, .int xp])), (hm, .inr (1, [.ref qc, .int mw, .int mf, .int mz])), (qc, .inl (cI, 149, .inl mc)), (hi, .inr (2, [.ref qb, .int ic])), (qb, .inl (cI, 24, .inl ib)), (qa, .inl (cI, 16, .inl xa)), (qg, .inl (cI, 4, .inl xg))] s.heap.size = A at hD ⊢
  have hA : ∀ q : Nat, s.heap.size ≤ q → A q := fun q h => by rw [← hAe]; exact Or.inr h
  have hS : va_S A s.heap s.heap [] := va_S.rf
  have hP : va_P (dC, dI) vwCl [(ha, .inr (0, [.ref hm, .ref hi, .ref qa, .ref qg, .int xl, .int xo, .int xs, .int xv, .int xp])), (hm, .inr (1, [.ref qc, .int mw, .int mf, .int mz])), (qc, .inl (cI, 149, .inl mc)), (hi, .inr (2, [.ref qb, .int ic])), (qb, .inl (cI, 24, .inl ib)), (qa, .inl (cI, 16, .inl xa)), (qg, .inl (cI, 4, .inl xg))] s.heap := hP
  have hl := lv_entry ([.ref ha]) (n := 1) (Nat.le_of_ble_eq_true rfl)
  rw [lg_entry_eq]
  generalize (lg_sl ([.ref ha]) ++ List.replicate (1 - (lg_sl ([.ref ha])).length) Slot.unset).toArray = ls at hl ⊢
  have hl : lv_has ls 1 [(0, .ref ha)] := hl
  have inA : ∀ w ∈ u_ws R_A F_A 9, w ∈ w_A_session := fun w h => List.mem_cons_of_mem _ (in_A w h)
  have kf107 := hts _ (List.mem_cons_of_mem _ wq98)
  have kf110 := hts _ (List.mem_cons_of_mem _ wq99)
  have kf30 := hts _ (List.mem_cons_of_mem _ wq97)
  have kf34 := hts _ (List.mem_cons_of_mem _ wq96)
  rw [fA_session] at hf
  refine lv_aload_n hx hb d_A_session_0 rfl (lv_at hl 0 rfl) ?_
  refine va_get (D := (dC, dI)) (ci := 0) (v := .int xo) (C := R_A) (T := F_A) (N := 9) hx hb hts inA hown hK hP 0 rfl rfl 5 (by decide) kf34 (fun _ h9 => h9) rfl d_A_session_1 ?_
  refine lv_if_ne (tgt := 9) hx hb d_A_session_4 rfl (fun hc1 => ?_) (fun hc1 => ?_)
  · have hf := ifn hf hc1
    refine lv_aload_n hx hb d_A_session_9 rfl (lv_at hl 0 rfl) ?_
    refine va_get (D := (dC, dI)) (ci := 0) (v := .int xs) (C := R_A) (T := F_A) (N := 9) hx hb hts inA hown hK hP 0 rfl rfl 6 (by decide) kf30 (fun _ h9 => h9) rfl d_A_session_10 ?_
    refine lv_bipush (v := (-2)) hx hb d_A_session_13 (by decide) ?_
    refine lv_icmp_ne (tgt := 21) hx hb d_A_session_15 rfl (fun hc2 => ?_) (fun hc2 => ?_)
    · have hf := ifn hf hc2
      refine lv_aload_n hx hb d_A_session_21 rfl (lv_at hl 0 rfl) ?_
      refine va_get (D := (dC, dI)) (ci := 0) (v := .int xs) (C := R_A) (T := F_A) (N := 9) hx hb hts inA hown hK hP 0 rfl rfl 6 (by decide) kf30 (fun _ h9 => h9) rfl d_A_session_22 ?_
      refine lv_aload_n hx hb d_A_session_25 rfl (lv_at hl 0 rfl) ?_
      refine va_get (D := (dC, dI)) (ci := 0) (v := .int xv) (C := R_A) (T := F_A) (N := 9) hx hb hts inA hown hK hP 0 rfl rfl 7 (by decide) kf107 (fun _ h9 => h9) rfl d_A_session_26 ?_
      refine lv_if_eq (tgt := 37) hx hb d_A_session_29 rfl (fun hc3 => ?_) (fun hc3 => ?_)
      · have hf := ift hf hc3
        refine lv_iconst (v := 0) hx hb d_A_session_37 (by decide) ?_
        refine lv_iadd hx hb d_A_session_38 ?_
        refine lv_aload_n hx hb d_A_session_39 rfl (lv_at hl 0 rfl) ?_
        refine va_get (D := (dC, dI)) (ci := 0) (v := .int xp) (C := R_A) (T := F_A) (N := 9) hx hb hts inA hown hK hP 0 rfl rfl 8 (by decide) kf110 (fun _ h9 => h9) rfl d_A_session_40 ?_
        refine lv_if_eq (tgt := 51) hx hb d_A_session_43 rfl (fun hc4 => ?_) (fun hc4 => ?_)
        · have hf := ift hf hc4
          refine lv_iconst (v := 0) hx hb d_A_session_51 (by decide) ?_
          refine lv_iadd hx hb d_A_session_52 ?_
          have e1_ := lf1 hf
          subst e1_
          have hP9 := hP.sub (ws' := [(ha, .inr (0, [.ref hm, .ref hi, .ref qa, .ref qg, .int xl, .int xo, .int xs, .int xv, .int xp])), (hm, .inr (1, [.ref qc, .int mw, .int mf, .int mz])), (qc, .inl (cI, 149, .inl mc)), (hi, .inr (2, [.ref qb, .int ic])), (qb, .inl (cI, 24, .inl ib)), (qa, .inl (cI, 16, .inl xa)), (qg, .inl (cI, 4, .inl xg))]) [0, 1, 2, 3, 4, 5, 6] rfl
          have hD9 := hD.sub (ws' := [(ha, .inr (0, [.ref hm, .ref hi, .ref qa, .ref qg, .int xl, .int xo, .int xs, .int xv, .int xp])), (hm, .inr (1, [.ref qc, .int mw, .int mf, .int mz])), (qc, .inl (cI, 149, .inl mc)), (hi, .inr (2, [.ref qb, .int ic])), (qb, .inl (cI, 24, .inl ib)), (qa, .inl (cI, 16, .inl xa)), (qg, .inl (cI, 4, .inl xg))]) [0, 1, 2, 3, 4, 5, 6] (by decide) rfl
          exact W.iret (v := (xs + 0) + 0) hx hb hr (fun t ht hW => ⟨⟨(xs + 0) + 0, (), rfl, rfl, by rw [ht]; exact hP9, va_K.moved hW.alike hK, hD9⟩, hS.F ht⟩) hS.2.2 d_A_session_53
        have hf := ifn hf hc4
        refine lv_bipush (v := 16) hx hb d_A_session_46 (by decide) ?_
        refine lv_goto (tgt := 52) hx hb d_A_session_48 rfl ?_
        refine lv_iadd hx hb d_A_session_52 ?_
        have e1_ := lf1 hf
        subst e1_
        have hP9 := hP.sub (ws' := [(ha, .inr (0, [.ref hm, .ref hi, .ref qa, .ref qg, .int xl, .int xo, .int xs, .int xv, .int xp])), (hm, .inr (1, [.ref qc, .int mw, .int mf, .int mz])), (qc, .inl (cI, 149, .inl mc)), (hi, .inr (2, [.ref qb, .int ic])), (qb, .inl (cI, 24, .inl ib)), (qa, .inl (cI, 16, .inl xa)), (qg, .inl (cI, 4, .inl xg))]) [0, 1, 2, 3, 4, 5, 6] rfl
        have hD9 := hD.sub (ws' := [(ha, .inr (0, [.ref hm, .ref hi, .ref qa, .ref qg, .int xl, .int xo, .int xs, .int xv, .int xp])), (hm, .inr (1, [.ref qc, .int mw, .int mf, .int mz])), (qc, .inl (cI, 149, .inl mc)), (hi, .inr (2, [.ref qb, .int ic])), (qb, .inl (cI, 24, .inl ib)), (qa, .inl (cI, 16, .inl xa)), (qg, .inl (cI, 4, .inl xg))]) [0, 1, 2, 3, 4, 5, 6] (by decide) rfl
        exact W.iret (v := (xs + 0) + 16) hx hb hr (fun t ht hW => ⟨⟨(xs + 0) + 16, (), rfl, rfl, by rw [ht]; exact hP9, va_K.moved hW.alike hK, hD9⟩, hS.F ht⟩) hS.2.2 d_A_session_53
      have hf := ifn hf hc3
      refine lv_bipush (v := 8) hx hb d_A_session_32 (by decide) ?_
      refine lv_goto (tgt := 38) hx hb d_A_session_34 rfl ?_
      refine lv_iadd hx hb d_A_session_38 ?_
      refine lv_aload_n hx hb d_A_session_39 rfl (lv_at hl 0 rfl) ?_
      refine va_get (D := (dC, dI)) (ci := 0) (v := .int xp) (C := R_A) (T := F_A) (N := 9) hx hb hts inA hown hK hP 0 rfl rfl 8 (by decide) kf110 (fun _ h9 => h9) rfl d_A_session_40 ?_
      refine lv_if_eq (tgt := 51) hx hb d_A_session_43 rfl (fun hc5 => ?_) (fun hc5 => ?_)
      · have hf := ift hf hc5
        refine lv_iconst (v := 0) hx hb d_A_session_51 (by decide) ?_
        refine lv_iadd hx hb d_A_session_52 ?_
        have e1_ := lf1 hf
        subst e1_
        have hP9 := hP.sub (ws' := [(ha, .inr (0, [.ref hm, .ref hi, .ref qa, .ref qg, .int xl, .int xo, .int xs, .int xv, .int xp])), (hm, .inr (1, [.ref qc, .int mw, .int mf, .int mz])), (qc, .inl (cI, 149, .inl mc)), (hi, .inr (2, [.ref qb, .int ic])), (qb, .inl (cI, 24, .inl ib)), (qa, .inl (cI, 16, .inl xa)), (qg, .inl (cI, 4, .inl xg))]) [0, 1, 2, 3, 4, 5, 6] rfl
        have hD9 := hD.sub (ws' := [(ha, .inr (0, [.ref hm, .ref hi, .ref qa, .ref qg, .int xl, .int xo, .int xs, .int xv, .int xp])), (hm, .inr (1, [.ref qc, .int mw, .int mf, .int mz])), (qc, .inl (cI, 149, .inl mc)), (hi, .inr (2, [.ref qb, .int ic])), (qb, .inl (cI, 24, .inl ib)), (qa, .inl (cI, 16, .inl xa)), (qg, .inl (cI, 4, .inl xg))]) [0, 1, 2, 3, 4, 5, 6] (by decide) rfl
        exact W.iret (v := (xs + 8) + 0) hx hb hr (fun t ht hW => ⟨⟨(xs + 8) + 0, (), rfl, rfl, by rw [ht]; exact hP9, va_K.moved hW.alike hK, hD9⟩, hS.F ht⟩) hS.2.2 d_A_session_53
      have hf := ifn hf hc5
      refine lv_bipush (v := 16) hx hb d_A_session_46 (by decide) ?_
      refine lv_goto (tgt := 52) hx hb d_A_session_48 rfl ?_
      refine lv_iadd hx hb d_A_session_52 ?_
      have e1_ := lf1 hf
      subst e1_
      have hP9 := hP.sub (ws' := [(ha, .inr (0, [.ref hm, .ref hi, .ref qa, .ref qg, .int xl, .int xo, .int xs, .int xv, .int xp])), (hm, .inr (1, [.ref qc, .int mw, .int mf, .int mz])), (qc, .inl (cI, 149, .inl mc)), (hi, .inr (2, [.ref qb, .int ic])), (qb, .inl (cI, 24, .inl ib)), (qa, .inl (cI, 16, .inl xa)), (qg, .inl (cI, 4, .inl xg))]) [0, 1, 2, 3, 4, 5, 6] rfl
      have hD9 := hD.sub (ws' := [(ha, .inr (0, [.ref hm, .ref hi, .ref qa, .ref qg, .int xl, .int xo, .int xs, .int xv, .int xp])), (hm, .inr (1, [.ref qc, .int mw, .int mf, .int mz])), (qc, .inl (cI, 149, .inl mc)), (hi, .inr (2, [.ref qb, .int ic])), (qb, .inl (cI, 24, .inl ib)), (qa, .inl (cI, 16, .inl xa)), (qg, .inl (cI, 4, .inl xg))]) [0, 1, 2, 3, 4, 5, 6] (by decide) rfl
      exact W.iret (v := (xs + 8) + 16) hx hb hr (fun t ht hW => ⟨⟨(xs + 8) + 16, (), rfl, rfl, by rw [ht]; exact hP9, va_K.moved hW.alike hK, hD9⟩, hS.F ht⟩) hS.2.2 d_A_session_53
    have hf := ift hf hc2
    refine lv_bipush (v := (-2)) hx hb d_A_session_18 (by decide) ?_
    have e1_ := lf1 hf
    subst e1_
    have hP9 := hP.sub (ws' := [(ha, .inr (0, [.ref hm, .ref hi, .ref qa, .ref qg, .int xl, .int xo, .int xs, .int xv, .int xp])), (hm, .inr (1, [.ref qc, .int mw, .int mf, .int mz])), (qc, .inl (cI, 149, .inl mc)), (hi, .inr (2, [.ref qb, .int ic])), (qb, .inl (cI, 24, .inl ib)), (qa, .inl (cI, 16, .inl xa)), (qg, .inl (cI, 4, .inl xg))]) [0, 1, 2, 3, 4, 5, 6] rfl
    have hD9 := hD.sub (ws' := [(ha, .inr (0, [.ref hm, .ref hi, .ref qa, .ref qg, .int xl, .int xo, .int xs, .int xv, .int xp])), (hm, .inr (1, [.ref qc, .int mw, .int mf, .int mz])), (qc, .inl (cI, 149, .inl mc)), (hi, .inr (2, [.ref qb, .int ic])), (qb, .inl (cI, 24, .inl ib)), (qa, .inl (cI, 16, .inl xa)), (qg, .inl (cI, 4, .inl xg))]) [0, 1, 2, 3, 4, 5, 6] (by decide) rfl
    exact W.iret (v := (-2)) hx hb hr (fun t ht hW => ⟨⟨(-2), (), rfl, rfl, by rw [ht]; exact hP9, va_K.moved hW.alike hK, hD9⟩, hS.F ht⟩) hS.2.2 d_A_session_20
  have hf := ift hf hc1
  refine lv_iconst (v := (-1)) hx hb d_A_session_7 (by decide) ?_
  have e1_ := lf1 hf
  subst e1_
  have hP9 := hP.sub (ws' := [(ha, .inr (0, [.ref hm, .ref hi, .ref qa, .ref qg, .int xl, .int xo, .int xs, .int xv, .int xp])), (hm, .inr (1, [.ref qc, .int mw, .int mf, .int mz])), (qc, .inl (cI, 149, .inl mc)), (hi, .inr (2, [.ref qb, .int ic])), (qb, .inl (cI, 24, .inl ib)), (qa, .inl (cI, 16, .inl xa)), (qg, .inl (cI, 4, .inl xg))]) [0, 1, 2, 3, 4, 5, 6] rfl
  have hD9 := hD.sub (ws' := [(ha, .inr (0, [.ref hm, .ref hi, .ref qa, .ref qg, .int xl, .int xo, .int xs, .int xv, .int xp])), (hm, .inr (1, [.ref qc, .int mw, .int mf, .int mz])), (qc, .inl (cI, 149, .inl mc)), (hi, .inr (2, [.ref qb, .int ic])), (qb, .inl (cI, 24, .inl ib)), (qa, .inl (cI, 16, .inl xa)), (qg, .inl (cI, 4, .inl xg))]) [0, 1, 2, 3, 4, 5, 6] (by decide) rfl
  exact W.iret (v := (-1)) hx hb hr (fun t ht hW => ⟨⟨(-1), (), rfl, rfl, by rw [ht]; exact hP9, va_K.moved hW.alike hK, hD9⟩, hS.F ht⟩) hS.2.2 d_A_session_8
theorem d_A_ownerOf_0 : decode b_A_ownerOf 0 = .ok (.aload_n 0, 1) := by decide +kernel
theorem d_A_ownerOf_1 : decode b_A_ownerOf 1 = .ok (.iload_n 1, 1) := by decide +kernel
theorem d_A_ownerOf_2 : decode b_A_ownerOf 2 = .ok (.iconst 0, 1) := by decide +kernel
theorem d_A_ownerOf_3 : decode b_A_ownerOf 3 = .ok (.invokevirtual 104, 3) := by decide +kernel
theorem d_A_ownerOf_6 : decode b_A_ownerOf 6 = .ok (.istore_n 2, 1) := by decide +kernel
theorem d_A_ownerOf_7 : decode b_A_ownerOf 7 = .ok (.iload_n 2, 1) := by decide +kernel
theorem d_A_ownerOf_8 : decode b_A_ownerOf 8 = .ok (.ifCond .ne 8, 3) := by decide +kernel
theorem d_A_ownerOf_11 : decode b_A_ownerOf 11 = .ok (.bipush (-2), 2) := by decide +kernel
theorem d_A_ownerOf_13 : decode b_A_ownerOf 13 = .ok (.goto 8, 3) := by decide +kernel
theorem d_A_ownerOf_16 : decode b_A_ownerOf 16 = .ok (.iload_n 2, 1) := by decide +kernel
theorem d_A_ownerOf_17 : decode b_A_ownerOf 17 = .ok (.iconst 1, 1) := by decide +kernel
theorem d_A_ownerOf_18 : decode b_A_ownerOf 18 = .ok (.isub, 1) := by decide +kernel
theorem d_A_ownerOf_19 : decode b_A_ownerOf 19 = .ok (.iconst 4, 1) := by decide +kernel
theorem d_A_ownerOf_20 : decode b_A_ownerOf 20 = .ok (.idiv, 1) := by decide +kernel
theorem d_A_ownerOf_21 : decode b_A_ownerOf 21 = .ok (.ireturn, 1) := by decide +kernel
def fA_ownerOf (σ : StX) (a1 : Int32) : Option (Int32) := match σ with | (mc, mw, mf, mz, ib, ic, xa, xg, xl, xo, xs, xv, xp) => bd1 (fA_shareByte (mc, mw, mf, mz, ib, ic, xa, xg, xl, xo, xs, xv, xp) a1 0) fun r1 => if r1 = 0 then (some (-2)) else (some ((r1 - 1) / 4))
set_option maxHeartbeats 4000000 in
set_option maxRecDepth 100000 in
theorem ctA_ownerOf (l : Launch) (dC : Nat → ClassId) (dI : Nat → Nat → Nat) (cI : ClassId) (ha hm qc hi qb qa qg : Nat) (mc : Nat → Int32) (mw : Int32) (mf : Int32) (mz : Int32) (ib : Nat → Int32) (ic : Int32) (xa : Nat → Int32) (xg : Nat → Int32) (xl : Int32) (xo : Int32) (xs : Int32) (xv : Int32) (xp : Int32) (a1 : Int32) (r : Int32) (hf : fA_ownerOf (mc, mw, mf, mz, ib, ic, xa, xg, xl, xo, xs, xv, xp) a1 = some r) : CtI l y_A_ownerOf w_A_ownerOf ({ frames := 2, cells := 0, slots := 0, locals := 43 }) (dC, dI) [(cI, .int)] [.ref ha, .int a1] [(ha, .inr (0, [.ref hm, .ref hi, .ref qa, .ref qg, .int xl, .int xo, .int xs, .int xv, .int xp])), (hm, .inr (1, [.ref qc, .int mw, .int mf, .int mz])), (qc, .inl (cI, 149, .inl mc)), (hi, .inr (2, [.ref qb, .int ic])), (qb, .inl (cI, 24, .inl ib)), (qa, .inl (cI, 16, .inl xa)), (qg, .inl (cI, 4, .inl xg))] [(ha, .inr (0, [.ref hm, .ref hi, .ref qa, .ref qg, .int xl, .int xo, .int xs, .int xv, .int xp])), (hm, .inr (1, [.ref qc, .int mw, .int mf, .int mz])), (qc, .inl (cI, 149, .inl mc)), (hi, .inr (2, [.ref qb, .int ic])), (qb, .inl (cI, 24, .inl ib)), (qa, .inl (cI, 16, .inl xa)), (qg, .inl (cI, 4, .inl xg))] r := by
  intro sz
  refine Met.ofW (cc := b_A_ownerOf) (maxL := 3) (ret := some .int) (by decide) rfl ?_
  intro p e s m args below meth c s₁ B hml hv
  obtain ⟨rfl, hsz, hP, hK, hD0⟩ := hv
  have hx := B.exec
  have hb := B.bytes
  have hr := B.returns
  have hts := atoms_spec (ws := w_A_ownerOf) B.pre
  have hown : s.vm.findClass R_A = some m.cls := findClass_of_methodNamed B.named
  have hlocks := B.notSynchronized
  subst hsz
  have hD := hD0.self (sz := s.heap.size)
  generalize hAe : va_A [(ha, .inr (0, [.ref hm, .ref hi, .ref qa, .ref qg, .int xl, .int xo, .int xs, .int xv, .int xp])), (hm, .inr (1, [.ref qc, .int mw, .int mf, .int mz])), (qc, .inl (cI, 149, .inl mc)), (hi, .inr (2, [.ref qb, .int ic])), (qb, .inl (cI, 24, .inl ib)), (qa, .inl (cI, 16, .inl xa)), (qg, .inl (cI, 4, .inl xg))] s.heap.size = A at hD ⊢
  have hA : ∀ q : Nat, s.heap.size ≤ q → A q := fun q h => by rw [← hAe]; exact Or.inr h
  have hS : va_S A s.heap s.heap [] := va_S.rf
  have hP : va_P (dC, dI) vwCl [(ha, .inr (0, [.ref hm, .ref hi, .ref qa, .ref qg, .int xl, .int xo, .int xs, .int xv, .int xp])), (hm, .inr (1, [.ref qc, .int mw, .int mf, .int mz])), (qc, .inl (cI, 149, .inl mc)), (hi, .inr (2, [.ref qb, .int ic])), (qb, .inl (cI, 24, .inl ib)), (qa, .inl (cI, 16, .inl xa)), (qg, .inl (cI, 4, .inl xg))] s.heap := hP
  have hl := lv_entry ([.ref ha, .int a1]) (n := 3) (Nat.le_of_ble_eq_true rfl)
  rw [lg_entry_eq]
  generalize (lg_sl ([.ref ha, .int a1]) ++ List.replicate (3 - (lg_sl ([.ref ha, .int a1])).length) Slot.unset).toArray = ls at hl ⊢
  have hl : lv_has ls 3 [(0, .ref ha), (1, .int a1)] := hl
  rw [fA_ownerOf] at hf
  refine lv_aload_n hx hb d_A_ownerOf_0 rfl (lv_at hl 0 rfl) ?_
  refine lv_iload_n hx hb d_A_ownerOf_1 rfl (lv_at hl 1 rfl) ?_
  refine lv_iconst (v := 0) hx hb d_A_ownerOf_2 (by decide) ?_
  obtain ⟨r1, hg, hf⟩ := bd1_some hf
  refine xci (wr := []) (ctA_shareByte l dC dI cI ha hm qc hi qb qa qg mc mw mf mz ib ic xa xg xl xo xs xv xp a1 0 r1 hg) ⟨hx, hb, hml, hown, hts⟩ (cwV (C := R_A) 2 hts (gV wq301 wq303 wq15 wq43 wq304) rfl rfl rfl (by decide +kernel) ⟨Nat.le_of_ble_eq_true rfl, Nat.le_of_ble_eq_true rfl⟩) hK hP hD hS hA [0, 1, 2, 3, 4, 5, 6] [] rfl rfl rfl rfl (by decide) (ci := 0) (q0 := 0) rfl rfl rfl rfl hl.1 rfl (Nat.le_of_ble_eq_true rfl) d_A_ownerOf_3 ⟨Nat.zero_le _, Nat.zero_le _⟩ (fun H locs hP hD hS => ?_)
  have hP : va_P (dC, dI) vwCl [(ha, .inr (0, [.ref hm, .ref hi, .ref qa, .ref qg, .int xl, .int xo, .int xs, .int xv, .int xp])), (hm, .inr (1, [.ref qc, .int mw, .int mf, .int mz])), (qc, .inl (cI, 149, .inl mc)), (hi, .inr (2, [.ref qb, .int ic])), (qb, .inl (cI, 24, .inl ib)), (qa, .inl (cI, 16, .inl xa)), (qg, .inl (cI, 4, .inl xg))] H := hP
  have hD : va_D A [(ha, .inr (0, [.ref hm, .ref hi, .ref qa, .ref qg, .int xl, .int xo, .int xs, .int xv, .int xp])), (hm, .inr (1, [.ref qc, .int mw, .int mf, .int mz])), (qc, .inl (cI, 149, .inl mc)), (hi, .inr (2, [.ref qb, .int ic])), (qb, .inl (cI, 24, .inl ib)), (qa, .inl (cI, 16, .inl xa)), (qg, .inl (cI, 4, .inl xg))] := hD
  refine lv_istore_n hx hb d_A_ownerOf_6 rfl hl (by decide) rfl (fun ls hl => ?_)
  have hl : lv_has ls 3 [(2, .int r1), (0, .ref ha), (1, .int a1)] := hl
  refine lv_iload_n hx hb d_A_ownerOf_7 rfl (lv_at hl 0 rfl) ?_
  refine lv_if_ne (tgt := 16) hx hb d_A_ownerOf_8 rfl (fun hc2 => ?_) (fun hc2 => ?_)
  · have hf := ifn hf hc2
    refine lv_iload_n hx hb d_A_ownerOf_16 rfl (lv_at hl 0 rfl) ?_
    refine lv_iconst (v := 1) hx hb d_A_ownerOf_17 (by decide) ?_
    refine lv_isub hx hb d_A_ownerOf_18 ?_
    refine lv_iconst (v := 4) hx hb d_A_ownerOf_19 (by decide) ?_
    refine lv_idiv hx hb d_A_ownerOf_20 (by decide) ?_
    have e1_ := lf1 hf
    subst e1_
    have hP9 := hP.sub (ws' := [(ha, .inr (0, [.ref hm, .ref hi, .ref qa, .ref qg, .int xl, .int xo, .int xs, .int xv, .int xp])), (hm, .inr (1, [.ref qc, .int mw, .int mf, .int mz])), (qc, .inl (cI, 149, .inl mc)), (hi, .inr (2, [.ref qb, .int ic])), (qb, .inl (cI, 24, .inl ib)), (qa, .inl (cI, 16, .inl xa)), (qg, .inl (cI, 4, .inl xg))]) [0, 1, 2, 3, 4, 5, 6] rfl
    have hD9 := hD.sub (ws' := [(ha, .inr (0, [.ref hm, .ref hi, .ref qa, .ref qg, .int xl, .int xo, .int xs, .int xv, .int xp])), (hm, .inr (1, [.ref qc, .int mw, .int mf, .int mz])), (qc, .inl (cI, 149, .inl mc)), (hi, .inr (2, [.ref qb, .int ic])), (qb, .inl (cI, 24, .inl ib)), (qa, .inl (cI, 16, .inl xa)), (qg, .inl (cI, 4, .inl xg))]) [0, 1, 2, 3, 4, 5, 6] (by decide) rfl
    exact W.iret (v := (r1 - 1) / 4) hx hb hr (fun t ht hW => ⟨⟨(r1 - 1) / 4, (), rfl, rfl, by rw [ht]; exact hP9, va_K.moved hW.alike hK, hD9⟩, hS.F ht⟩) hS.2.2 d_A_ownerOf_21
  have hf := ift hf hc2
  refine lv_bipush (v := (-2)) hx hb d_A_ownerOf_11 (by decide) ?_
  refine lv_goto (tgt := 21) hx hb d_A_ownerOf_13 rfl ?_
  have e1_ := lf1 hf
  subst e1_
  have hP9 := hP.sub (ws' := [(ha, .inr (0, [.ref hm, .ref hi, .ref qa, .ref qg, .int xl, .int xo, .int xs, .int xv, .int xp])), (hm, .inr (1, [.ref qc, .int mw, .int mf, .int mz])), (qc, .inl (cI, 149, .inl mc)), (hi, .inr (2, [.ref qb, .int ic])), (qb, .inl (cI, 24, .inl ib)), (qa, .inl (cI, 16, .inl xa)), (qg, .inl (cI, 4, .inl xg))]) [0, 1, 2, 3, 4, 5, 6] rfl
  have hD9 := hD.sub (ws' := [(ha, .inr (0, [.ref hm, .ref hi, .ref qa, .ref qg, .int xl, .int xo, .int xs, .int xv, .int xp])), (hm, .inr (1, [.ref qc, .int mw, .int mf, .int mz])), (qc, .inl (cI, 149, .inl mc)), (hi, .inr (2, [.ref qb, .int ic])), (qb, .inl (cI, 24, .inl ib)), (qa, .inl (cI, 16, .inl xa)), (qg, .inl (cI, 4, .inl xg))]) [0, 1, 2, 3, 4, 5, 6] (by decide) rfl
  exact W.iret (v := (-2)) hx hb hr (fun t ht hW => ⟨⟨(-2), (), rfl, rfl, by rw [ht]; exact hP9, va_K.moved hW.alike hK, hD9⟩, hS.F ht⟩) hS.2.2 d_A_ownerOf_21
theorem d_A_clientOf_0 : decode b_A_clientOf 0 = .ok (.aload_n 0, 1) := by decide +kernel
theorem d_A_clientOf_1 : decode b_A_clientOf 1 = .ok (.iload_n 1, 1) := by decide +kernel
theorem d_A_clientOf_2 : decode b_A_clientOf 2 = .ok (.iconst 0, 1) := by decide +kernel
theorem d_A_clientOf_3 : decode b_A_clientOf 3 = .ok (.invokevirtual 104, 3) := by decide +kernel
theorem d_A_clientOf_6 : decode b_A_clientOf 6 = .ok (.istore_n 2, 1) := by decide +kernel
theorem d_A_clientOf_7 : decode b_A_clientOf 7 = .ok (.iload_n 2, 1) := by decide +kernel
theorem d_A_clientOf_8 : decode b_A_clientOf 8 = .ok (.ifCond .ne 8, 3) := by decide +kernel
theorem d_A_clientOf_11 : decode b_A_clientOf 11 = .ok (.bipush (-2), 2) := by decide +kernel
theorem d_A_clientOf_13 : decode b_A_clientOf 13 = .ok (.goto 8, 3) := by decide +kernel
theorem d_A_clientOf_16 : decode b_A_clientOf 16 = .ok (.iload_n 2, 1) := by decide +kernel
theorem d_A_clientOf_17 : decode b_A_clientOf 17 = .ok (.iconst 1, 1) := by decide +kernel
theorem d_A_clientOf_18 : decode b_A_clientOf 18 = .ok (.isub, 1) := by decide +kernel
theorem d_A_clientOf_19 : decode b_A_clientOf 19 = .ok (.iconst 4, 1) := by decide +kernel
theorem d_A_clientOf_20 : decode b_A_clientOf 20 = .ok (.irem, 1) := by decide +kernel
theorem d_A_clientOf_21 : decode b_A_clientOf 21 = .ok (.ireturn, 1) := by decide +kernel
def fA_clientOf (σ : StX) (a1 : Int32) : Option (Int32) := match σ with | (mc, mw, mf, mz, ib, ic, xa, xg, xl, xo, xs, xv, xp) => bd1 (fA_shareByte (mc, mw, mf, mz, ib, ic, xa, xg, xl, xo, xs, xv, xp) a1 0) fun r1 => if r1 = 0 then (some (-2)) else (some ((r1 - 1) - (r1 - 1) / 4 * 4))
set_option maxHeartbeats 4000000 in
set_option maxRecDepth 100000 in
theorem ctA_clientOf (l : Launch) (dC : Nat → ClassId) (dI : Nat → Nat → Nat) (cI : ClassId) (ha hm qc hi qb qa qg : Nat) (mc : Nat → Int32) (mw : Int32) (mf : Int32) (mz : Int32) (ib : Nat → Int32) (ic : Int32) (xa : Nat → Int32) (xg : Nat → Int32) (xl : Int32) (xo : Int32) (xs : Int32) (xv : Int32) (xp : Int32) (a1 : Int32) (r : Int32) (hf : fA_clientOf (mc, mw, mf, mz, ib, ic, xa, xg, xl, xo, xs, xv, xp) a1 = some r) : CtI l y_A_clientOf w_A_clientOf ({ frames := 2, cells := 0, slots := 0, locals := 43 }) (dC, dI) [(cI, .int)] [.ref ha, .int a1] [(ha, .inr (0, [.ref hm, .ref hi, .ref qa, .ref qg, .int xl, .int xo, .int xs, .int xv, .int xp])), (hm, .inr (1, [.ref qc, .int mw, .int mf, .int mz])), (qc, .inl (cI, 149, .inl mc)), (hi, .inr (2, [.ref qb, .int ic])), (qb, .inl (cI, 24, .inl ib)), (qa, .inl (cI, 16, .inl xa)), (qg, .inl (cI, 4, .inl xg))] [(ha, .inr (0, [.ref hm, .ref hi, .ref qa, .ref qg, .int xl, .int xo, .int xs, .int xv, .int xp])), (hm, .inr (1, [.ref qc, .int mw, .int mf, .int mz])), (qc, .inl (cI, 149, .inl mc)), (hi, .inr (2, [.ref qb, .int ic])), (qb, .inl (cI, 24, .inl ib)), (qa, .inl (cI, 16, .inl xa)), (qg, .inl (cI, 4, .inl xg))] r := by
  intro sz
  refine Met.ofW (cc := b_A_clientOf) (maxL := 3) (ret := some .int) (by decide) rfl ?_
  intro p e s m args below meth c s₁ B hml hv
  obtain ⟨rfl, hsz, hP, hK, hD0⟩ := hv
  have hx := B.exec
  have hb := B.bytes
  have hr := B.returns
  have hts := atoms_spec (ws := w_A_clientOf) B.pre
  have hown : s.vm.findClass R_A = some m.cls := findClass_of_methodNamed B.named
  have hlocks := B.notSynchronized
  subst hsz
  have hD := hD0.self (sz := s.heap.size)
  generalize hAe : va_A [(ha, .inr (0, [.ref hm, .ref hi, .ref qa, .ref qg, .int xl, .int xo, .int xs, .int xv, .int xp])), (hm, .inr (1, [.ref qc, .int mw, .int mf, .int mz])), (qc, .inl (cI, 149, .inl mc)), (hi, .inr (2, [.ref qb, .int ic])), (qb, .inl (cI, 24, .inl ib)), (qa, .inl (cI, 16, .inl xa)), (qg, .inl (cI, 4, .inl xg))] s.heap.size = A at hD ⊢
  have hA : ∀ q : Nat, s.heap.size ≤ q → A q := fun q h => by rw [← hAe]; exact Or.inr h
  have hS : va_S A s.heap s.heap [] := va_S.rf
  have hP : va_P (dC, dI) vwCl [(ha, .inr (0, [.ref hm, .ref hi, .ref qa, .ref qg, .int xl, .int xo, .int xs, .int xv, .int xp])), (hm, .inr (1, [.ref qc, .int mw, .int mf, .int mz])), (qc, .inl (cI, 149, .inl mc)), (hi, .inr (2, [.ref qb, .int ic])), (qb, .inl (cI, 24, .inl ib)), (qa, .inl (cI, 16, .inl xa)), (qg, .inl (cI, 4, .inl xg))] s.heap := hP
  have hl := lv_entry ([.ref ha, .int a1]) (n := 3) (Nat.le_of_ble_eq_true rfl)
  rw [lg_entry_eq]
  generalize (lg_sl ([.ref ha, .int a1]) ++ List.replicate (3 - (lg_sl ([.ref ha, .int a1])).length) Slot.unset).toArray = ls at hl ⊢
  have hl : lv_has ls 3 [(0, .ref ha), (1, .int a1)] := hl
  rw [fA_clientOf] at hf
  refine lv_aload_n hx hb d_A_clientOf_0 rfl (lv_at hl 0 rfl) ?_
  refine lv_iload_n hx hb d_A_clientOf_1 rfl (lv_at hl 1 rfl) ?_
  refine lv_iconst (v := 0) hx hb d_A_clientOf_2 (by decide) ?_
  obtain ⟨r1, hg, hf⟩ := bd1_some hf
  refine xci (wr := []) (ctA_shareByte l dC dI cI ha hm qc hi qb qa qg mc mw mf mz ib ic xa xg xl xo xs xv xp a1 0 r1 hg) ⟨hx, hb, hml, hown, hts⟩ (cwV (C := R_A) 2 hts (gV wq301 wq303 wq15 wq43 wq304) rfl rfl rfl (by decide +kernel) ⟨Nat.le_of_ble_eq_true rfl, Nat.le_of_ble_eq_true rfl⟩) hK hP hD hS hA [0, 1, 2, 3, 4, 5, 6] [] rfl rfl rfl rfl (by decide) (ci := 0) (q0 := 0) rfl rfl rfl rfl hl.1 rfl (Nat.le_of_ble_eq_true rfl) d_A_clientOf_3 ⟨Nat.zero_le _, Nat.zero_le _⟩ (fun H locs hP hD hS => ?_)
  have hP : va_P (dC, dI) vwCl [(ha, .inr (0, [.ref hm, .ref hi, .ref qa, .ref qg, .int xl, .int xo, .int xs, .int xv, .int xp])), (hm, .inr (1, [.ref qc, .int mw, .int mf, .int mz])), (qc, .inl (cI, 149, .inl mc)), (hi, .inr (2, [.ref qb, .int ic])), (qb, .inl (cI, 24, .inl ib)), (qa, .inl (cI, 16, .inl xa)), (qg, .inl (cI, 4, .inl xg))] H := hP
  have hD : va_D A [(ha, .inr (0, [.ref hm, .ref hi, .ref qa, .ref qg, .int xl, .int xo, .int xs, .int xv, .int xp])), (hm, .inr (1, [.ref qc, .int mw, .int mf, .int mz])), (qc, .inl (cI, 149, .inl mc)), (hi, .inr (2, [.ref qb, .int ic])), (qb, .inl (cI, 24, .inl ib)), (qa, .inl (cI, 16, .inl xa)), (qg, .inl (cI, 4, .inl xg))] := hD
  refine lv_istore_n hx hb d_A_clientOf_6 rfl hl (by decide) rfl (fun ls hl => ?_)
  have hl : lv_has ls 3 [(2, .int r1), (0, .ref ha), (1, .int a1)] := hl
  refine lv_iload_n hx hb d_A_clientOf_7 rfl (lv_at hl 0 rfl) ?_
  refine lv_if_ne (tgt := 16) hx hb d_A_clientOf_8 rfl (fun hc2 => ?_) (fun hc2 => ?_)
  · have hf := ifn hf hc2
    refine lv_iload_n hx hb d_A_clientOf_16 rfl (lv_at hl 0 rfl) ?_
    refine lv_iconst (v := 1) hx hb d_A_clientOf_17 (by decide) ?_
    refine lv_isub hx hb d_A_clientOf_18 ?_
    refine lv_iconst (v := 4) hx hb d_A_clientOf_19 (by decide) ?_
    refine lv_irem hx hb d_A_clientOf_20 (by decide) ?_
    have e1_ := lf1 hf
    subst e1_
    have hP9 := hP.sub (ws' := [(ha, .inr (0, [.ref hm, .ref hi, .ref qa, .ref qg, .int xl, .int xo, .int xs, .int xv, .int xp])), (hm, .inr (1, [.ref qc, .int mw, .int mf, .int mz])), (qc, .inl (cI, 149, .inl mc)), (hi, .inr (2, [.ref qb, .int ic])), (qb, .inl (cI, 24, .inl ib)), (qa, .inl (cI, 16, .inl xa)), (qg, .inl (cI, 4, .inl xg))]) [0, 1, 2, 3, 4, 5, 6] rfl
    have hD9 := hD.sub (ws' := [(ha, .inr (0, [.ref hm, .ref hi, .ref qa, .ref qg, .int xl, .int xo, .int xs, .int xv, .int xp])), (hm, .inr (1, [.ref qc, .int mw, .int mf, .int mz])), (qc, .inl (cI, 149, .inl mc)), (hi, .inr (2, [.ref qb, .int ic])), (qb, .inl (cI, 24, .inl ib)), (qa, .inl (cI, 16, .inl xa)), (qg, .inl (cI, 4, .inl xg))]) [0, 1, 2, 3, 4, 5, 6] (by decide) rfl
    exact W.iret (v := (r1 - 1) - (r1 - 1) / 4 * 4) hx hb hr (fun t ht hW => ⟨⟨(r1 - 1) - (r1 - 1) / 4 * 4, (), rfl, rfl, by rw [ht]; exact hP9, va_K.moved hW.alike hK, hD9⟩, hS.F ht⟩) hS.2.2 d_A_clientOf_21
  have hf := ift hf hc2
  refine lv_bipush (v := (-2)) hx hb d_A_clientOf_11 (by decide) ?_
  refine lv_goto (tgt := 21) hx hb d_A_clientOf_13 rfl ?_
  have e1_ := lf1 hf
  subst e1_
  have hP9 := hP.sub (ws' := [(ha, .inr (0, [.ref hm, .ref hi, .ref qa, .ref qg, .int xl, .int xo, .int xs, .int xv, .int xp])), (hm, .inr (1, [.ref qc, .int mw, .int mf, .int mz])), (qc, .inl (cI, 149, .inl mc)), (hi, .inr (2, [.ref qb, .int ic])), (qb, .inl (cI, 24, .inl ib)), (qa, .inl (cI, 16, .inl xa)), (qg, .inl (cI, 4, .inl xg))]) [0, 1, 2, 3, 4, 5, 6] rfl
  have hD9 := hD.sub (ws' := [(ha, .inr (0, [.ref hm, .ref hi, .ref qa, .ref qg, .int xl, .int xo, .int xs, .int xv, .int xp])), (hm, .inr (1, [.ref qc, .int mw, .int mf, .int mz])), (qc, .inl (cI, 149, .inl mc)), (hi, .inr (2, [.ref qb, .int ic])), (qb, .inl (cI, 24, .inl ib)), (qa, .inl (cI, 16, .inl xa)), (qg, .inl (cI, 4, .inl xg))]) [0, 1, 2, 3, 4, 5, 6] (by decide) rfl
  exact W.iret (v := (-2)) hx hb hr (fun t ht hW => ⟨⟨(-2), (), rfl, rfl, by rw [ht]; exact hP9, va_K.moved hW.alike hK, hD9⟩, hS.F ht⟩) hS.2.2 d_A_clientOf_21
theorem d_A_sharedPlace_0 : decode b_A_sharedPlace 0 = .ok (.aload_n 0, 1) := by decide +kernel
theorem d_A_sharedPlace_1 : decode b_A_sharedPlace 1 = .ok (.iload_n 1, 1) := by decide +kernel
theorem d_A_sharedPlace_2 : decode b_A_sharedPlace 2 = .ok (.invokevirtual 214, 3) := by decide +kernel
theorem d_A_sharedPlace_5 : decode b_A_sharedPlace 5 = .ok (.aload_n 0, 1) := by decide +kernel
theorem d_A_sharedPlace_6 : decode b_A_sharedPlace 6 = .ok (.iload_n 1, 1) := by decide +kernel
theorem d_A_sharedPlace_7 : decode b_A_sharedPlace 7 = .ok (.iconst 1, 1) := by decide +kernel
theorem d_A_sharedPlace_8 : decode b_A_sharedPlace 8 = .ok (.invokevirtual 104, 3) := by decide +kernel
theorem d_A_sharedPlace_11 : decode b_A_sharedPlace 11 = .ok (.iload_n 2, 1) := by decide +kernel
theorem d_A_sharedPlace_12 : decode b_A_sharedPlace 12 = .ok (.iadd, 1) := by decide +kernel
theorem d_A_sharedPlace_13 : decode b_A_sharedPlace 13 = .ok (.invokestatic 93, 3) := by decide +kernel
theorem d_A_sharedPlace_16 : decode b_A_sharedPlace 16 = .ok (.ireturn, 1) := by decide +kernel
def fA_sharedPlace (σ : StX) (a1 : Int32) (a2 : Int32) : Option (Int32) := match σ with | (mc, mw, mf, mz, ib, ic, xa, xg, xl, xo, xs, xv, xp) => bd1 (fA_ownerOf (mc, mw, mf, mz, ib, ic, xa, xg, xl, xo, xs, xv, xp) a1) fun r1 => bd1 (fA_shareByte (mc, mw, mf, mz, ib, ic, xa, xg, xl, xo, xs, xv, xp) a1 1) fun r2 => bd1 (fA_dataPlace r1 (r2 + a2)) fun r3 => some r3
set_option maxHeartbeats 4000000 in
set_option maxRecDepth 100000 in
theorem ctA_sharedPlace (l : Launch) (dC : Nat → ClassId) (dI : Nat → Nat → Nat) (cI : ClassId) (ha hm qc hi qb qa qg : Nat) (mc : Nat → Int32) (mw : Int32) (mf : Int32) (mz : Int32) (ib : Nat → Int32) (ic : Int32) (xa : Nat → Int32) (xg : Nat → Int32) (xl : Int32) (xo : Int32) (xs : Int32) (xv : Int32) (xp : Int32) (a1 : Int32) (a2 : Int32) (r : Int32) (hf : fA_sharedPlace (mc, mw, mf, mz, ib, ic, xa, xg, xl, xo, xs, xv, xp) a1 a2 = some r) : CtI l y_A_sharedPlace w_A_sharedPlace ({ frames := 3, cells := 0, slots := 0, locals := 65 }) (dC, dI) [(cI, .int)] [.ref ha, .int a1, .int a2] [(ha, .inr (0, [.ref hm, .ref hi, .ref qa, .ref qg, .int xl, .int xo, .int xs, .int xv, .int xp])), (hm, .inr (1, [.ref qc, .int mw, .int mf, .int mz])), (qc, .inl (cI, 149, .inl mc)), (hi, .inr (2, [.ref qb, .int ic])), (qb, .inl (cI, 24, .inl ib)), (qa, .inl (cI, 16, .inl xa)), (qg, .inl (cI, 4, .inl xg))] [(ha, .inr (0, [.ref hm, .ref hi, .ref qa, .ref qg, .int xl, .int xo, .int xs, .int xv, .int xp])), (hm, .inr (1, [.ref qc, .int mw, .int mf, .int mz])), (qc, .inl (cI, 149, .inl mc)), (hi, .inr (2, [.ref qb, .int ic])), (qb, .inl (cI, 24, .inl ib)), (qa, .inl (cI, 16, .inl xa)), (qg, .inl (cI, 4, .inl xg))] r := by
  intro sz
  refine Met.ofW (cc := b_A_sharedPlace) (maxL := 3) (ret := some .int) (by decide) rfl ?_
  intro p e s m args below meth c s₁ B hml hv
  obtain ⟨rfl, hsz, hP, hK, hD0⟩ := hv
  have hx := B.exec
  have hb := B.bytes
  have hr := B.returns
  have hts := atoms_spec (ws := w_A_sharedPlace) B.pre
  have hown : s.vm.findClass R_A = some m.cls := findClass_of_methodNamed B.named
  have hlocks := B.notSynchronized
  subst hsz
  have hD := hD0.self (sz := s.heap.size)
  generalize hAe : va_A [(ha, .inr (0, [.ref hm, .ref hi, .ref qa, .ref qg, .int xl, .int xo, .int xs, .int xv, .int xp])), (hm, .inr (1, [.ref qc, .int mw, .int mf, .int mz])), (qc, .inl (cI, 149, .inl mc)), (hi, .inr (2, [.ref qb, .int ic])), (qb, .inl (cI, 24, .inl ib)), (qa, .inl (cI, 16, .inl xa)), (qg, .inl (cI, 4, .inl xg))] s.heap.size = A at hD ⊢
  have hA : ∀ q : Nat, s.heap.size ≤ q → A q := fun q h => by rw [← hAe]; exact Or.inr h
  have hS : va_S A s.heap s.heap [] := va_S.rf
  have hP : va_P (dC, dI) vwCl [(ha, .inr (0, [.ref hm, .ref hi, .ref qa, .ref qg, .int xl, .int xo, .int xs, .int xv, .int xp])), (hm, .inr (1, [.ref qc, .int mw, .int mf, .int mz])), (qc, .inl (cI, 149, .inl mc)), (hi, .inr (2, [.ref qb, .int ic])), (qb, .inl (cI, 24, .inl ib)), (qa, .inl (cI, 16, .inl xa)), (qg, .inl (cI, 4, .inl xg))] s.heap := hP
  have hl := lv_entry ([.ref ha, .int a1, .int a2]) (n := 3) (Nat.le_of_ble_eq_true rfl)
  rw [lg_entry_eq]
  generalize (lg_sl ([.ref ha, .int a1, .int a2]) ++ List.replicate (3 - (lg_sl ([.ref ha, .int a1, .int a2])).length) Slot.unset).toArray = ls at hl ⊢
  have hl : lv_has ls 3 [(0, .ref ha), (1, .int a1), (2, .int a2)] := hl
  rw [fA_sharedPlace] at hf
  refine lv_aload_n hx hb d_A_sharedPlace_0 rfl (lv_at hl 0 rfl) ?_
  refine lv_iload_n hx hb d_A_sharedPlace_1 rfl (lv_at hl 1 rfl) ?_
  obtain ⟨r1, hg, hf⟩ := bd1_some hf
  refine xci (wr := []) (ctA_ownerOf l dC dI cI ha hm qc hi qb qa qg mc mw mf mz ib ic xa xg xl xo xs xv xp a1 r1 hg) ⟨hx, hb, hml, hown, hts⟩ (cwV (C := R_A) 1 hts (gV wq297 wq299 wq14 wq43 wq300) rfl rfl rfl (by decide +kernel) ⟨Nat.le_of_ble_eq_true rfl, Nat.le_of_ble_eq_true rfl⟩) hK hP hD hS hA [0, 1, 2, 3, 4, 5, 6] [] rfl rfl rfl rfl (by decide) (ci := 0) (q0 := 0) rfl rfl rfl rfl hl.1 rfl (Nat.le_of_ble_eq_true rfl) d_A_sharedPlace_2 ⟨Nat.zero_le _, Nat.zero_le _⟩ (fun H locs hP hD hS => ?_)
  have hP : va_P (dC, dI) vwCl [(ha, .inr (0, [.ref hm, .ref hi, .ref qa, .ref qg, .int xl, .int xo, .int xs, .int xv, .int xp])), (hm, .inr (1, [.ref qc, .int mw, .int mf, .int mz])), (qc, .inl (cI, 149, .inl mc)), (hi, .inr (2, [.ref qb, .int ic])), (qb, .inl (cI, 24, .inl ib)), (qa, .inl (cI, 16, .inl xa)), (qg, .inl (cI, 4, .inl xg))] H := hP
  have hD : va_D A [(ha, .inr (0, [.ref hm, .ref hi, .ref qa, .ref qg, .int xl, .int xo, .int xs, .int xv, .int xp])), (hm, .inr (1, [.ref qc, .int mw, .int mf, .int mz])), (qc, .inl (cI, 149, .inl mc)), (hi, .inr (2, [.ref qb, .int ic])), (qb, .inl (cI, 24, .inl ib)), (qa, .inl (cI, 16, .inl xa)), (qg, .inl (cI, 4, .inl xg))] := hD
  refine lv_aload_n hx hb d_A_sharedPlace_5 rfl (lv_at hl 0 rfl) ?_
  refine lv_iload_n hx hb d_A_sharedPlace_6 rfl (lv_at hl 1 rfl) ?_
  refine lv_iconst (v := 1) hx hb d_A_sharedPlace_7 (by decide) ?_
  obtain ⟨r2, hg, hf⟩ := bd1_some hf
  refine xci (wr := []) (ctA_shareByte l dC dI cI ha hm qc hi qb qa qg mc mw mf mz ib ic xa xg xl xo xs xv xp a1 1 r2 hg) ⟨hx, hb, hml, hown, hts⟩ (cwV (C := R_A) 2 hts (gV wq301 wq303 wq15 wq43 wq304) rfl rfl rfl (by decide +kernel) ⟨Nat.le_of_ble_eq_true rfl, Nat.le_of_ble_eq_true rfl⟩) hK hP hD hS hA [0, 1, 2, 3, 4, 5, 6] [] rfl rfl rfl rfl (by decide) (ci := 0) (q0 := 0) rfl rfl rfl rfl hl.1 rfl (Nat.le_of_ble_eq_true rfl) d_A_sharedPlace_8 ⟨Nat.zero_le _, Nat.zero_le _⟩ (fun H locs hP hD hS => ?_)
  have hP : va_P (dC, dI) vwCl [(ha, .inr (0, [.ref hm, .ref hi, .ref qa, .ref qg, .int xl, .int xo, .int xs, .int xv, .int xp])), (hm, .inr (1, [.ref qc, .int mw, .int mf, .int mz])), (qc, .inl (cI, 149, .inl mc)), (hi, .inr (2, [.ref qb, .int ic])), (qb, .inl (cI, 24, .inl ib)), (qa, .inl (cI, 16, .inl xa)), (qg, .inl (cI, 4, .inl xg))] H := hP
  have hD : va_D A [(ha, .inr (0, [.ref hm, .ref hi, .ref qa, .ref qg, .int xl, .int xo, .int xs, .int xv, .int xp])), (hm, .inr (1, [.ref qc, .int mw, .int mf, .int mz])), (qc, .inl (cI, 149, .inl mc)), (hi, .inr (2, [.ref qb, .int ic])), (qb, .inl (cI, 24, .inl ib)), (qa, .inl (cI, 16, .inl xa)), (qg, .inl (cI, 4, .inl xg))] := hD
  refine lv_iload_n hx hb d_A_sharedPlace_11 rfl (lv_at hl 2 rfl) ?_
  refine lv_iadd hx hb d_A_sharedPlace_12 ?_
  obtain ⟨r3, hg, hf⟩ := bd1_some hf
  refine xsi (ctA_dataPlace l dC dI cI r1 (r2 + a2) r3 hg) ⟨hx, hb, hml, hown, hts⟩ (va_cwS 2 hts (gS wq278 wq279 wq43 wq280) rfl rfl rfl (by decide +kernel) ⟨Nat.le_of_ble_eq_true rfl, Nat.le_of_ble_eq_true rfl⟩) hK hP hD hS hA rfl hl.1 rfl (Nat.le_of_ble_eq_true rfl) d_A_sharedPlace_13 ⟨Nat.zero_le _, Nat.zero_le _⟩ (fun H locs hP hD hS => ?_)
  have e1_ := lf1 hf
  subst e1_
  have hP9 := hP.sub (ws' := [(ha, .inr (0, [.ref hm, .ref hi, .ref qa, .ref qg, .int xl, .int xo, .int xs, .int xv, .int xp])), (hm, .inr (1, [.ref qc, .int mw, .int mf, .int mz])), (qc, .inl (cI, 149, .inl mc)), (hi, .inr (2, [.ref qb, .int ic])), (qb, .inl (cI, 24, .inl ib)), (qa, .inl (cI, 16, .inl xa)), (qg, .inl (cI, 4, .inl xg))]) [0, 1, 2, 3, 4, 5, 6] rfl
  have hD9 := hD.sub (ws' := [(ha, .inr (0, [.ref hm, .ref hi, .ref qa, .ref qg, .int xl, .int xo, .int xs, .int xv, .int xp])), (hm, .inr (1, [.ref qc, .int mw, .int mf, .int mz])), (qc, .inl (cI, 149, .inl mc)), (hi, .inr (2, [.ref qb, .int ic])), (qb, .inl (cI, 24, .inl ib)), (qa, .inl (cI, 16, .inl xa)), (qg, .inl (cI, 4, .inl xg))]) [0, 1, 2, 3, 4, 5, 6] (by decide) rfl
  exact W.iret (v := r3) hx hb hr (fun t ht hW => ⟨⟨r3, (), rfl, rfl, by rw [ht]; exact hP9, va_K.moved hW.alike hK, hD9⟩, hS.F ht⟩) hS.2.2 d_A_sharedPlace_16
theorem d_A_respond_0 : decode b_A_respond 0 = .ok (.iconst 0, 1) := by decide +kernel
theorem d_A_respond_1 : decode b_A_respond 1 = .ok (.istore_n 3, 1) := by decide +kernel
theorem d_A_respond_2 : decode b_A_respond 2 = .ok (.iload_n 3, 1) := by decide +kernel
theorem d_A_respond_3 : decode b_A_respond 3 = .ok (.iload_n 2, 1) := by decide +kernel
theorem d_A_respond_4 : decode b_A_respond 4 = .ok (.if_icmp .ge 25, 3) := by decide +kernel
theorem d_A_respond_7 : decode b_A_respond 7 = .ok (.aload_n 0, 1) := by decide +kernel
theorem d_A_respond_8 : decode b_A_respond 8 = .ok (.getfield 23, 3) := by decide +kernel
theorem d_A_respond_11 : decode b_A_respond 11 = .ok (.iload_n 3, 1) := by decide +kernel
theorem d_A_respond_12 : decode b_A_respond 12 = .ok (.aload_n 0, 1) := by decide +kernel
theorem d_A_respond_13 : decode b_A_respond 13 = .ok (.getfield 10, 3) := by decide +kernel
theorem d_A_respond_16 : decode b_A_respond 16 = .ok (.iload_n 1, 1) := by decide +kernel
theorem d_A_respond_17 : decode b_A_respond 17 = .ok (.iload_n 3, 1) := by decide +kernel
theorem d_A_respond_18 : decode b_A_respond 18 = .ok (.iadd, 1) := by decide +kernel
theorem d_A_respond_19 : decode b_A_respond 19 = .ok (.invokevirtual 97, 3) := by decide +kernel
theorem d_A_respond_22 : decode b_A_respond 22 = .ok (.iastore, 1) := by decide +kernel
theorem d_A_respond_23 : decode b_A_respond 23 = .ok (.iinc 3 1, 3) := by decide +kernel
theorem d_A_respond_26 : decode b_A_respond 26 = .ok (.goto (-24), 3) := by decide +kernel
theorem d_A_respond_29 : decode b_A_respond 29 = .ok (.aload_n 0, 1) := by decide +kernel
theorem d_A_respond_30 : decode b_A_respond 30 = .ok (.iload_n 2, 1) := by decide +kernel
theorem d_A_respond_31 : decode b_A_respond 31 = .ok (.putfield 42, 3) := by decide +kernel
theorem d_A_respond_34 : decode b_A_respond 34 = .ok (.ldc 59, 2) := by decide +kernel
theorem d_A_respond_36 : decode b_A_respond 36 = .ok (.ireturn, 1) := by decide +kernel
def fA_respond_L2 : Nat → StX → Int32 → Int32 → Int32 → Option (Int32 × StX)
  | 0, _, _, _, _ => none
  | n + 1, (mc, mw, mf, mz, ib, ic, xa, xg, xl, xo, xs, xv, xp), v1, v2, v3 => if v2 ≤ v3 then (some (36864, mc, mw, mf, mz, ib, ic, xa, xg, v2, xo, xs, xv, xp)) else (bd1 (fM_at (mc, mw, mf, mz) (v1 + v3)) fun r2 => ix v3 16 fun j3 => fA_respond_L2 n (mc, mw, mf, mz, ib, ic, upd xa j3 r2, xg, xl, xo, xs, xv, xp) v1 v2 (v3 + 1))
def fA_respond (σ : StX) (a1 : Int32) (a2 : Int32) : Option (Int32 × StX) := match σ with | (mc, mw, mf, mz, ib, ic, xa, xg, xl, xo, xs, xv, xp) => fA_respond_L2 300 (mc, mw, mf, mz, ib, ic, xa, xg, xl, xo, xs, xv, xp) a1 a2 0
set_option maxHeartbeats 4000000 in
set_option maxRecDepth 100000 in
theorem ctA_respond (l : Launch) (dC : Nat → ClassId) (dI : Nat → Nat → Nat) (cI : ClassId) (ha hm qc hi qb qa qg : Nat) (mc : Nat → Int32) (mw : Int32) (mf : Int32) (mz : Int32) (ib : Nat → Int32) (ic : Int32) (xa : Nat → Int32) (xg : Nat → Int32) (xl : Int32) (xo : Int32) (xs : Int32) (xv : Int32) (xp : Int32) (a1 : Int32) (a2 : Int32) (r : Int32) (mc' : Nat → Int32) (mw' : Int32) (mf' : Int32) (mz' : Int32) (ib' : Nat → Int32) (ic' : Int32) (xa' : Nat → Int32) (xg' : Nat → Int32) (xl' : Int32) (xo' : Int32) (xs' : Int32) (xv' : Int32) (xp' : Int32) (hf : fA_respond (mc, mw, mf, mz, ib, ic, xa, xg, xl, xo, xs, xv, xp) a1 a2 = some (r, mc', mw', mf', mz', ib', ic', xa', xg', xl', xo', xs', xv', xp')) : CtI l y_A_respond w_A_respond ({ frames := 1, cells := 0, slots := 0, locals := 21 }) (dC, dI) [(cI, .int)] [.ref ha, .int a1, .int a2] [(ha, .inr (0, [.ref hm, .ref hi, .ref qa, .ref qg, .int xl, .int xo, .int xs, .int xv, .int xp])), (hm, .inr (1, [.ref qc, .int mw, .int mf, .int mz])), (qc, .inl (cI, 149, .inl mc)), (hi, .inr (2, [.ref qb, .int ic])), (qb, .inl (cI, 24, .inl ib)), (qa, .inl (cI, 16, .inl xa)), (qg, .inl (cI, 4, .inl xg))] [(ha, .inr (0, [.ref hm, .ref hi, .ref qa, .ref qg, .int xl', .int xo', .int xs', .int xv', .int xp'])), (hm, .inr (1, [.ref qc, .int mw', .int mf', .int mz'])), (qc, .inl (cI, 149, .inl mc')), (hi, .inr (2, [.ref qb, .int ic'])), (qb, .inl (cI, 24, .inl ib')), (qa, .inl (cI, 16, .inl xa')), (qg, .inl (cI, 4, .inl xg'))] r := by
  intro sz
  refine Met.ofW (cc := b_A_respond) (maxL := 4) (ret := some .int) (by decide) rfl ?_
  intro p e s m args below meth c s₁ B hml hv
  obtain ⟨rfl, hsz, hP, hK, hD0⟩ := hv
  have hx := B.exec
  have hb := B.bytes
  have hr := B.returns
  have hts := atoms_spec (ws := w_A_respond) B.pre
  have hown : s.vm.findClass R_A = some m.cls := findClass_of_methodNamed B.named
  have hlocks := B.notSynchronized
  subst hsz
  have hD := hD0.self (sz := s.heap.size)
  generalize hAe : va_A [(ha, .inr (0, [.ref hm, .ref hi, .ref qa, .ref qg, .int xl, .int xo, .int xs, .int xv, .int xp])), (hm, .inr (1, [.ref qc, .int mw, .int mf, .int mz])), (qc, .inl (cI, 149, .inl mc)), (hi, .inr (2, [.ref qb, .int ic])), (qb, .inl (cI, 24, .inl ib)), (qa, .inl (cI, 16, .inl xa)), (qg, .inl (cI, 4, .inl xg))] s.heap.size = A at hD ⊢
  have hA : ∀ q : Nat, s.heap.size ≤ q → A q := fun q h => by rw [← hAe]; exact Or.inr h
  have hS : va_S A s.heap s.heap [] := va_S.rf
  have hP : va_P (dC, dI) vwCl [(ha, .inr (0, [.ref hm, .ref hi, .ref qa, .ref qg, .int xl, .int xo, .int xs, .int xv, .int xp])), (hm, .inr (1, [.ref qc, .int mw, .int mf, .int mz])), (qc, .inl (cI, 149, .inl mc)), (hi, .inr (2, [.ref qb, .int ic])), (qb, .inl (cI, 24, .inl ib)), (qa, .inl (cI, 16, .inl xa)), (qg, .inl (cI, 4, .inl xg))] s.heap := hP
  have hl := lv_entry ([.ref ha, .int a1, .int a2]) (n := 4) (Nat.le_of_ble_eq_true rfl)
  rw [lg_entry_eq]
  generalize (lg_sl ([.ref ha, .int a1, .int a2]) ++ List.replicate (4 - (lg_sl ([.ref ha, .int a1, .int a2])).length) Slot.unset).toArray = ls at hl ⊢
  have hl : lv_has ls 4 [(0, .ref ha), (1, .int a1), (2, .int a2)] := hl
  have inA : ∀ w ∈ u_ws R_A F_A 9, w ∈ w_A_respond := fun w h => List.mem_cons_of_mem _ (in_A w h)
  have kc59 := hts _ (List.mem_cons_of_mem _ wq182)
  have kf10 := hts _ (List.mem_cons_of_mem _ wq91)
  have kf23 := hts _ (List.mem_cons_of_mem _ wq93)
  have kf42 := hts _ (List.mem_cons_of_mem _ wq95)
  rw [fA_respond] at hf
  refine lv_iconst (v := 0) hx hb d_A_respond_0 (by decide) ?_
  refine lv_istore_n hx hb d_A_respond_1 rfl hl (by decide) rfl (fun ls hl => ?_)
  have hl : lv_has ls 4 [(3, .int 0), (0, .ref ha), (1, .int a1), (2, .int a2)] := hl
  have hl := lv_sub (l' := [(0, .ref ha), (1, .int a1), (2, .int a2), (3, .int 0)]) hl [1, 2, 3, 0] rfl
  refine xloop (σ := (Nat → Int32) × (Int32) × (Int32) × (Int32) × (Nat → Int32) × (Int32) × (Nat → Int32) × (Nat → Int32) × (Int32) × (Int32) × (Int32) × (Int32) × (Int32) × (Int32) × (Int32) × (Int32)) (pc := 2) (fun n x H locs ls => va_P (dC, dI) vwCl [(ha, .inr (0, [.ref hm, .ref hi, .ref qa, .ref qg, .int (x.2.2.2.2.2.2.2.2.1), .int (x.2.2.2.2.2.2.2.2.2.1), .int (x.2.2.2.2.2.2.2.2.2.2.1), .int (x.2.2.2.2.2.2.2.2.2.2.2.1), .int (x.2.2.2.2.2.2.2.2.2.2.2.2.1)])), (hm, .inr (1, [.ref qc, .int (x.2.1), .int (x.2.2.1), .int (x.2.2.2.1)])), (qc, .inl (cI, 149, .inl (x.1))), (hi, .inr (2, [.ref qb, .int (x.2.2.2.2.2.1)])), (qb, .inl (cI, 24, .inl (x.2.2.2.2.1))), (qa, .inl (cI, 16, .inl (x.2.2.2.2.2.2.1))), (qg, .inl (cI, 4, .inl (x.2.2.2.2.2.2.2.1)))] H ∧ va_D A [(ha, .inr (0, [.ref hm, .ref hi, .ref qa, .ref qg, .int (x.2.2.2.2.2.2.2.2.1), .int (x.2.2.2.2.2.2.2.2.2.1), .int (x.2.2.2.2.2.2.2.2.2.2.1), .int (x.2.2.2.2.2.2.2.2.2.2.2.1), .int (x.2.2.2.2.2.2.2.2.2.2.2.2.1)])), (hm, .inr (1, [.ref qc, .int (x.2.1), .int (x.2.2.1), .int (x.2.2.2.1)])), (qc, .inl (cI, 149, .inl (x.1))), (hi, .inr (2, [.ref qb, .int (x.2.2.2.2.2.1)])), (qb, .inl (cI, 24, .inl (x.2.2.2.2.1))), (qa, .inl (cI, 16, .inl (x.2.2.2.2.2.2.1))), (qg, .inl (cI, 4, .inl (x.2.2.2.2.2.2.2.1)))] ∧ va_S A s.heap H locs ∧ lv_has ls 4 [(0, .ref ha), (1, .int (x.2.2.2.2.2.2.2.2.2.2.2.2.2.1)), (2, .int (x.2.2.2.2.2.2.2.2.2.2.2.2.2.2.1)), (3, .int (x.2.2.2.2.2.2.2.2.2.2.2.2.2.2.2))] ∧ fA_respond_L2 n (x.1, x.2.1, x.2.2.1, x.2.2.2.1, x.2.2.2.2.1, x.2.2.2.2.2.1, x.2.2.2.2.2.2.1, x.2.2.2.2.2.2.2.1, x.2.2.2.2.2.2.2.2.1, x.2.2.2.2.2.2.2.2.2.1, x.2.2.2.2.2.2.2.2.2.2.1, x.2.2.2.2.2.2.2.2.2.2.2.1, x.2.2.2.2.2.2.2.2.2.2.2.2.1) x.2.2.2.2.2.2.2.2.2.2.2.2.2.1 x.2.2.2.2.2.2.2.2.2.2.2.2.2.2.1 x.2.2.2.2.2.2.2.2.2.2.2.2.2.2.2 = some (r, mc', mw', mf', mz', ib', ic', xa', xg', xl', xo', xs', xv', xp')) ?_ (fun x H locs ls h => by have h9 := h.2.2.2.2; rw [fA_respond_L2] at h9; cases h9) 300 (mc, mw, mf, mz, ib, ic, xa, xg, xl, xo, xs, xv, xp, a1, a2, 0) _ _ ls ⟨hP, hD, hS, hl, hf⟩
  intro n ih x H locs ls hI
  obtain ⟨mc, mw, mf, mz, ib, ic, xa, xg, xl, xo, xs, xv, xp, v1, v2, v3⟩ := x
  obtain ⟨hP, hD, hS, hl, hf⟩ := hI
  have hP : va_P (dC, dI) vwCl [(ha, .inr (0, [.ref hm, .ref hi, .ref qa, .ref qg, .int xl, .int xo, .int xs, .int xv, .int xp])), (hm, .inr (1, [.ref qc, .int mw, .int mf, .int mz])), (qc, .inl (cI, 149, .inl mc)), (hi, .inr (2, [.ref qb, .int ic])), (qb, .inl (cI, 24, .inl ib)), (qa, .inl (cI, 16, .inl xa)), (qg, .inl (cI, 4, .inl xg))] H := hP
  have hD : va_D A [(ha, .inr (0, [.ref hm, .ref hi, .ref qa, .ref qg, .int xl, .int xo, .int xs, .int xv, .int xp])), (hm, .inr (1, [.ref qc, .int mw, .int mf, .int mz])), (qc, .inl (cI, 149, .inl mc)), (hi, .inr (2, [.ref qb, .int ic])), (qb, .inl (cI, 24, .inl ib)), (qa, .inl (cI, 16, .inl xa)), (qg, .inl (cI, 4, .inl xg))] := hD
  have hl : lv_has ls 4 [(0, .ref ha), (1, .int v1), (2, .int v2), (3, .int v3)] := hl
  rw [fA_respond_L2] at hf
  refine lv_iload_n hx hb d_A_respond_2 rfl (lv_at hl 3 rfl) ?_
  refine lv_iload_n hx hb d_A_respond_3 rfl (lv_at hl 2 rfl) ?_
  refine lv_icmp_ge (tgt := 29) hx hb d_A_respond_4 rfl (fun hc1 => ?_) (fun hc1 => ?_)
  · have hf := ift hf hc1
    refine lv_aload_n hx hb d_A_respond_29 rfl (lv_at hl 0 rfl) ?_
    refine lv_iload_n hx hb d_A_respond_30 rfl (lv_at hl 2 rfl) ?_
    refine va_put (D := (dC, dI)) (ci := 0) (v := .int v2) (ty := .int) (C := R_A) (T := F_A) (N := 9) hx hb hts inA t_A t_A_ok n_A hown hK hP hD hS 0 rfl rfl 4 (by decide) kf42 (fun _ h9 => h9) rfl (by decide +kernel) rfl rfl (Nat.le_of_ble_eq_true rfl) d_A_respond_31 (fun H locs hP hD hS => ?_)
    have hP : va_P (dC, dI) vwCl [(ha, .inr (0, [.ref hm, .ref hi, .ref qa, .ref qg, .int v2, .int xo, .int xs, .int xv, .int xp])), (hm, .inr (1, [.ref qc, .int mw, .int mf, .int mz])), (qc, .inl (cI, 149, .inl mc)), (hi, .inr (2, [.ref qb, .int ic])), (qb, .inl (cI, 24, .inl ib)), (qa, .inl (cI, 16, .inl xa)), (qg, .inl (cI, 4, .inl xg))] H := hP
    have hD : va_D A [(ha, .inr (0, [.ref hm, .ref hi, .ref qa, .ref qg, .int v2, .int xo, .int xs, .int xv, .int xp])), (hm, .inr (1, [.ref qc, .int mw, .int mf, .int mz])), (qc, .inl (cI, 149, .inl mc)), (hi, .inr (2, [.ref qb, .int ic])), (qb, .inl (cI, 24, .inl ib)), (qa, .inl (cI, 16, .inl xa)), (qg, .inl (cI, 4, .inl xg))] := hD
    refine lv_ldc (v := 36864) hx hb hown kc59 d_A_respond_34 ?_
    obtain ⟨e1_, e2_, e3_, e4_, e5_, e6_, e7_, e8_, e9_, e10_, e11_, e12_, e13_, e14_⟩ := lf14 hf
    subst e1_; subst e2_; subst e3_; subst e4_; subst e5_; subst e6_; subst e7_; subst e8_; subst e9_; subst e10_; subst e11_; subst e12_; subst e13_; subst e14_
    have hP9 := hP.sub (ws' := [(ha, .inr (0, [.ref hm, .ref hi, .ref qa, .ref qg, .int v2, .int xo, .int xs, .int xv, .int xp])), (hm, .inr (1, [.ref qc, .int mw, .int mf, .int mz])), (qc, .inl (cI, 149, .inl mc)), (hi, .inr (2, [.ref qb, .int ic])), (qb, .inl (cI, 24, .inl ib)), (qa, .inl (cI, 16, .inl xa)), (qg, .inl (cI, 4, .inl xg))]) [0, 1, 2, 3, 4, 5, 6] rfl
    have hD9 := hD.sub (ws' := [(ha, .inr (0, [.ref hm, .ref hi, .ref qa, .ref qg, .int v2, .int xo, .int xs, .int xv, .int xp])), (hm, .inr (1, [.ref qc, .int mw, .int mf, .int mz])), (qc, .inl (cI, 149, .inl mc)), (hi, .inr (2, [.ref qb, .int ic])), (qb, .inl (cI, 24, .inl ib)), (qa, .inl (cI, 16, .inl xa)), (qg, .inl (cI, 4, .inl xg))]) [0, 1, 2, 3, 4, 5, 6] (by decide) rfl
    exact W.iret (v := 36864) hx hb hr (fun t ht hW => ⟨⟨36864, (), rfl, rfl, by rw [ht]; exact hP9, va_K.moved hW.alike hK, hD9⟩, hS.F ht⟩) hS.2.2 d_A_respond_36
  have hf := ifn hf hc1
  refine lv_aload_n hx hb d_A_respond_7 rfl (lv_at hl 0 rfl) ?_
  refine va_get (D := (dC, dI)) (ci := 0) (v := .ref qa) (C := R_A) (T := F_A) (N := 9) hx hb hts inA hown hK hP 0 rfl rfl 2 (by decide) kf23 (fun _ h9 => h9) rfl d_A_respond_8 ?_
  refine lv_iload_n hx hb d_A_respond_11 rfl (lv_at hl 3 rfl) ?_
  refine lv_aload_n hx hb d_A_respond_12 rfl (lv_at hl 0 rfl) ?_
  refine va_get (D := (dC, dI)) (ci := 0) (v := .ref hm) (C := R_A) (T := F_A) (N := 9) hx hb hts inA hown hK hP 0 rfl rfl 0 (by decide) kf10 (fun _ h9 => h9) rfl d_A_respond_13 ?_
  refine lv_iload_n hx hb d_A_respond_16 rfl (lv_at hl 1 rfl) ?_
  refine lv_iload_n hx hb d_A_respond_17 rfl (lv_at hl 3 rfl) ?_
  refine lv_iadd hx hb d_A_respond_18 ?_
  obtain ⟨r2, hg, hf⟩ := bd1_some hf
  refine xci (wr := [(ha, .inr (0, [.ref hm, .ref hi, .ref qa, .ref qg, .int xl, .int xo, .int xs, .int xv, .int xp])), (hi, .inr (2, [.ref qb, .int ic])), (qb, .inl (cI, 24, .inl ib)), (qa, .inl (cI, 16, .inl xa)), (qg, .inl (cI, 4, .inl xg))]) (ctM_at l dC dI cI hm qc mc mw mf mz (v1 + v3) r2 hg) ⟨hx, hb, hml, hown, hts⟩ (cwV (C := R_M) 1 hts (gV wq229 wq230 wq231 wq44 wq232) rfl rfl rfl (by decide +kernel) ⟨Nat.le_of_ble_eq_true rfl, Nat.le_of_ble_eq_true rfl⟩) hK hP hD hS hA [1, 2] [0, 3, 4, 5, 6] rfl rfl rfl rfl (by decide) (ci := 1) (q0 := 1) rfl rfl rfl rfl hl.1 rfl (Nat.le_of_ble_eq_true rfl) d_A_respond_19 ⟨Nat.zero_le _, Nat.zero_le _⟩ (fun H locs hP hD hS => ?_)
  have hP : va_P (dC, dI) vwCl [(ha, .inr (0, [.ref hm, .ref hi, .ref qa, .ref qg, .int xl, .int xo, .int xs, .int xv, .int xp])), (hi, .inr (2, [.ref qb, .int ic])), (qb, .inl (cI, 24, .inl ib)), (qa, .inl (cI, 16, .inl xa)), (qg, .inl (cI, 4, .inl xg)), (hm, .inr (1, [.ref qc, .int mw, .int mf, .int mz])), (qc, .inl (cI, 149, .inl mc))] H := hP
  have hD : va_D A [(ha, .inr (0, [.ref hm, .ref hi, .ref qa, .ref qg, .int xl, .int xo, .int xs, .int xv, .int xp])), (hi, .inr (2, [.ref qb, .int ic])), (qb, .inl (cI, 24, .inl ib)), (qa, .inl (cI, 16, .inl xa)), (qg, .inl (cI, 4, .inl xg)), (hm, .inr (1, [.ref qc, .int mw, .int mf, .int mz])), (qc, .inl (cI, 149, .inl mc))] := hD
  obtain ⟨hin_, hf⟩ := ix_some hf
  refine va_iast hx hb hK hP hD hS 3 0 rfl rfl hin_ d_A_respond_22 (fun H locs hP hD hS => ?_)
  have hP : va_P (dC, dI) vwCl [(ha, .inr (0, [.ref hm, .ref hi, .ref qa, .ref qg, .int xl, .int xo, .int xs, .int xv, .int xp])), (hi, .inr (2, [.ref qb, .int ic])), (qb, .inl (cI, 24, .inl ib)), (qa, .inl (cI, 16, .inl (upd xa (v3 : Int32).toNatClampNeg r2))), (qg, .inl (cI, 4, .inl xg)), (hm, .inr (1, [.ref qc, .int mw, .int mf, .int mz])), (qc, .inl (cI, 149, .inl mc))] H := hP
  have hD : va_D A [(ha, .inr (0, [.ref hm, .ref hi, .ref qa, .ref qg, .int xl, .int xo, .int xs, .int xv, .int xp])), (hi, .inr (2, [.ref qb, .int ic])), (qb, .inl (cI, 24, .inl ib)), (qa, .inl (cI, 16, .inl (upd xa (v3 : Int32).toNatClampNeg r2))), (qg, .inl (cI, 4, .inl xg)), (hm, .inr (1, [.ref qc, .int mw, .int mf, .int mz])), (qc, .inl (cI, 149, .inl mc))] := hD
  refine lv_iinc (v := v3 + 1) hx hb d_A_respond_23 hl (k := 3) rfl rfl (by decide) rfl (fun ls hl => ?_)
  have hl : lv_has ls 4 [(3, .int (v3 + 1)), (0, .ref ha), (1, .int v1), (2, .int v2)] := hl
  refine lv_goto (tgt := 2) hx hb d_A_respond_26 rfl ?_
  have hP := hP.sub (ws' := [(ha, .inr (0, [.ref hm, .ref hi, .ref qa, .ref qg, .int xl, .int xo, .int xs, .int xv, .int xp])), (hm, .inr (1, [.ref qc, .int mw, .int mf, .int mz])), (qc, .inl (cI, 149, .inl mc)), (hi, .inr (2, [.ref qb, .int ic])), (qb, .inl (cI, 24, .inl ib)), (qa, .inl (cI, 16, .inl (upd xa (v3 : Int32).toNatClampNeg r2))), (qg, .inl (cI, 4, .inl xg))]) [0, 5, 6, 1, 2, 3, 4] rfl
  have hD := hD.sub (ws' := [(ha, .inr (0, [.ref hm, .ref hi, .ref qa, .ref qg, .int xl, .int xo, .int xs, .int xv, .int xp])), (hm, .inr (1, [.ref qc, .int mw, .int mf, .int mz])), (qc, .inl (cI, 149, .inl mc)), (hi, .inr (2, [.ref qb, .int ic])), (qb, .inl (cI, 24, .inl ib)), (qa, .inl (cI, 16, .inl (upd xa (v3 : Int32).toNatClampNeg r2))), (qg, .inl (cI, 4, .inl xg))]) [0, 5, 6, 1, 2, 3, 4] (by decide) rfl
  have hl := lv_sub (l' := [(0, .ref ha), (1, .int v1), (2, .int v2), (3, .int (v3 + 1))]) hl [1, 2, 3, 0] rfl
  exact ih (mc, mw, mf, mz, ib, ic, upd xa (v3 : Int32).toNatClampNeg r2, xg, xl, xo, xs, xv, xp, v1, v2, v3 + 1) _ _ ls ⟨hP, hD, hS, hl, hf⟩
theorem d_A_store_0 : decode b_A_store 0 = .ok (.aload_n 0, 1) := by decide +kernel
theorem d_A_store_1 : decode b_A_store 1 = .ok (.getfield 10, 3) := by decide +kernel
theorem d_A_store_4 : decode b_A_store 4 = .ok (.invokevirtual 79, 3) := by decide +kernel
theorem d_A_store_7 : decode b_A_store 7 = .ok (.iload 4, 2) := by decide +kernel
theorem d_A_store_9 : decode b_A_store 9 = .ok (.iadd, 1) := by decide +kernel
theorem d_A_store_10 : decode b_A_store 10 = .ok (.bipush 20, 2) := by decide +kernel
theorem d_A_store_12 : decode b_A_store 12 = .ok (.if_icmp .le 7, 3) := by decide +kernel
theorem d_A_store_15 : decode b_A_store 15 = .ok (.sipush 27268, 3) := by decide +kernel
theorem d_A_store_18 : decode b_A_store 18 = .ok (.ireturn, 1) := by decide +kernel
theorem d_A_store_19 : decode b_A_store 19 = .ok (.iconst 0, 1) := by decide +kernel
theorem d_A_store_20 : decode b_A_store 20 = .ok (.istore 5, 2) := by decide +kernel
theorem d_A_store_22 : decode b_A_store 22 = .ok (.iload 5, 2) := by decide +kernel
theorem d_A_store_24 : decode b_A_store 24 = .ok (.iload 4, 2) := by decide +kernel
theorem d_A_store_26 : decode b_A_store 26 = .ok (.if_icmp .ge 31, 3) := by decide +kernel
theorem d_A_store_29 : decode b_A_store 29 = .ok (.aload_n 0, 1) := by decide +kernel
theorem d_A_store_30 : decode b_A_store 30 = .ok (.getfield 10, 3) := by decide +kernel
theorem d_A_store_33 : decode b_A_store 33 = .ok (.iload_n 1, 1) := by decide +kernel
theorem d_A_store_34 : decode b_A_store 34 = .ok (.iload 5, 2) := by decide +kernel
theorem d_A_store_36 : decode b_A_store 36 = .ok (.iadd, 1) := by decide +kernel
theorem d_A_store_37 : decode b_A_store 37 = .ok (.aload_n 2, 1) := by decide +kernel
theorem d_A_store_38 : decode b_A_store 38 = .ok (.iload_n 3, 1) := by decide +kernel
theorem d_A_store_39 : decode b_A_store 39 = .ok (.iload 5, 2) := by decide +kernel
theorem d_A_store_41 : decode b_A_store 41 = .ok (.iadd, 1) := by decide +kernel
theorem d_A_store_42 : decode b_A_store 42 = .ok (.iaload, 1) := by decide +kernel
theorem d_A_store_43 : decode b_A_store 43 = .ok (.invokevirtual 234, 3) := by decide +kernel
theorem d_A_store_46 : decode b_A_store 46 = .ok (.ifCond .ne 5, 3) := by decide +kernel
theorem d_A_store_49 : decode b_A_store 49 = .ok (.iconst (-1), 1) := by decide +kernel
theorem d_A_store_50 : decode b_A_store 50 = .ok (.ireturn, 1) := by decide +kernel
theorem d_A_store_51 : decode b_A_store 51 = .ok (.iinc 5 1, 3) := by decide +kernel
theorem d_A_store_54 : decode b_A_store 54 = .ok (.goto (-32), 3) := by decide +kernel
theorem d_A_store_57 : decode b_A_store 57 = .ok (.aload_n 0, 1) := by decide +kernel
theorem d_A_store_58 : decode b_A_store 58 = .ok (.getfield 110, 3) := by decide +kernel
theorem d_A_store_61 : decode b_A_store 61 = .ok (.ifCond .ne 13, 3) := by decide +kernel
theorem d_A_store_64 : decode b_A_store 64 = .ok (.aload_n 0, 1) := by decide +kernel
theorem d_A_store_65 : decode b_A_store 65 = .ok (.getfield 10, 3) := by decide +kernel
theorem d_A_store_68 : decode b_A_store 68 = .ok (.invokevirtual 211, 3) := by decide +kernel
theorem d_A_store_71 : decode b_A_store 71 = .ok (.ifCond .eq 7, 3) := by decide +kernel
theorem d_A_store_74 : decode b_A_store 74 = .ok (.iconst 1, 1) := by decide +kernel
theorem d_A_store_75 : decode b_A_store 75 = .ok (.goto 4, 3) := by decide +kernel
theorem d_A_store_78 : decode b_A_store 78 = .ok (.iconst 0, 1) := by decide +kernel
theorem d_A_store_79 : decode b_A_store 79 = .ok (.invokestatic 204, 3) := by decide +kernel
theorem d_A_store_82 : decode b_A_store 82 = .ok (.ireturn, 1) := by decide +kernel
def fA_store_qb_L22 : Nat → StX → Int32 → Int32 → Int32 → Int32 → Option (Int32 × StX)
  | 0, _, _, _, _, _ => none
  | n + 1, (mc, mw, mf, mz, ib, ic, xa, xg, xl, xo, xs, xv, xp), v1, v3, v4, v5 => if v4 ≤ v5 then (if xp = 0 then (bd5 (fM_settle (mc, mw, mf, mz)) fun r6 mc6 mw6 mf6 mz6 => if r6 = 0 then (bd1 (fA_doneIf 0) fun r8 => some (r8, mc6, mw6, mf6, mz6, ib, ic, xa, xg, xl, xo, xs, xv, xp)) else (bd1 (fA_doneIf 1) fun r9 => some (r9, mc6, mw6, mf6, mz6, ib, ic, xa, xg, xl, xo, xs, xv, xp))) else (bd1 (fA_doneIf 1) fun r5 => some (r5, mc, mw, mf, mz, ib, ic, xa, xg, xl, xo, xs, xv, xp))) else (ix (v3 + v5) 24 fun j10 => bd5 (fM_change (mc, mw, mf, mz) (v1 + v5) (ib j10)) fun r11 mc11 mw11 mf11 mz11 => if r11 = 0 then (some ((-1), mc11, mw11, mf11, mz11, ib, ic, xa, xg, xl, xo, xs, xv, xp)) else (fA_store_qb_L22 n (mc11, mw11, mf11, mz11, ib, ic, xa, xg, xl, xo, xs, xv, xp) v1 v3 v4 (v5 + 1)))
def fA_store_qb (σ : StX) (a1 : Int32) (a3 : Int32) (a4 : Int32) : Option (Int32 × StX) := match σ with | (mc, mw, mf, mz, ib, ic, xa, xg, xl, xo, xs, xv, xp) => bd1 (fM_count (mc, mw, mf, mz)) fun r1 => if (r1 + a4) ≤ 20 then (fA_store_qb_L22 300 (mc, mw, mf, mz, ib, ic, xa, xg, xl, xo, xs, xv, xp) a1 a3 a4 0) else (some (27268, mc, mw, mf, mz, ib, ic, xa, xg, xl, xo, xs, xv, xp))
set_option maxHeartbeats 4000000 in
set_option maxRecDepth 100000 in
theorem ctA_store_qb (l : Launch) (dC : Nat → ClassId) (dI : Nat → Nat → Nat) (cI : ClassId) (ha hm qc hi qb qa qg : Nat) (mc : Nat → Int32) (mw : Int32) (mf : Int32) (mz : Int32) (ib : Nat → Int32) (ic : Int32) (xa : Nat → Int32) (xg : Nat → Int32) (xl : Int32) (xo : Int32) (xs : Int32) (xv : Int32) (xp : Int32) (a1 : Int32) (a3 : Int32) (a4 : Int32) (r : Int32) (mc' : Nat → Int32) (mw' : Int32) (mf' : Int32) (mz' : Int32) (ib' : Nat → Int32) (ic' : Int32) (xa' : Nat → Int32) (xg' : Nat → Int32) (xl' : Int32) (xo' : Int32) (xs' : Int32) (xv' : Int32) (xp' : Int32) (hf : fA_store_qb (mc, mw, mf, mz, ib, ic, xa, xg, xl, xo, xs, xv, xp) a1 a3 a4 = some (r, mc', mw', mf', mz', ib', ic', xa', xg', xl', xo', xs', xv', xp')) : CtI l y_A_store w_A_store ({ frames := 2, cells := 0, slots := 0, locals := 45 }) (dC, dI) [(cI, .int)] [.ref ha, .int a1, .ref qb, .int a3, .int a4] [(ha, .inr (0, [.ref hm, .ref hi, .ref qa, .ref qg, .int xl, .int xo, .int xs, .int xv, .int xp])), (hm, .inr (1, [.ref qc, .int mw, .int mf, .int mz])), (qc, .inl (cI, 149, .inl mc)), (hi, .inr (2, [.ref qb, .int ic])), (qb, .inl (cI, 24, .inl ib)), (qa, .inl (cI, 16, .inl xa)), (qg, .inl (cI, 4, .inl xg))] [(ha, .inr (0, [.ref hm, .ref hi, .ref qa, .ref qg, .int xl', .int xo', .int xs', .int xv', .int xp'])), (hm, .inr (1, [.ref qc, .int mw', .int mf', .int mz'])), (qc, .inl (cI, 149, .inl mc')), (hi, .inr (2, [.ref qb, .int ic'])), (qb, .inl (cI, 24, .inl ib')), (qa, .inl (cI, 16, .inl xa')), (qg, .inl (cI, 4, .inl xg'))] r := by
  intro sz
  refine Met.ofW (cc := b_A_store) (maxL := 6) (ret := some .int) (by decide) rfl ?_
  intro p e s m args below meth c s₁ B hml hv
  obtain ⟨rfl, hsz, hP, hK, hD0⟩ := hv
  have hx := B.exec
  have hb := B.bytes
  have hr := B.returns
  have hts := atoms_spec (ws := w_A_store) B.pre
  have hown : s.vm.findClass R_A = some m.cls := findClass_of_methodNamed B.named
  have hlocks := B.notSynchronized
  subst hsz
  have hD := hD0.self (sz := s.heap.size)
  generalize hAe : va_A [(ha, .inr (0, [.ref hm, .ref hi, .ref qa, .ref qg, .int xl, .int xo, .int xs, .int xv, .int xp])), (hm, .inr (1, [.ref qc, .int mw, .int mf, .int mz])), (qc, .inl (cI, 149, .inl mc)), (hi, .inr (2, [.ref qb, .int ic])), (qb, .inl (cI, 24, .inl ib)), (qa, .inl (cI, 16, .inl xa)), (qg, .inl (cI, 4, .inl xg))] s.heap.size = A at hD ⊢
  have hA : ∀ q : Nat, s.heap.size ≤ q → A q := fun q h => by rw [← hAe]; exact Or.inr h
  have hS : va_S A s.heap s.heap [] := va_S.rf
  have hP : va_P (dC, dI) vwCl [(ha, .inr (0, [.ref hm, .ref hi, .ref qa, .ref qg, .int xl, .int xo, .int xs, .int xv, .int xp])), (hm, .inr (1, [.ref qc, .int mw, .int mf, .int mz])), (qc, .inl (cI, 149, .inl mc)), (hi, .inr (2, [.ref qb, .int ic])), (qb, .inl (cI, 24, .inl ib)), (qa, .inl (cI, 16, .inl xa)), (qg, .inl (cI, 4, .inl xg))] s.heap := hP
  have hl := lv_entry ([.ref ha, .int a1, .ref qb, .int a3, .int a4]) (n := 6) (Nat.le_of_ble_eq_true rfl)
  rw [lg_entry_eq]
  generalize (lg_sl ([.ref ha, .int a1, .ref qb, .int a3, .int a4]) ++ List.replicate (6 - (lg_sl ([.ref ha, .int a1, .ref qb, .int a3, .int a4])).length) Slot.unset).toArray = ls at hl ⊢
  have hl : lv_has ls 6 [(0, .ref ha), (1, .int a1), (2, .ref qb), (3, .int a3), (4, .int a4)] := hl
  have inA : ∀ w ∈ u_ws R_A F_A 9, w ∈ w_A_store := fun w h => List.mem_cons_of_mem _ (in_A w h)
  have kf10 := hts _ (List.mem_cons_of_mem _ wq91)
  have kf110 := hts _ (List.mem_cons_of_mem _ wq99)
  rw [fA_store_qb] at hf
  refine lv_aload_n hx hb d_A_store_0 rfl (lv_at hl 0 rfl) ?_
  refine va_get (D := (dC, dI)) (ci := 0) (v := .ref hm) (C := R_A) (T := F_A) (N := 9) hx hb hts inA hown hK hP 0 rfl rfl 0 (by decide) kf10 (fun _ h9 => h9) rfl d_A_store_1 ?_
  obtain ⟨r1, hg, hf⟩ := bd1_some hf
  refine xci (wr := [(ha, .inr (0, [.ref hm, .ref hi, .ref qa, .ref qg, .int xl, .int xo, .int xs, .int xv, .int xp])), (hi, .inr (2, [.ref qb, .int ic])), (qb, .inl (cI, 24, .inl ib)), (qa, .inl (cI, 16, .inl xa)), (qg, .inl (cI, 4, .inl xg))]) (ctM_count l dC dI cI hm qc mc mw mf mz r1 hg) ⟨hx, hb, hml, hown, hts⟩ (cwV (C := R_M) 0 hts (gV wq257 wq211 wq212 wq44 wq213) rfl rfl rfl (by decide +kernel) ⟨Nat.le_of_ble_eq_true rfl, Nat.le_of_ble_eq_true rfl⟩) hK hP hD hS hA [1, 2] [0, 3, 4, 5, 6] rfl rfl rfl rfl (by decide) (ci := 1) (q0 := 1) rfl rfl rfl rfl hl.1 rfl (Nat.le_of_ble_eq_true rfl) d_A_store_4 ⟨Nat.zero_le _, Nat.zero_le _⟩ (fun H locs hP hD hS => ?_)
  have hP : va_P (dC, dI) vwCl [(ha, .inr (0, [.ref hm, .ref hi, .ref qa, .ref qg, .int xl, .int xo, .int xs, .int xv, .int xp])), (hi, .inr (2, [.ref qb, .int ic])), (qb, .inl (cI, 24, .inl ib)), (qa, .inl (cI, 16, .inl xa)), (qg, .inl (cI, 4, .inl xg)), (hm, .inr (1, [.ref qc, .int mw, .int mf, .int mz])), (qc, .inl (cI, 149, .inl mc))] H := hP
  have hD : va_D A [(ha, .inr (0, [.ref hm, .ref hi, .ref qa, .ref qg, .int xl, .int xo, .int xs, .int xv, .int xp])), (hi, .inr (2, [.ref qb, .int ic])), (qb, .inl (cI, 24, .inl ib)), (qa, .inl (cI, 16, .inl xa)), (qg, .inl (cI, 4, .inl xg)), (hm, .inr (1, [.ref qc, .int mw, .int mf, .int mz])), (qc, .inl (cI, 149, .inl mc))] := hD
  refine lv_iload hx hb d_A_store_7 (lv_at hl 4 rfl) ?_
  refine lv_iadd hx hb d_A_store_9 ?_
  refine lv_bipush (v := 20) hx hb d_A_store_10 (by decide) ?_
  refine lv_icmp_le (tgt := 19) hx hb d_A_store_12 rfl (fun hc2 => ?_) (fun hc2 => ?_)
  · have hf := ift hf hc2
    refine lv_iconst (v := 0) hx hb d_A_store_19 (by decide) ?_
    refine lv_istore hx hb d_A_store_20 hl (by decide) rfl (fun ls hl => ?_)
    have hl : lv_has ls 6 [(5, .int 0), (0, .ref ha), (1, .int a1), (2, .ref qb), (3, .int a3), (4, .int a4)] := hl
    have hP := hP.sub (ws' := [(ha, .inr (0, [.ref hm, .ref hi, .ref qa, .ref qg, .int xl, .int xo, .int xs, .int xv, .int xp])), (hm, .inr (1, [.ref qc, .int mw, .int mf, .int mz])), (qc, .inl (cI, 149, .inl mc)), (hi, .inr (2, [.ref qb, .int ic])), (qb, .inl (cI, 24, .inl ib)), (qa, .inl (cI, 16, .inl xa)), (qg, .inl (cI, 4, .inl xg))]) [0, 5, 6, 1, 2, 3, 4] rfl
    have hD := hD.sub (ws' := [(ha, .inr (0, [.ref hm, .ref hi, .ref qa, .ref qg, .int xl, .int xo, .int xs, .int xv, .int xp])), (hm, .inr (1, [.ref qc, .int mw, .int mf, .int mz])), (qc, .inl (cI, 149, .inl mc)), (hi, .inr (2, [.ref qb, .int ic])), (qb, .inl (cI, 24, .inl ib)), (qa, .inl (cI, 16, .inl xa)), (qg, .inl (cI, 4, .inl xg))]) [0, 5, 6, 1, 2, 3, 4] (by decide) rfl
    have hl := lv_sub (l' := [(0, .ref ha), (1, .int a1), (2, .ref qb), (3, .int a3), (4, .int a4), (5, .int 0)]) hl [1, 2, 3, 4, 5, 0] rfl
    refine xloop (σ := (Nat → Int32) × (Int32) × (Int32) × (Int32) × (Nat → Int32) × (Int32) × (Nat → Int32) × (Nat → Int32) × (Int32) × (Int32) × (Int32) × (Int32) × (Int32) × (Int32) × (Int32) × (Int32) × (Int32)) (pc := 22) (fun n x H locs ls => va_P (dC, dI) vwCl [(ha, .inr (0, [.ref hm, .ref hi, .ref qa, .ref qg, .int (x.2.2.2.2.2.2.2.2.1), .int (x.2.2.2.2.2.2.2.2.2.1), .int (x.2.2.2.2.2.2.2.2.2.2.1), .int (x.2.2.2.2.2.2.2.2.2.2.2.1), .int (x.2.2.2.2.2.2.2.2.2.2.2.2.1)])), (hm, .inr (1, [.ref qc, .int (x.2.1), .int (x.2.2.1), .int (x.2.2.2.1)])), (qc, .inl (cI, 149, .inl (x.1))), (hi, .inr (2, [.ref qb, .int (x.2.2.2.2.2.1)])), (qb, .inl (cI, 24, .inl (x.2.2.2.2.1))), (qa, .inl (cI, 16, .inl (x.2.2.2.2.2.2.1))), (qg, .inl (cI, 4, .inl (x.2.2.2.2.2.2.2.1)))] H ∧ va_D A [(ha, .inr (0, [.ref hm, .ref hi, .ref qa, .ref qg, .int (x.2.2.2.2.2.2.2.2.1), .int (x.2.2.2.2.2.2.2.2.2.1), .int (x.2.2.2.2.2.2.2.2.2.2.1), .int (x.2.2.2.2.2.2.2.2.2.2.2.1), .int (x.2.2.2.2.2.2.2.2.2.2.2.2.1)])), (hm, .inr (1, [.ref qc, .int (x.2.1), .int (x.2.2.1), .int (x.2.2.2.1)])), (qc, .inl (cI, 149, .inl (x.1))), (hi, .inr (2, [.ref qb, .int (x.2.2.2.2.2.1)])), (qb, .inl (cI, 24, .inl (x.2.2.2.2.1))), (qa, .inl (cI, 16, .inl (x.2.2.2.2.2.2.1))), (qg, .inl (cI, 4, .inl (x.2.2.2.2.2.2.2.1)))] ∧ va_S A s.heap H locs ∧ lv_has ls 6 [(0, .ref ha), (1, .int (x.2.2.2.2.2.2.2.2.2.2.2.2.2.1)), (2, .ref qb), (3, .int (x.2.2.2.2.2.2.2.2.2.2.2.2.2.2.1)), (4, .int (x.2.2.2.2.2.2.2.2.2.2.2.2.2.2.2.1)), (5, .int (x.2.2.2.2.2.2.2.2.2.2.2.2.2.2.2.2))] ∧ fA_store_qb_L22 n (x.1, x.2.1, x.2.2.1, x.2.2.2.1, x.2.2.2.2.1, x.2.2.2.2.2.1, x.2.2.2.2.2.2.1, x.2.2.2.2.2.2.2.1, x.2.2.2.2.2.2.2.2.1, x.2.2.2.2.2.2.2.2.2.1, x.2.2.2.2.2.2.2.2.2.2.1, x.2.2.2.2.2.2.2.2.2.2.2.1, x.2.2.2.2.2.2.2.2.2.2.2.2.1) x.2.2.2.2.2.2.2.2.2.2.2.2.2.1 x.2.2.2.2.2.2.2.2.2.2.2.2.2.2.1 x.2.2.2.2.2.2.2.2.2.2.2.2.2.2.2.1 x.2.2.2.2.2.2.2.2.2.2.2.2.2.2.2.2 = some (r, mc', mw', mf', mz', ib', ic', xa', xg', xl', xo', xs', xv', xp')) ?_ (fun x H locs ls h => by have h9 := h.2.2.2.2; rw [fA_store_qb_L22] at h9; cases h9) 300 (mc, mw, mf, mz, ib, ic, xa, xg, xl, xo, xs, xv, xp, a1, a3, a4, 0) _ _ ls ⟨hP, hD, hS, hl, hf⟩
    intro n ih x H locs ls hI
    obtain ⟨mc, mw, mf, mz, ib, ic, xa, xg, xl, xo, xs, xv, xp, v1, v3, v4, v5⟩ := x
    obtain ⟨hP, hD, hS, hl, hf⟩ := hI
    have hP : va_P (dC, dI) vwCl [(ha, .inr (0, [.ref hm, .ref hi, .ref qa, .ref qg, .int xl, .int xo, .int xs, .int xv, .int xp])), (hm, .inr (1, [.ref qc, .int mw, .int mf, .int mz])), (qc, .inl (cI, 149, .inl mc)), (hi, .inr (2, [.ref qb, .int ic])), (qb, .inl (cI, 24, .inl ib)), (qa, .inl (cI, 16, .inl xa)), (qg, .inl (cI, 4, .inl xg))] H := hP
    have hD : va_D A [(ha, .inr (0, [.ref hm, .ref hi, .ref qa, .ref qg, .int xl, .int xo, .int xs, .int xv, .int xp])), (hm, .inr (1, [.ref qc, .int mw, .int mf, .int mz])), (qc, .inl (cI, 149, .inl mc)), (hi, .inr (2, [.ref qb, .int ic])), (qb, .inl (cI, 24, .inl ib)), (qa, .inl (cI, 16, .inl xa)), (qg, .inl (cI, 4, .inl xg))] := hD
    have hl : lv_has ls 6 [(0, .ref ha), (1, .int v1), (2, .ref qb), (3, .int v3), (4, .int v4), (5, .int v5)] := hl
    rw [fA_store_qb_L22] at hf
    refine lv_iload hx hb d_A_store_22 (lv_at hl 5 rfl) ?_
    refine lv_iload hx hb d_A_store_24 (lv_at hl 4 rfl) ?_
    refine lv_icmp_ge (tgt := 57) hx hb d_A_store_26 rfl (fun hc3 => ?_) (fun hc3 => ?_)
    · have hf := ift hf hc3
      refine lv_aload_n hx hb d_A_store_57 rfl (lv_at hl 0 rfl) ?_
      refine va_get (D := (dC, dI)) (ci := 0) (v := .int xp) (C := R_A) (T := F_A) (N := 9) hx hb hts inA hown hK hP 0 rfl rfl 8 (by decide) kf110 (fun _ h9 => h9) rfl d_A_store_58 ?_
      refine lv_if_ne (tgt := 74) hx hb d_A_store_61 rfl (fun hc4 => ?_) (fun hc4 => ?_)
      · have hf := ifn hf hc4
        refine lv_iconst (v := 1) hx hb d_A_store_74 (by decide) ?_
        refine lv_goto (tgt := 79) hx hb d_A_store_75 rfl ?_
        obtain ⟨r5, hg, hf⟩ := bd1_some hf
        refine xsi (ctA_doneIf l dC dI cI 1 r5 hg) ⟨hx, hb, hml, hown, hts⟩ (va_cwS 1 hts (gS wq263 wq264 wq43 wq265) rfl rfl rfl (by decide +kernel) ⟨Nat.le_of_ble_eq_true rfl, Nat.le_of_ble_eq_true rfl⟩) hK hP hD hS hA rfl hl.1 rfl (Nat.le_of_ble_eq_true rfl) d_A_store_79 ⟨Nat.zero_le _, Nat.zero_le _⟩ (fun H locs hP hD hS => ?_)
        obtain ⟨e1_, e2_, e3_, e4_, e5_, e6_, e7_, e8_, e9_, e10_, e11_, e12_, e13_, e14_⟩ := lf14 hf
        subst e1_; subst e2_; subst e3_; subst e4_; subst e5_; subst e6_; subst e7_; subst e8_; subst e9_; subst e10_; subst e11_; subst e12_; subst e13_; subst e14_
        have hP9 := hP.sub (ws' := [(ha, .inr (0, [.ref hm, .ref hi, .ref qa, .ref qg, .int xl, .int xo, .int xs, .int xv, .int xp])), (hm, .inr (1, [.ref qc, .int mw, .int mf, .int mz])), (qc, .inl (cI, 149, .inl mc)), (hi, .inr (2, [.ref qb, .int ic])), (qb, .inl (cI, 24, .inl ib)), (qa, .inl (cI, 16, .inl xa)), (qg, .inl (cI, 4, .inl xg))]) [0, 1, 2, 3, 4, 5, 6] rfl
        have hD9 := hD.sub (ws' := [(ha, .inr (0, [.ref hm, .ref hi, .ref qa, .ref qg, .int xl, .int xo, .int xs, .int xv, .int xp])), (hm, .inr (1, [.ref qc, .int mw, .int mf, .int mz])), (qc, .inl (cI, 149, .inl mc)), (hi, .inr (2, [.ref qb, .int ic])), (qb, .inl (cI, 24, .inl ib)), (qa, .inl (cI, 16, .inl xa)), (qg, .inl (cI, 4, .inl xg))]) [0, 1, 2, 3, 4, 5, 6] (by decide) rfl
        exact W.iret (v := r5) hx hb hr (fun t ht hW => ⟨⟨r5, (), rfl, rfl, by rw [ht]; exact hP9, va_K.moved hW.alike hK, hD9⟩, hS.F ht⟩) hS.2.2 d_A_store_82
      have hf := ift hf hc4
      refine lv_aload_n hx hb d_A_store_64 rfl (lv_at hl 0 rfl) ?_
      refine va_get (D := (dC, dI)) (ci := 0) (v := .ref hm) (C := R_A) (T := F_A) (N := 9) hx hb hts inA hown hK hP 0 rfl rfl 0 (by decide) kf10 (fun _ h9 => h9) rfl d_A_store_65 ?_
      obtain ⟨r6, mc6, mw6, mf6, mz6, hg, hf⟩ := bd5_some hf
      refine xcz (wr := [(ha, .inr (0, [.ref hm, .ref hi, .ref qa, .ref qg, .int xl, .int xo, .int xs, .int xv, .int xp])), (hi, .inr (2, [.ref qb, .int ic])), (qb, .inl (cI, 24, .inl ib)), (qa, .inl (cI, 16, .inl xa)), (qg, .inl (cI, 4, .inl xg))]) (ctM_settle l dC dI cI hm qc mc mw mf mz r6 mc6 mw6 mf6 mz6 hg) ⟨hx, hb, hml, hown, hts⟩ (cwV (C := R_M) 0 hts (gV wq262 wq219 wq220 wq44 wq221) rfl rfl rfl (by decide +kernel) ⟨Nat.le_of_ble_eq_true rfl, Nat.le_of_ble_eq_true rfl⟩) hK hP hD hS hA [1, 2] [0, 3, 4, 5, 6] rfl rfl rfl rfl (by decide) (ci := 1) (q0 := 1) rfl rfl rfl rfl hl.1 rfl (Nat.le_of_ble_eq_true rfl) d_A_store_68 ⟨Nat.zero_le _, Nat.zero_le _⟩ (fun H locs hn6 hP hD hS => ?_)
      have hP : va_P (dC, dI) vwCl [(ha, .inr (0, [.ref hm, .ref hi, .ref qa, .ref qg, .int xl, .int xo, .int xs, .int xv, .int xp])), (hi, .inr (2, [.ref qb, .int ic])), (qb, .inl (cI, 24, .inl ib)), (qa, .inl (cI, 16, .inl xa)), (qg, .inl (cI, 4, .inl xg)), (hm, .inr (1, [.ref qc, .int mw6, .int mf6, .int mz6])), (qc, .inl (cI, 149, .inl mc6))] H := hP
      have hD : va_D A [(ha, .inr (0, [.ref hm, .ref hi, .ref qa, .ref qg, .int xl, .int xo, .int xs, .int xv, .int xp])), (hi, .inr (2, [.ref qb, .int ic])), (qb, .inl (cI, 24, .inl ib)), (qa, .inl (cI, 16, .inl xa)), (qg, .inl (cI, 4, .inl xg)), (hm, .inr (1, [.ref qc, .int mw6, .int mf6, .int mz6])), (qc, .inl (cI, 149, .inl mc6))] := hD
      refine lv_if_eq (tgt := 78) hx hb d_A_store_71 rfl (fun hc7 => ?_) (fun hc7 => ?_)
      · have hf := ift hf hc7
        refine lv_iconst (v := 0) hx hb d_A_store_78 (by decide) ?_
        obtain ⟨r8, hg, hf⟩ := bd1_some hf
        refine xsi (ctA_doneIf l dC dI cI 0 r8 hg) ⟨hx, hb, hml, hown, hts⟩ (va_cwS 1 hts (gS wq263 wq264 wq43 wq265) rfl rfl rfl (by decide +kernel) ⟨Nat.le_of_ble_eq_true rfl, Nat.le_of_ble_eq_true rfl⟩) hK hP hD hS hA rfl hl.1 rfl (Nat.le_of_ble_eq_true rfl) d_A_store_79 ⟨Nat.zero_le _, Nat.zero_le _⟩ (fun H locs hP hD hS => ?_)
        obtain ⟨e1_, e2_, e3_, e4_, e5_, e6_, e7_, e8_, e9_, e10_, e11_, e12_, e13_, e14_⟩ := lf14 hf
        subst e1_; subst e2_; subst e3_; subst e4_; subst e5_; subst e6_; subst e7_; subst e8_; subst e9_; subst e10_; subst e11_; subst e12_; subst e13_; subst e14_
        have hP9 := hP.sub (ws' := [(ha, .inr (0, [.ref hm, .ref hi, .ref qa, .ref qg, .int xl, .int xo, .int xs, .int xv, .int xp])), (hm, .inr (1, [.ref qc, .int mw6, .int mf6, .int mz6])), (qc, .inl (cI, 149, .inl mc6)), (hi, .inr (2, [.ref qb, .int ic])), (qb, .inl (cI, 24, .inl ib)), (qa, .inl (cI, 16, .inl xa)), (qg, .inl (cI, 4, .inl xg))]) [0, 5, 6, 1, 2, 3, 4] rfl
        have hD9 := hD.sub (ws' := [(ha, .inr (0, [.ref hm, .ref hi, .ref qa, .ref qg, .int xl, .int xo, .int xs, .int xv, .int xp])), (hm, .inr (1, [.ref qc, .int mw6, .int mf6, .int mz6])), (qc, .inl (cI, 149, .inl mc6)), (hi, .inr (2, [.ref qb, .int ic])), (qb, .inl (cI, 24, .inl ib)), (qa, .inl (cI, 16, .inl xa)), (qg, .inl (cI, 4, .inl xg))]) [0, 5, 6, 1, 2, 3, 4] (by decide) rfl
        exact W.iret (v := r8) hx hb hr (fun t ht hW => ⟨⟨r8, (), rfl, rfl, by rw [ht]; exact hP9, va_K.moved hW.alike hK, hD9⟩, hS.F ht⟩) hS.2.2 d_A_store_82
      have hf := ifn hf hc7
      refine lv_iconst (v := 1) hx hb d_A_store_74 (by decide) ?_
      refine lv_goto (tgt := 79) hx hb d_A_store_75 rfl ?_
      obtain ⟨r9, hg, hf⟩ := bd1_some hf
      refine xsi (ctA_doneIf l dC dI cI 1 r9 hg) ⟨hx, hb, hml, hown, hts⟩ (va_cwS 1 hts (gS wq263 wq264 wq43 wq265) rfl rfl rfl (by decide +kernel) ⟨Nat.le_of_ble_eq_true rfl, Nat.le_of_ble_eq_true rfl⟩) hK hP hD hS hA rfl hl.1 rfl (Nat.le_of_ble_eq_true rfl) d_A_store_79 ⟨Nat.zero_le _, Nat.zero_le _⟩ (fun H locs hP hD hS => ?_)
      obtain ⟨e1_, e2_, e3_, e4_, e5_, e6_, e7_, e8_, e9_, e10_, e11_, e12_, e13_, e14_⟩ := lf14 hf
      subst e1_; subst e2_; subst e3_; subst e4_; subst e5_; subst e6_; subst e7_; subst e8_; subst e9_; subst e10_; subst e11_; subst e12_; subst e13_; subst e14_
      have hP9 := hP.sub (ws' := [(ha, .inr (0, [.ref hm, .ref hi, .ref qa, .ref qg, .int xl, .int xo, .int xs, .int xv, .int xp])), (hm, .inr (1, [.ref qc, .int mw6, .int mf6, .int mz6])), (qc, .inl (cI, 149, .inl mc6)), (hi, .inr (2, [.ref qb, .int ic])), (qb, .inl (cI, 24, .inl ib)), (qa, .inl (cI, 16, .inl xa)), (qg, .inl (cI, 4, .inl xg))]) [0, 5, 6, 1, 2, 3, 4] rfl
      have hD9 := hD.sub (ws' := [(ha, .inr (0, [.ref hm, .ref hi, .ref qa, .ref qg, .int xl, .int xo, .int xs, .int xv, .int xp])), (hm, .inr (1, [.ref qc, .int mw6, .int mf6, .int mz6])), (qc, .inl (cI, 149, .inl mc6)), (hi, .inr (2, [.ref qb, .int ic])), (qb, .inl (cI, 24, .inl ib)), (qa, .inl (cI, 16, .inl xa)), (qg, .inl (cI, 4, .inl xg))]) [0, 5, 6, 1, 2, 3, 4] (by decide) rfl
      exact W.iret (v := r9) hx hb hr (fun t ht hW => ⟨⟨r9, (), rfl, rfl, by rw [ht]; exact hP9, va_K.moved hW.alike hK, hD9⟩, hS.F ht⟩) hS.2.2 d_A_store_82
    have hf := ifn hf hc3
    refine lv_aload_n hx hb d_A_store_29 rfl (lv_at hl 0 rfl) ?_
    refine va_get (D := (dC, dI)) (ci := 0) (v := .ref hm) (C := R_A) (T := F_A) (N := 9) hx hb hts inA hown hK hP 0 rfl rfl 0 (by decide) kf10 (fun _ h9 => h9) rfl d_A_store_30 ?_
    refine lv_iload_n hx hb d_A_store_33 rfl (lv_at hl 1 rfl) ?_
    refine lv_iload hx hb d_A_store_34 (lv_at hl 5 rfl) ?_
    refine lv_iadd hx hb d_A_store_36 ?_
    refine lv_aload_n hx hb d_A_store_37 rfl (lv_at hl 2 rfl) ?_
    refine lv_iload_n hx hb d_A_store_38 rfl (lv_at hl 3 rfl) ?_
    refine lv_iload hx hb d_A_store_39 (lv_at hl 5 rfl) ?_
    refine lv_iadd hx hb d_A_store_41 ?_
    obtain ⟨hin_, hf⟩ := ix_some hf
    refine va_iald hx hb hK hP 4 0 rfl rfl hin_ d_A_store_42 ?_
    obtain ⟨r11, mc11, mw11, mf11, mz11, hg, hf⟩ := bd5_some hf
    refine xcz (wr := [(ha, .inr (0, [.ref hm, .ref hi, .ref qa, .ref qg, .int xl, .int xo, .int xs, .int xv, .int xp])), (hi, .inr (2, [.ref qb, .int ic])), (qb, .inl (cI, 24, .inl ib)), (qa, .inl (cI, 16, .inl xa)), (qg, .inl (cI, 4, .inl xg))]) (ctM_change l dC dI cI hm qc mc mw mf mz (v1 + v5) (ib (v3 + v5 : Int32).toNatClampNeg) r11 mc11 mw11 mf11 mz11 hg) ⟨hx, hb, hml, hown, hts⟩ (cwV (C := R_M) 2 hts (gV wq258 wq259 wq260 wq44 wq261) rfl rfl rfl (by decide +kernel) ⟨Nat.le_of_ble_eq_true rfl, Nat.le_of_ble_eq_true rfl⟩) hK hP hD hS hA [1, 2] [0, 3, 4, 5, 6] rfl rfl rfl rfl (by decide) (ci := 1) (q0 := 1) rfl rfl rfl rfl hl.1 rfl (Nat.le_of_ble_eq_true rfl) d_A_store_43 ⟨Nat.zero_le _, Nat.zero_le _⟩ (fun H locs hn11 hP hD hS => ?_)
    have hP : va_P (dC, dI) vwCl [(ha, .inr (0, [.ref hm, .ref hi, .ref qa, .ref qg, .int xl, .int xo, .int xs, .int xv, .int xp])), (hi, .inr (2, [.ref qb, .int ic])), (qb, .inl (cI, 24, .inl ib)), (qa, .inl (cI, 16, .inl xa)), (qg, .inl (cI, 4, .inl xg)), (hm, .inr (1, [.ref qc, .int mw11, .int mf11, .int mz11])), (qc, .inl (cI, 149, .inl mc11))] H := hP
    have hD : va_D A [(ha, .inr (0, [.ref hm, .ref hi, .ref qa, .ref qg, .int xl, .int xo, .int xs, .int xv, .int xp])), (hi, .inr (2, [.ref qb, .int ic])), (qb, .inl (cI, 24, .inl ib)), (qa, .inl (cI, 16, .inl xa)), (qg, .inl (cI, 4, .inl xg)), (hm, .inr (1, [.ref qc, .int mw11, .int mf11, .int mz11])), (qc, .inl (cI, 149, .inl mc11))] := hD
    refine lv_if_ne (tgt := 51) hx hb d_A_store_46 rfl (fun hc12 => ?_) (fun hc12 => ?_)
    · have hf := ifn hf hc12
      refine lv_iinc (v := v5 + 1) hx hb d_A_store_51 hl (k := 5) rfl rfl (by decide) rfl (fun ls hl => ?_)
      have hl : lv_has ls 6 [(5, .int (v5 + 1)), (0, .ref ha), (1, .int v1), (2, .ref qb), (3, .int v3), (4, .int v4)] := hl
      refine lv_goto (tgt := 22) hx hb d_A_store_54 rfl ?_
      have hP := hP.sub (ws' := [(ha, .inr (0, [.ref hm, .ref hi, .ref qa, .ref qg, .int xl, .int xo, .int xs, .int xv, .int xp])), (hm, .inr (1, [.ref qc, .int mw11, .int mf11, .int mz11])), (qc, .inl (cI, 149, .inl mc11)), (hi, .inr (2, [.ref qb, .int ic])), (qb, .inl (cI, 24, .inl ib)), (qa, .inl (cI, 16, .inl xa)), (qg, .inl (cI, 4, .inl xg))]) [0, 5, 6, 1, 2, 3, 4] rfl
      have hD := hD.sub (ws' := [(ha, .inr (0, [.ref hm, .ref hi, .ref qa, .ref qg, .int xl, .int xo, .int xs, .int xv, .int xp])), (hm, .inr (1, [.ref qc, .int mw11, .int mf11, .int mz11])), (qc, .inl (cI, 149, .inl mc11)), (hi, .inr (2, [.ref qb, .int ic])), (qb, .inl (cI, 24, .inl ib)), (qa, .inl (cI, 16, .inl xa)), (qg, .inl (cI, 4, .inl xg))]) [0, 5, 6, 1, 2, 3, 4] (by decide) rfl
      have hl := lv_sub (l' := [(0, .ref ha), (1, .int v1), (2, .ref qb), (3, .int v3), (4, .int v4), (5, .int (v5 + 1))]) hl [1, 2, 3, 4, 5, 0] rfl
      exact ih (mc11, mw11, mf11, mz11, ib, ic, xa, xg, xl, xo, xs, xv, xp, v1, v3, v4, v5 + 1) _ _ ls ⟨hP, hD, hS, hl, hf⟩
    have hf := ift hf hc12
    refine lv_iconst (v := (-1)) hx hb d_A_store_49 (by decide) ?_
    obtain ⟨e1_, e2_, e3_, e4_, e5_, e6_, e7_, e8_, e9_, e10_, e11_, e12_, e13_, e14_⟩ := lf14 hf
    subst e1_; subst e2_; subst e3_; subst e4_; subst e5_; subst e6_; subst e7_; subst e8_; subst e9_; subst e10_; subst e11_; subst e12_; subst e13_; subst e14_
    have hP9 := hP.sub (ws' := [(ha, .inr (0, [.ref hm, .ref hi, .ref qa, .ref qg, .int xl, .int xo, .int xs, .int xv, .int xp])), (hm, .inr (1, [.ref qc, .int mw11, .int mf11, .int mz11])), (qc, .inl (cI, 149, .inl mc11)), (hi, .inr (2, [.ref qb, .int ic])), (qb, .inl (cI, 24, .inl ib)), (qa, .inl (cI, 16, .inl xa)), (qg, .inl (cI, 4, .inl xg))]) [0, 5, 6, 1, 2, 3, 4] rfl
    have hD9 := hD.sub (ws' := [(ha, .inr (0, [.ref hm, .ref hi, .ref qa, .ref qg, .int xl, .int xo, .int xs, .int xv, .int xp])), (hm, .inr (1, [.ref qc, .int mw11, .int mf11, .int mz11])), (qc, .inl (cI, 149, .inl mc11)), (hi, .inr (2, [.ref qb, .int ic])), (qb, .inl (cI, 24, .inl ib)), (qa, .inl (cI, 16, .inl xa)), (qg, .inl (cI, 4, .inl xg))]) [0, 5, 6, 1, 2, 3, 4] (by decide) rfl
    exact W.iret (v := (-1)) hx hb hr (fun t ht hW => ⟨⟨(-1), (), rfl, rfl, by rw [ht]; exact hP9, va_K.moved hW.alike hK, hD9⟩, hS.F ht⟩) hS.2.2 d_A_store_50
  have hf := ifn hf hc2
  refine lv_sipush (v := 27268) hx hb d_A_store_15 (by decide) ?_
  obtain ⟨e1_, e2_, e3_, e4_, e5_, e6_, e7_, e8_, e9_, e10_, e11_, e12_, e13_, e14_⟩ := lf14 hf
  subst e1_; subst e2_; subst e3_; subst e4_; subst e5_; subst e6_; subst e7_; subst e8_; subst e9_; subst e10_; subst e11_; subst e12_; subst e13_; subst e14_
  have hP9 := hP.sub (ws' := [(ha, .inr (0, [.ref hm, .ref hi, .ref qa, .ref qg, .int xl, .int xo, .int xs, .int xv, .int xp])), (hm, .inr (1, [.ref qc, .int mw, .int mf, .int mz])), (qc, .inl (cI, 149, .inl mc)), (hi, .inr (2, [.ref qb, .int ic])), (qb, .inl (cI, 24, .inl ib)), (qa, .inl (cI, 16, .inl xa)), (qg, .inl (cI, 4, .inl xg))]) [0, 5, 6, 1, 2, 3, 4] rfl
  have hD9 := hD.sub (ws' := [(ha, .inr (0, [.ref hm, .ref hi, .ref qa, .ref qg, .int xl, .int xo, .int xs, .int xv, .int xp])), (hm, .inr (1, [.ref qc, .int mw, .int mf, .int mz])), (qc, .inl (cI, 149, .inl mc)), (hi, .inr (2, [.ref qb, .int ic])), (qb, .inl (cI, 24, .inl ib)), (qa, .inl (cI, 16, .inl xa)), (qg, .inl (cI, 4, .inl xg))]) [0, 5, 6, 1, 2, 3, 4] (by decide) rfl
  exact W.iret (v := 27268) hx hb hr (fun t ht hW => ⟨⟨27268, (), rfl, rfl, by rw [ht]; exact hP9, va_K.moved hW.alike hK, hD9⟩, hS.F ht⟩) hS.2.2 d_A_store_18
def fA_store_qg_L22 : Nat → StX → Int32 → Int32 → Int32 → Int32 → Option (Int32 × StX)
  | 0, _, _, _, _, _ => none
  | n + 1, (mc, mw, mf, mz, ib, ic, xa, xg, xl, xo, xs, xv, xp), v1, v3, v4, v5 => if v4 ≤ v5 then (if xp = 0 then (bd5 (fM_settle (mc, mw, mf, mz)) fun r6 mc6 mw6 mf6 mz6 => if r6 = 0 then (bd1 (fA_doneIf 0) fun r8 => some (r8, mc6, mw6, mf6, mz6, ib, ic, xa, xg, xl, xo, xs, xv, xp)) else (bd1 (fA_doneIf 1) fun r9 => some (r9, mc6, mw6, mf6, mz6, ib, ic, xa, xg, xl, xo, xs, xv, xp))) else (bd1 (fA_doneIf 1) fun r5 => some (r5, mc, mw, mf, mz, ib, ic, xa, xg, xl, xo, xs, xv, xp))) else (ix (v3 + v5) 4 fun j10 => bd5 (fM_change (mc, mw, mf, mz) (v1 + v5) (xg j10)) fun r11 mc11 mw11 mf11 mz11 => if r11 = 0 then (some ((-1), mc11, mw11, mf11, mz11, ib, ic, xa, xg, xl, xo, xs, xv, xp)) else (fA_store_qg_L22 n (mc11, mw11, mf11, mz11, ib, ic, xa, xg, xl, xo, xs, xv, xp) v1 v3 v4 (v5 + 1)))
def fA_store_qg (σ : StX) (a1 : Int32) (a3 : Int32) (a4 : Int32) : Option (Int32 × StX) := match σ with | (mc, mw, mf, mz, ib, ic, xa, xg, xl, xo, xs, xv, xp) => bd1 (fM_count (mc, mw, mf, mz)) fun r1 => if (r1 + a4) ≤ 20 then (fA_store_qg_L22 300 (mc, mw, mf, mz, ib, ic, xa, xg, xl, xo, xs, xv, xp) a1 a3 a4 0) else (some (27268, mc, mw, mf, mz, ib, ic, xa, xg, xl, xo, xs, xv, xp))
set_option maxHeartbeats 4000000 in
set_option maxRecDepth 100000 in
theorem ctA_store_qg (l : Launch) (dC : Nat → ClassId) (dI : Nat → Nat → Nat) (cI : ClassId) (ha hm qc hi qb qa qg : Nat) (mc : Nat → Int32) (mw : Int32) (mf : Int32) (mz : Int32) (ib : Nat → Int32) (ic : Int32) (xa : Nat → Int32) (xg : Nat → Int32) (xl : Int32) (xo : Int32) (xs : Int32) (xv : Int32) (xp : Int32) (a1 : Int32) (a3 : Int32) (a4 : Int32) (r : Int32) (mc' : Nat → Int32) (mw' : Int32) (mf' : Int32) (mz' : Int32) (ib' : Nat → Int32) (ic' : Int32) (xa' : Nat → Int32) (xg' : Nat → Int32) (xl' : Int32) (xo' : Int32) (xs' : Int32) (xv' : Int32) (xp' : Int32) (hf : fA_store_qg (mc, mw, mf, mz, ib, ic, xa, xg, xl, xo, xs, xv, xp) a1 a3 a4 = some (r, mc', mw', mf', mz', ib', ic', xa', xg', xl', xo', xs', xv', xp')) : CtI l y_A_store w_A_store ({ frames := 2, cells := 0, slots := 0, locals := 45 }) (dC, dI) [(cI, .int)] [.ref ha, .int a1, .ref qg, .int a3, .int a4] [(ha, .inr (0, [.ref hm, .ref hi, .ref qa, .ref qg, .int xl, .int xo, .int xs, .int xv, .int xp])), (hm, .inr (1, [.ref qc, .int mw, .int mf, .int mz])), (qc, .inl (cI, 149, .inl mc)), (hi, .inr (2, [.ref qb, .int ic])), (qb, .inl (cI, 24, .inl ib)), (qa, .inl (cI, 16, .inl xa)), (qg, .inl (cI, 4, .inl xg))] [(ha, .inr (0, [.ref hm, .ref hi, .ref qa, .ref qg, .int xl', .int xo', .int xs', .int xv', .int xp'])), (hm, .inr (1, [.ref qc, .int mw', .int mf', .int mz'])), (qc, .inl (cI, 149, .inl mc')), (hi, .inr (2, [.ref qb, .int ic'])), (qb, .inl (cI, 24, .inl ib')), (qa, .inl (cI, 16, .inl xa')), (qg, .inl (cI, 4, .inl xg'))] r := by
  intro sz
  refine Met.ofW (cc := b_A_store) (maxL := 6) (ret := some .int) (by decide) rfl ?_
  intro p e s m args below meth c s₁ B hml hv
  obtain ⟨rfl, hsz, hP, hK, hD0⟩ := hv
  have hx := B.exec
  have hb := B.bytes
  have hr := B.returns
  have hts := atoms_spec (ws := w_A_store) B.pre
  have hown : s.vm.findClass R_A = some m.cls := findClass_of_methodNamed B.named
  have hlocks := B.notSynchronized
  subst hsz
  have hD := hD0.self (sz := s.heap.size)
  generalize hAe : va_A [(ha, .inr (0, [.ref hm, .ref hi, .ref qa, .ref qg, .int xl, .int xo, .int xs, .int xv, .int xp])), (hm, .inr (1, [.ref qc, .int mw, .int mf, .int mz])), (qc, .inl (cI, 149, .inl mc)), (hi, .inr (2, [.ref qb, .int ic])), (qb, .inl (cI, 24, .inl ib)), (qa, .inl (cI, 16, .inl xa)), (qg, .inl (cI, 4, .inl xg))] s.heap.size = A at hD ⊢
  have hA : ∀ q : Nat, s.heap.size ≤ q → A q := fun q h => by rw [← hAe]; exact Or.inr h
  have hS : va_S A s.heap s.heap [] := va_S.rf
  have hP : va_P (dC, dI) vwCl [(ha, .inr (0, [.ref hm, .ref hi, .ref qa, .ref qg, .int xl, .int xo, .int xs, .int xv, .int xp])), (hm, .inr (1, [.ref qc, .int mw, .int mf, .int mz])), (qc, .inl (cI, 149, .inl mc)), (hi, .inr (2, [.ref qb, .int ic])), (qb, .inl (cI, 24, .inl ib)), (qa, .inl (cI, 16, .inl xa)), (qg, .inl (cI, 4, .inl xg))] s.heap := hP
  have hl := lv_entry ([.ref ha, .int a1, .ref qg, .int a3, .int a4]) (n := 6) (Nat.le_of_ble_eq_true rfl)
  rw [lg_entry_eq]
  generalize (lg_sl ([.ref ha, .int a1, .ref qg, .int a3, .int a4]) ++ List.replicate (6 - (lg_sl ([.ref ha, .int a1, .ref qg, .int a3, .int a4])).length) Slot.unset).toArray = ls at hl ⊢
  have hl : lv_has ls 6 [(0, .ref ha), (1, .int a1), (2, .ref qg), (3, .int a3), (4, .int a4)] := hl
  have inA : ∀ w ∈ u_ws R_A F_A 9, w ∈ w_A_store := fun w h => List.mem_cons_of_mem _ (in_A w h)
  have kf10 := hts _ (List.mem_cons_of_mem _ wq91)
  have kf110 := hts _ (List.mem_cons_of_mem _ wq99)
  rw [fA_store_qg] at hf
  refine lv_aload_n hx hb d_A_store_0 rfl (lv_at hl 0 rfl) ?_
  refine va_get (D := (dC, dI)) (ci := 0) (v := .ref hm) (C := R_A) (T := F_A) (N := 9) hx hb hts inA hown hK hP 0 rfl rfl 0 (by decide) kf10 (fun _ h9 => h9) rfl d_A_store_1 ?_
  obtain ⟨r1, hg, hf⟩ := bd1_some hf
  refine xci (wr := [(ha, .inr (0, [.ref hm, .ref hi, .ref qa, .ref qg, .int xl, .int xo, .int xs, .int xv, .int xp])), (hi, .inr (2, [.ref qb, .int ic])), (qb, .inl (cI, 24, .inl ib)), (qa, .inl (cI, 16, .inl xa)), (qg, .inl (cI, 4, .inl xg))]) (ctM_count l dC dI cI hm qc mc mw mf mz r1 hg) ⟨hx, hb, hml, hown, hts⟩ (cwV (C := R_M) 0 hts (gV wq257 wq211 wq212 wq44 wq213) rfl rfl rfl (by decide +kernel) ⟨Nat.le_of_ble_eq_true rfl, Nat.le_of_ble_eq_true rfl⟩) hK hP hD hS hA [1, 2] [0, 3, 4, 5, 6] rfl rfl rfl rfl (by decide) (ci := 1) (q0 := 1) rfl rfl rfl rfl hl.1 rfl (Nat.le_of_ble_eq_true rfl) d_A_store_4 ⟨Nat.zero_le _, Nat.zero_le _⟩ (fun H locs hP hD hS => ?_)
  have hP : va_P (dC, dI) vwCl [(ha, .inr (0, [.ref hm, .ref hi, .ref qa, .ref qg, .int xl, .int xo, .int xs, .int xv, .int xp])), (hi, .inr (2, [.ref qb, .int ic])), (qb, .inl (cI, 24, .inl ib)), (qa, .inl (cI, 16, .inl xa)), (qg, .inl (cI, 4, .inl xg)), (hm, .inr (1, [.ref qc, .int mw, .int mf, .int mz])), (qc, .inl (cI, 149, .inl mc))] H := hP
  have hD : va_D A [(ha, .inr (0, [.ref hm, .ref hi, .ref qa, .ref qg, .int xl, .int xo, .int xs, .int xv, .int xp])), (hi, .inr (2, [.ref qb, .int ic])), (qb, .inl (cI, 24, .inl ib)), (qa, .inl (cI, 16, .inl xa)), (qg, .inl (cI, 4, .inl xg)), (hm, .inr (1, [.ref qc, .int mw, .int mf, .int mz])), (qc, .inl (cI, 149, .inl mc))] := hD
  refine lv_iload hx hb d_A_store_7 (lv_at hl 4 rfl) ?_
  refine lv_iadd hx hb d_A_store_9 ?_
  refine lv_bipush (v := 20) hx hb d_A_store_10 (by decide) ?_
  refine lv_icmp_le (tgt := 19) hx hb d_A_store_12 rfl (fun hc2 => ?_) (fun hc2 => ?_)
  · have hf := ift hf hc2
    refine lv_iconst (v := 0) hx hb d_A_store_19 (by decide) ?_
    refine lv_istore hx hb d_A_store_20 hl (by decide) rfl (fun ls hl => ?_)
    have hl : lv_has ls 6 [(5, .int 0), (0, .ref ha), (1, .int a1), (2, .ref qg), (3, .int a3), (4, .int a4)] := hl
    have hP := hP.sub (ws' := [(ha, .inr (0, [.ref hm, .ref hi, .ref qa, .ref qg, .int xl, .int xo, .int xs, .int xv, .int xp])), (hm, .inr (1, [.ref qc, .int mw, .int mf, .int mz])), (qc, .inl (cI, 149, .inl mc)), (hi, .inr (2, [.ref qb, .int ic])), (qb, .inl (cI, 24, .inl ib)), (qa, .inl (cI, 16, .inl xa)), (qg, .inl (cI, 4, .inl xg))]) [0, 5, 6, 1, 2, 3, 4] rfl
    have hD := hD.sub (ws' := [(ha, .inr (0, [.ref hm, .ref hi, .ref qa, .ref qg, .int xl, .int xo, .int xs, .int xv, .int xp])), (hm, .inr (1, [.ref qc, .int mw, .int mf, .int mz])), (qc, .inl (cI, 149, .inl mc)), (hi, .inr (2, [.ref qb, .int ic])), (qb, .inl (cI, 24, .inl ib)), (qa, .inl (cI, 16, .inl xa)), (qg, .inl (cI, 4, .inl xg))]) [0, 5, 6, 1, 2, 3, 4] (by decide) rfl
    have hl := lv_sub (l' := [(0, .ref ha), (1, .int a1), (2, .ref qg), (3, .int a3), (4, .int a4), (5, .int 0)]) hl [1, 2, 3, 4, 5, 0] rfl
    refine xloop (σ := (Nat → Int32) × (Int32) × (Int32) × (Int32) × (Nat → Int32) × (Int32) × (Nat → Int32) × (Nat → Int32) × (Int32) × (Int32) × (Int32) × (Int32) × (Int32) × (Int32) × (Int32) × (Int32) × (Int32)) (pc := 22) (fun n x H locs ls => va_P (dC, dI) vwCl [(ha, .inr (0, [.ref hm, .ref hi, .ref qa, .ref qg, .int (x.2.2.2.2.2.2.2.2.1), .int (x.2.2.2.2.2.2.2.2.2.1), .int (x.2.2.2.2.2.2.2.2.2.2.1), .int (x.2.2.2.2.2.2.2.2.2.2.2.1), .int (x.2.2.2.2.2.2.2.2.2.2.2.2.1)])), (hm, .inr (1, [.ref qc, .int (x.2.1), .int (x.2.2.1), .int (x.2.2.2.1)])), (qc, .inl (cI, 149, .inl (x.1))), (hi, .inr (2, [.ref qb, .int (x.2.2.2.2.2.1)])), (qb, .inl (cI, 24, .inl (x.2.2.2.2.1))), (qa, .inl (cI, 16, .inl (x.2.2.2.2.2.2.1))), (qg, .inl (cI, 4, .inl (x.2.2.2.2.2.2.2.1)))] H ∧ va_D A [(ha, .inr (0, [.ref hm, .ref hi, .ref qa, .ref qg, .int (x.2.2.2.2.2.2.2.2.1), .int (x.2.2.2.2.2.2.2.2.2.1), .int (x.2.2.2.2.2.2.2.2.2.2.1), .int (x.2.2.2.2.2.2.2.2.2.2.2.1), .int (x.2.2.2.2.2.2.2.2.2.2.2.2.1)])), (hm, .inr (1, [.ref qc, .int (x.2.1), .int (x.2.2.1), .int (x.2.2.2.1)])), (qc, .inl (cI, 149, .inl (x.1))), (hi, .inr (2, [.ref qb, .int (x.2.2.2.2.2.1)])), (qb, .inl (cI, 24, .inl (x.2.2.2.2.1))), (qa, .inl (cI, 16, .inl (x.2.2.2.2.2.2.1))), (qg, .inl (cI, 4, .inl (x.2.2.2.2.2.2.2.1)))] ∧ va_S A s.heap H locs ∧ lv_has ls 6 [(0, .ref ha), (1, .int (x.2.2.2.2.2.2.2.2.2.2.2.2.2.1)), (2, .ref qg), (3, .int (x.2.2.2.2.2.2.2.2.2.2.2.2.2.2.1)), (4, .int (x.2.2.2.2.2.2.2.2.2.2.2.2.2.2.2.1)), (5, .int (x.2.2.2.2.2.2.2.2.2.2.2.2.2.2.2.2))] ∧ fA_store_qg_L22 n (x.1, x.2.1, x.2.2.1, x.2.2.2.1, x.2.2.2.2.1, x.2.2.2.2.2.1, x.2.2.2.2.2.2.1, x.2.2.2.2.2.2.2.1, x.2.2.2.2.2.2.2.2.1, x.2.2.2.2.2.2.2.2.2.1, x.2.2.2.2.2.2.2.2.2.2.1, x.2.2.2.2.2.2.2.2.2.2.2.1, x.2.2.2.2.2.2.2.2.2.2.2.2.1) x.2.2.2.2.2.2.2.2.2.2.2.2.2.1 x.2.2.2.2.2.2.2.2.2.2.2.2.2.2.1 x.2.2.2.2.2.2.2.2.2.2.2.2.2.2.2.1 x.2.2.2.2.2.2.2.2.2.2.2.2.2.2.2.2 = some (r, mc', mw', mf', mz', ib', ic', xa', xg', xl', xo', xs', xv', xp')) ?_ (fun x H locs ls h => by have h9 := h.2.2.2.2; rw [fA_store_qg_L22] at h9; cases h9) 300 (mc, mw, mf, mz, ib, ic, xa, xg, xl, xo, xs, xv, xp, a1, a3, a4, 0) _ _ ls ⟨hP, hD, hS, hl, hf⟩
    intro n ih x H locs ls hI
    obtain ⟨mc, mw, mf, mz, ib, ic, xa, xg, xl, xo, xs, xv, xp, v1, v3, v4, v5⟩ := x
    obtain ⟨hP, hD, hS, hl, hf⟩ := hI
    have hP : va_P (dC, dI) vwCl [(ha, .inr (0, [.ref hm, .ref hi, .ref qa, .ref qg, .int xl, .int xo, .int xs, .int xv, .int xp])), (hm, .inr (1, [.ref qc, .int mw, .int mf, .int mz])), (qc, .inl (cI, 149, .inl mc)), (hi, .inr (2, [.ref qb, .int ic])), (qb, .inl (cI, 24, .inl ib)), (qa, .inl (cI, 16, .inl xa)), (qg, .inl (cI, 4, .inl xg))] H := hP
    have hD : va_D A [(ha, .inr (0, [.ref hm, .ref hi, .ref qa, .ref qg, .int xl, .int xo, .int xs, .int xv, .int xp])), (hm, .inr (1, [.ref qc, .int mw, .int mf, .int mz])), (qc, .inl (cI, 149, .inl mc)), (hi, .inr (2, [.ref qb, .int ic])), (qb, .inl (cI, 24, .inl ib)), (qa, .inl (cI, 16, .inl xa)), (qg, .inl (cI, 4, .inl xg))] := hD
    have hl : lv_has ls 6 [(0, .ref ha), (1, .int v1), (2, .ref qg), (3, .int v3), (4, .int v4), (5, .int v5)] := hl
    rw [fA_store_qg_L22] at hf
    refine lv_iload hx hb d_A_store_22 (lv_at hl 5 rfl) ?_
    refine lv_iload hx hb d_A_store_24 (lv_at hl 4 rfl) ?_
    refine lv_icmp_ge (tgt := 57) hx hb d_A_store_26 rfl (fun hc3 => ?_) (fun hc3 => ?_)
    · have hf := ift hf hc3
      refine lv_aload_n hx hb d_A_store_57 rfl (lv_at hl 0 rfl) ?_
      refine va_get (D := (dC, dI)) (ci := 0) (v := .int xp) (C := R_A) (T := F_A) (N := 9) hx hb hts inA hown hK hP 0 rfl rfl 8 (by decide) kf110 (fun _ h9 => h9) rfl d_A_store_58 ?_
      refine lv_if_ne (tgt := 74) hx hb d_A_store_61 rfl (fun hc4 => ?_) (fun hc4 => ?_)
      · have hf := ifn hf hc4
        refine lv_iconst (v := 1) hx hb d_A_store_74 (by decide) ?_
        refine lv_goto (tgt := 79) hx hb d_A_store_75 rfl ?_
        obtain ⟨r5, hg, hf⟩ := bd1_some hf
        refine xsi (ctA_doneIf l dC dI cI 1 r5 hg) ⟨hx, hb, hml, hown, hts⟩ (va_cwS 1 hts (gS wq263 wq264 wq43 wq265) rfl rfl rfl (by decide +kernel) ⟨Nat.le_of_ble_eq_true rfl, Nat.le_of_ble_eq_true rfl⟩) hK hP hD hS hA rfl hl.1 rfl (Nat.le_of_ble_eq_true rfl) d_A_store_79 ⟨Nat.zero_le _, Nat.zero_le _⟩ (fun H locs hP hD hS => ?_)
        obtain ⟨e1_, e2_, e3_, e4_, e5_, e6_, e7_, e8_, e9_, e10_, e11_, e12_, e13_, e14_⟩ := lf14 hf
        subst e1_; subst e2_; subst e3_; subst e4_; subst e5_; subst e6_; subst e7_; subst e8_; subst e9_; subst e10_; subst e11_; subst e12_; subst e13_; subst e14_
        have hP9 := hP.sub (ws' := [(ha, .inr (0, [.ref hm, .ref hi, .ref qa, .ref qg, .int xl, .int xo, .int xs, .int xv, .int xp])), (hm, .inr (1, [.ref qc, .int mw, .int mf, .int mz])), (qc, .inl (cI, 149, .inl mc)), (hi, .inr (2, [.ref qb, .int ic])), (qb, .inl (cI, 24, .inl ib)), (qa, .inl (cI, 16, .inl xa)), (qg, .inl (cI, 4, .inl xg))]) [0, 1, 2, 3, 4, 5, 6] rfl
        have hD9 := hD.sub (ws' := [(ha, .inr (0, [.ref hm, .ref hi, .ref qa, .ref qg, .int xl, .int xo, .int xs, .int xv, .int xp])), (hm, .inr (1, [.ref qc, .int mw, .int mf, .int mz])), (qc, .inl (cI, 149, .inl mc)), (hi, .inr (2, [.ref qb, .int ic])), (qb, .inl (cI, 24, .inl ib)), (qa, .inl (cI, 16, .inl xa)), (qg, .inl (cI, 4, .inl xg))]) [0, 1, 2, 3, 4, 5, 6] (by decide) rfl
        exact W.iret (v := r5) hx hb hr (fun t ht hW => ⟨⟨r5, (), rfl, rfl, by rw [ht]; exact hP9, va_K.moved hW.alike hK, hD9⟩, hS.F ht⟩) hS.2.2 d_A_store_82
      have hf := ift hf hc4
      refine lv_aload_n hx hb d_A_store_64 rfl (lv_at hl 0 rfl) ?_
      refine va_get (D := (dC, dI)) (ci := 0) (v := .ref hm) (C := R_A) (T := F_A) (N := 9) hx hb hts inA hown hK hP 0 rfl rfl 0 (by decide) kf10 (fun _ h9 => h9) rfl d_A_store_65 ?_
      obtain ⟨r6, mc6, mw6, mf6, mz6, hg, hf⟩ := bd5_some hf
      refine xcz (wr := [(ha, .inr (0, [.ref hm, .ref hi, .ref qa, .ref qg, .int xl, .int xo, .int xs, .int xv, .int xp])), (hi, .inr (2, [.ref qb, .int ic])), (qb, .inl (cI, 24, .inl ib)), (qa, .inl (cI, 16, .inl xa)), (qg, .inl (cI, 4, .inl xg))]) (ctM_settle l dC dI cI hm qc mc mw mf mz r6 mc6 mw6 mf6 mz6 hg) ⟨hx, hb, hml, hown, hts⟩ (cwV (C := R_M) 0 hts (gV wq262 wq219 wq220 wq44 wq221) rfl rfl rfl (by decide +kernel) ⟨Nat.le_of_ble_eq_true rfl, Nat.le_of_ble_eq_true rfl⟩) hK hP hD hS hA [1, 2] [0, 3, 4, 5, 6] rfl rfl rfl rfl (by decide) (ci := 1) (q0 := 1) rfl rfl rfl rfl hl.1 rfl (Nat.le_of_ble_eq_true rfl) d_A_store_68 ⟨Nat.zero_le _, Nat.zero_le _⟩ (fun H locs hn6 hP hD hS => ?_)
      have hP : va_P (dC, dI) vwCl [(ha, .inr (0, [.ref hm, .ref hi, .ref qa, .ref qg, .int xl, .int xo, .int xs, .int xv, .int xp])), (hi, .inr (2, [.ref qb, .int ic])), (qb, .inl (cI, 24, .inl ib)), (qa, .inl (cI, 16, .inl xa)), (qg, .inl (cI, 4, .inl xg)), (hm, .inr (1, [.ref qc, .int mw6, .int mf6, .int mz6])), (qc, .inl (cI, 149, .inl mc6))] H := hP
      have hD : va_D A [(ha, .inr (0, [.ref hm, .ref hi, .ref qa, .ref qg, .int xl, .int xo, .int xs, .int xv, .int xp])), (hi, .inr (2, [.ref qb, .int ic])), (qb, .inl (cI, 24, .inl ib)), (qa, .inl (cI, 16, .inl xa)), (qg, .inl (cI, 4, .inl xg)), (hm, .inr (1, [.ref qc, .int mw6, .int mf6, .int mz6])), (qc, .inl (cI, 149, .inl mc6))] := hD
      refine lv_if_eq (tgt := 78) hx hb d_A_store_71 rfl (fun hc7 => ?_) (fun hc7 => ?_)
      · have hf := ift hf hc7
        refine lv_iconst (v := 0) hx hb d_A_store_78 (by decide) ?_
        obtain ⟨r8, hg, hf⟩ := bd1_some hf
        refine xsi (ctA_doneIf l dC dI cI 0 r8 hg) ⟨hx, hb, hml, hown, hts⟩ (va_cwS 1 hts (gS wq263 wq264 wq43 wq265) rfl rfl rfl (by decide +kernel) ⟨Nat.le_of_ble_eq_true rfl, Nat.le_of_ble_eq_true rfl⟩) hK hP hD hS hA rfl hl.1 rfl (Nat.le_of_ble_eq_true rfl) d_A_store_79 ⟨Nat.zero_le _, Nat.zero_le _⟩ (fun H locs hP hD hS => ?_)
        obtain ⟨e1_, e2_, e3_, e4_, e5_, e6_, e7_, e8_, e9_, e10_, e11_, e12_, e13_, e14_⟩ := lf14 hf
        subst e1_; subst e2_; subst e3_; subst e4_; subst e5_; subst e6_; subst e7_; subst e8_; subst e9_; subst e10_; subst e11_; subst e12_; subst e13_; subst e14_
        have hP9 := hP.sub (ws' := [(ha, .inr (0, [.ref hm, .ref hi, .ref qa, .ref qg, .int xl, .int xo, .int xs, .int xv, .int xp])), (hm, .inr (1, [.ref qc, .int mw6, .int mf6, .int mz6])), (qc, .inl (cI, 149, .inl mc6)), (hi, .inr (2, [.ref qb, .int ic])), (qb, .inl (cI, 24, .inl ib)), (qa, .inl (cI, 16, .inl xa)), (qg, .inl (cI, 4, .inl xg))]) [0, 5, 6, 1, 2, 3, 4] rfl
        have hD9 := hD.sub (ws' := [(ha, .inr (0, [.ref hm, .ref hi, .ref qa, .ref qg, .int xl, .int xo, .int xs, .int xv, .int xp])), (hm, .inr (1, [.ref qc, .int mw6, .int mf6, .int mz6])), (qc, .inl (cI, 149, .inl mc6)), (hi, .inr (2, [.ref qb, .int ic])), (qb, .inl (cI, 24, .inl ib)), (qa, .inl (cI, 16, .inl xa)), (qg, .inl (cI, 4, .inl xg))]) [0, 5, 6, 1, 2, 3, 4] (by decide) rfl
        exact W.iret (v := r8) hx hb hr (fun t ht hW => ⟨⟨r8, (), rfl, rfl, by rw [ht]; exact hP9, va_K.moved hW.alike hK, hD9⟩, hS.F ht⟩) hS.2.2 d_A_store_82
      have hf := ifn hf hc7
      refine lv_iconst (v := 1) hx hb d_A_store_74 (by decide) ?_
      refine lv_goto (tgt := 79) hx hb d_A_store_75 rfl ?_
      obtain ⟨r9, hg, hf⟩ := bd1_some hf
      refine xsi (ctA_doneIf l dC dI cI 1 r9 hg) ⟨hx, hb, hml, hown, hts⟩ (va_cwS 1 hts (gS wq263 wq264 wq43 wq265) rfl rfl rfl (by decide +kernel) ⟨Nat.le_of_ble_eq_true rfl, Nat.le_of_ble_eq_true rfl⟩) hK hP hD hS hA rfl hl.1 rfl (Nat.le_of_ble_eq_true rfl) d_A_store_79 ⟨Nat.zero_le _, Nat.zero_le _⟩ (fun H locs hP hD hS => ?_)
      obtain ⟨e1_, e2_, e3_, e4_, e5_, e6_, e7_, e8_, e9_, e10_, e11_, e12_, e13_, e14_⟩ := lf14 hf
      subst e1_; subst e2_; subst e3_; subst e4_; subst e5_; subst e6_; subst e7_; subst e8_; subst e9_; subst e10_; subst e11_; subst e12_; subst e13_; subst e14_
      have hP9 := hP.sub (ws' := [(ha, .inr (0, [.ref hm, .ref hi, .ref qa, .ref qg, .int xl, .int xo, .int xs, .int xv, .int xp])), (hm, .inr (1, [.ref qc, .int mw6, .int mf6, .int mz6])), (qc, .inl (cI, 149, .inl mc6)), (hi, .inr (2, [.ref qb, .int ic])), (qb, .inl (cI, 24, .inl ib)), (qa, .inl (cI, 16, .inl xa)), (qg, .inl (cI, 4, .inl xg))]) [0, 5, 6, 1, 2, 3, 4] rfl
      have hD9 := hD.sub (ws' := [(ha, .inr (0, [.ref hm, .ref hi, .ref qa, .ref qg, .int xl, .int xo, .int xs, .int xv, .int xp])), (hm, .inr (1, [.ref qc, .int mw6, .int mf6, .int mz6])), (qc, .inl (cI, 149, .inl mc6)), (hi, .inr (2, [.ref qb, .int ic])), (qb, .inl (cI, 24, .inl ib)), (qa, .inl (cI, 16, .inl xa)), (qg, .inl (cI, 4, .inl xg))]) [0, 5, 6, 1, 2, 3, 4] (by decide) rfl
      exact W.iret (v := r9) hx hb hr (fun t ht hW => ⟨⟨r9, (), rfl, rfl, by rw [ht]; exact hP9, va_K.moved hW.alike hK, hD9⟩, hS.F ht⟩) hS.2.2 d_A_store_82
    have hf := ifn hf hc3
    refine lv_aload_n hx hb d_A_store_29 rfl (lv_at hl 0 rfl) ?_
    refine va_get (D := (dC, dI)) (ci := 0) (v := .ref hm) (C := R_A) (T := F_A) (N := 9) hx hb hts inA hown hK hP 0 rfl rfl 0 (by decide) kf10 (fun _ h9 => h9) rfl d_A_store_30 ?_
    refine lv_iload_n hx hb d_A_store_33 rfl (lv_at hl 1 rfl) ?_
    refine lv_iload hx hb d_A_store_34 (lv_at hl 5 rfl) ?_
    refine lv_iadd hx hb d_A_store_36 ?_
    refine lv_aload_n hx hb d_A_store_37 rfl (lv_at hl 2 rfl) ?_
    refine lv_iload_n hx hb d_A_store_38 rfl (lv_at hl 3 rfl) ?_
    refine lv_iload hx hb d_A_store_39 (lv_at hl 5 rfl) ?_
    refine lv_iadd hx hb d_A_store_41 ?_
    obtain ⟨hin_, hf⟩ := ix_some hf
    refine va_iald hx hb hK hP 6 0 rfl rfl hin_ d_A_store_42 ?_
    obtain ⟨r11, mc11, mw11, mf11, mz11, hg, hf⟩ := bd5_some hf
    refine xcz (wr := [(ha, .inr (0, [.ref hm, .ref hi, .ref qa, .ref qg, .int xl, .int xo, .int xs, .int xv, .int xp])), (hi, .inr (2, [.ref qb, .int ic])), (qb, .inl (cI, 24, .inl ib)), (qa, .inl (cI, 16, .inl xa)), (qg, .inl (cI, 4, .inl xg))]) (ctM_change l dC dI cI hm qc mc mw mf mz (v1 + v5) (xg (v3 + v5 : Int32).toNatClampNeg) r11 mc11 mw11 mf11 mz11 hg) ⟨hx, hb, hml, hown, hts⟩ (cwV (C := R_M) 2 hts (gV wq258 wq259 wq260 wq44 wq261) rfl rfl rfl (by decide +kernel) ⟨Nat.le_of_ble_eq_true rfl, Nat.le_of_ble_eq_true rfl⟩) hK hP hD hS hA [1, 2] [0, 3, 4, 5, 6] rfl rfl rfl rfl (by decide) (ci := 1) (q0 := 1) rfl rfl rfl rfl hl.1 rfl (Nat.le_of_ble_eq_true rfl) d_A_store_43 ⟨Nat.zero_le _, Nat.zero_le _⟩ (fun H locs hn11 hP hD hS => ?_)
    have hP : va_P (dC, dI) vwCl [(ha, .inr (0, [.ref hm, .ref hi, .ref qa, .ref qg, .int xl, .int xo, .int xs, .int xv, .int xp])), (hi, .inr (2, [.ref qb, .int ic])), (qb, .inl (cI, 24, .inl ib)), (qa, .inl (cI, 16, .inl xa)), (qg, .inl (cI, 4, .inl xg)), (hm, .inr (1, [.ref qc, .int mw11, .int mf11, .int mz11])), (qc, .inl (cI, 149, .inl mc11))] H := hP
    have hD : va_D A [(ha, .inr (0, [.ref hm, .ref hi, .ref qa, .ref qg, .int xl, .int xo, .int xs, .int xv, .int xp])), (hi, .inr (2, [.ref qb, .int ic])), (qb, .inl (cI, 24, .inl ib)), (qa, .inl (cI, 16, .inl xa)), (qg, .inl (cI, 4, .inl xg)), (hm, .inr (1, [.ref qc, .int mw11, .int mf11, .int mz11])), (qc, .inl (cI, 149, .inl mc11))] := hD
    refine lv_if_ne (tgt := 51) hx hb d_A_store_46 rfl (fun hc12 => ?_) (fun hc12 => ?_)
    · have hf := ifn hf hc12
      refine lv_iinc (v := v5 + 1) hx hb d_A_store_51 hl (k := 5) rfl rfl (by decide) rfl (fun ls hl => ?_)
      have hl : lv_has ls 6 [(5, .int (v5 + 1)), (0, .ref ha), (1, .int v1), (2, .ref qg), (3, .int v3), (4, .int v4)] := hl
      refine lv_goto (tgt := 22) hx hb d_A_store_54 rfl ?_
      have hP := hP.sub (ws' := [(ha, .inr (0, [.ref hm, .ref hi, .ref qa, .ref qg, .int xl, .int xo, .int xs, .int xv, .int xp])), (hm, .inr (1, [.ref qc, .int mw11, .int mf11, .int mz11])), (qc, .inl (cI, 149, .inl mc11)), (hi, .inr (2, [.ref qb, .int ic])), (qb, .inl (cI, 24, .inl ib)), (qa, .inl (cI, 16, .inl xa)), (qg, .inl (cI, 4, .inl xg))]) [0, 5, 6, 1, 2, 3, 4] rfl
      have hD := hD.sub (ws' := [(ha, .inr (0, [.ref hm, .ref hi, .ref qa, .ref qg, .int xl, .int xo, .int xs, .int xv, .int xp])), (hm, .inr (1, [.ref qc, .int mw11, .int mf11, .int mz11])), (qc, .inl (cI, 149, .inl mc11)), (hi, .inr (2, [.ref qb, .int ic])), (qb, .inl (cI, 24, .inl ib)), (qa, .inl (cI, 16, .inl xa)), (qg, .inl (cI, 4, .inl xg))]) [0, 5, 6, 1, 2, 3, 4] (by decide) rfl
      have hl := lv_sub (l' := [(0, .ref ha), (1, .int v1), (2, .ref qg), (3, .int v3), (4, .int v4), (5, .int (v5 + 1))]) hl [1, 2, 3, 4, 5, 0] rfl
      exact ih (mc11, mw11, mf11, mz11, ib, ic, xa, xg, xl, xo, xs, xv, xp, v1, v3, v4, v5 + 1) _ _ ls ⟨hP, hD, hS, hl, hf⟩
    have hf := ift hf hc12
    refine lv_iconst (v := (-1)) hx hb d_A_store_49 (by decide) ?_
    obtain ⟨e1_, e2_, e3_, e4_, e5_, e6_, e7_, e8_, e9_, e10_, e11_, e12_, e13_, e14_⟩ := lf14 hf
    subst e1_; subst e2_; subst e3_; subst e4_; subst e5_; subst e6_; subst e7_; subst e8_; subst e9_; subst e10_; subst e11_; subst e12_; subst e13_; subst e14_
    have hP9 := hP.sub (ws' := [(ha, .inr (0, [.ref hm, .ref hi, .ref qa, .ref qg, .int xl, .int xo, .int xs, .int xv, .int xp])), (hm, .inr (1, [.ref qc, .int mw11, .int mf11, .int mz11])), (qc, .inl (cI, 149, .inl mc11)), (hi, .inr (2, [.ref qb, .int ic])), (qb, .inl (cI, 24, .inl ib)), (qa, .inl (cI, 16, .inl xa)), (qg, .inl (cI, 4, .inl xg))]) [0, 5, 6, 1, 2, 3, 4] rfl
    have hD9 := hD.sub (ws' := [(ha, .inr (0, [.ref hm, .ref hi, .ref qa, .ref qg, .int xl, .int xo, .int xs, .int xv, .int xp])), (hm, .inr (1, [.ref qc, .int mw11, .int mf11, .int mz11])), (qc, .inl (cI, 149, .inl mc11)), (hi, .inr (2, [.ref qb, .int ic])), (qb, .inl (cI, 24, .inl ib)), (qa, .inl (cI, 16, .inl xa)), (qg, .inl (cI, 4, .inl xg))]) [0, 5, 6, 1, 2, 3, 4] (by decide) rfl
    exact W.iret (v := (-1)) hx hb hr (fun t ht hW => ⟨⟨(-1), (), rfl, rfl, by rw [ht]; exact hP9, va_K.moved hW.alike hK, hD9⟩, hS.F ht⟩) hS.2.2 d_A_store_50
  have hf := ifn hf hc2
  refine lv_sipush (v := 27268) hx hb d_A_store_15 (by decide) ?_
  obtain ⟨e1_, e2_, e3_, e4_, e5_, e6_, e7_, e8_, e9_, e10_, e11_, e12_, e13_, e14_⟩ := lf14 hf
  subst e1_; subst e2_; subst e3_; subst e4_; subst e5_; subst e6_; subst e7_; subst e8_; subst e9_; subst e10_; subst e11_; subst e12_; subst e13_; subst e14_
  have hP9 := hP.sub (ws' := [(ha, .inr (0, [.ref hm, .ref hi, .ref qa, .ref qg, .int xl, .int xo, .int xs, .int xv, .int xp])), (hm, .inr (1, [.ref qc, .int mw, .int mf, .int mz])), (qc, .inl (cI, 149, .inl mc)), (hi, .inr (2, [.ref qb, .int ic])), (qb, .inl (cI, 24, .inl ib)), (qa, .inl (cI, 16, .inl xa)), (qg, .inl (cI, 4, .inl xg))]) [0, 5, 6, 1, 2, 3, 4] rfl
  have hD9 := hD.sub (ws' := [(ha, .inr (0, [.ref hm, .ref hi, .ref qa, .ref qg, .int xl, .int xo, .int xs, .int xv, .int xp])), (hm, .inr (1, [.ref qc, .int mw, .int mf, .int mz])), (qc, .inl (cI, 149, .inl mc)), (hi, .inr (2, [.ref qb, .int ic])), (qb, .inl (cI, 24, .inl ib)), (qa, .inl (cI, 16, .inl xa)), (qg, .inl (cI, 4, .inl xg))]) [0, 5, 6, 1, 2, 3, 4] (by decide) rfl
  exact W.iret (v := 27268) hx hb hr (fun t ht hW => ⟨⟨27268, (), rfl, rfl, by rw [ht]; exact hP9, va_K.moved hW.alike hK, hD9⟩, hS.F ht⟩) hS.2.2 d_A_store_18
theorem d_A_storePayload_0 : decode b_A_storePayload 0 = .ok (.aload_n 0, 1) := by decide +kernel
theorem d_A_storePayload_1 : decode b_A_storePayload 1 = .ok (.iload_n 1, 1) := by decide +kernel
theorem d_A_storePayload_2 : decode b_A_storePayload 2 = .ok (.aload_n 0, 1) := by decide +kernel
theorem d_A_storePayload_3 : decode b_A_storePayload 3 = .ok (.getfield 19, 3) := by decide +kernel
theorem d_A_storePayload_6 : decode b_A_storePayload 6 = .ok (.invokevirtual 230, 3) := by decide +kernel
theorem d_A_storePayload_9 : decode b_A_storePayload 9 = .ok (.iconst 5, 1) := by decide +kernel
theorem d_A_storePayload_10 : decode b_A_storePayload 10 = .ok (.aload_n 0, 1) := by decide +kernel
theorem d_A_storePayload_11 : decode b_A_storePayload 11 = .ok (.getfield 19, 3) := by decide +kernel
theorem d_A_storePayload_14 : decode b_A_storePayload 14 = .ok (.invokevirtual 123, 3) := by decide +kernel
theorem d_A_storePayload_17 : decode b_A_storePayload 17 = .ok (.invokevirtual 220, 3) := by decide +kernel
theorem d_A_storePayload_20 : decode b_A_storePayload 20 = .ok (.ireturn, 1) := by decide +kernel
def fA_storePayload (σ : StX) (a1 : Int32) : Option (Int32 × StX) := match σ with | (mc, mw, mf, mz, ib, ic, xa, xg, xl, xo, xs, xv, xp) => bd1 (fI_lc (ib, ic)) fun r2 => bd14 (fA_store_qb (mc, mw, mf, mz, ib, ic, xa, xg, xl, xo, xs, xv, xp) a1 5 r2) fun r3 mc3 mw3 mf3 mz3 ib3 ic3 xa3 xg3 xl3 xo3 xs3 xv3 xp3 => some (r3, mc3, mw3, mf3, mz3, ib3, ic3, xa3, xg3, xl3, xo3, xs3, xv3, xp3)
set_option maxHeartbeats 4000000 in
set_option maxRecDepth 100000 in
theorem ctA_storePayload (l : Launch) (dC : Nat → ClassId) (dI : Nat → Nat → Nat) (cI : ClassId) (ha hm qc hi qb qa qg : Nat) (mc : Nat → Int32) (mw : Int32) (mf : Int32) (mz : Int32) (ib : Nat → Int32) (ic : Int32) (xa : Nat → Int32) (xg : Nat → Int32) (xl : Int32) (xo : Int32) (xs : Int32) (xv : Int32) (xp : Int32) (a1 : Int32) (r : Int32) (mc' : Nat → Int32) (mw' : Int32) (mf' : Int32) (mz' : Int32) (ib' : Nat → Int32) (ic' : Int32) (xa' : Nat → Int32) (xg' : Nat → Int32) (xl' : Int32) (xo' : Int32) (xs' : Int32) (xv' : Int32) (xp' : Int32) (hf : fA_storePayload (mc, mw, mf, mz, ib, ic, xa, xg, xl, xo, xs, xv, xp) a1 = some (r, mc', mw', mf', mz', ib', ic', xa', xg', xl', xo', xs', xv', xp')) : CtI l y_A_storePayload w_A_storePayload ({ frames := 3, cells := 0, slots := 0, locals := 70 }) (dC, dI) [(cI, .int)] [.ref ha, .int a1] [(ha, .inr (0, [.ref hm, .ref hi, .ref qa, .ref qg, .int xl, .int xo, .int xs, .int xv, .int xp])), (hm, .inr (1, [.ref qc, .int mw, .int mf, .int mz])), (qc, .inl (cI, 149, .inl mc)), (hi, .inr (2, [.ref qb, .int ic])), (qb, .inl (cI, 24, .inl ib)), (qa, .inl (cI, 16, .inl xa)), (qg, .inl (cI, 4, .inl xg))] [(ha, .inr (0, [.ref hm, .ref hi, .ref qa, .ref qg, .int xl', .int xo', .int xs', .int xv', .int xp'])), (hm, .inr (1, [.ref qc, .int mw', .int mf', .int mz'])), (qc, .inl (cI, 149, .inl mc')), (hi, .inr (2, [.ref qb, .int ic'])), (qb, .inl (cI, 24, .inl ib')), (qa, .inl (cI, 16, .inl xa')), (qg, .inl (cI, 4, .inl xg'))] r := by
  intro sz
  refine Met.ofW (cc := b_A_storePayload) (maxL := 2) (ret := some .int) (by decide) rfl ?_
  intro p e s m args below meth c s₁ B hml hv
  obtain ⟨rfl, hsz, hP, hK, hD0⟩ := hv
  have hx := B.exec
  have hb := B.bytes
  have hr := B.returns
  have hts := atoms_spec (ws := w_A_storePayload) B.pre
  have hown : s.vm.findClass R_A = some m.cls := findClass_of_methodNamed B.named
  have hlocks := B.notSynchronized
  subst hsz
  have hD := hD0.self (sz := s.heap.size)
  generalize hAe : va_A [(ha, .inr (0, [.ref hm, .ref hi, .ref qa, .ref qg, .int xl, .int xo, .int xs, .int xv, .int xp])), (hm, .inr (1, [.ref qc, .int mw, .int mf, .int mz])), (qc, .inl (cI, 149, .inl mc)), (hi, .inr (2, [.ref qb, .int ic])), (qb, .inl (cI, 24, .inl ib)), (qa, .inl (cI, 16, .inl xa)), (qg, .inl (cI, 4, .inl xg))] s.heap.size = A at hD ⊢
  have hA : ∀ q : Nat, s.heap.size ≤ q → A q := fun q h => by rw [← hAe]; exact Or.inr h
  have hS : va_S A s.heap s.heap [] := va_S.rf
  have hP : va_P (dC, dI) vwCl [(ha, .inr (0, [.ref hm, .ref hi, .ref qa, .ref qg, .int xl, .int xo, .int xs, .int xv, .int xp])), (hm, .inr (1, [.ref qc, .int mw, .int mf, .int mz])), (qc, .inl (cI, 149, .inl mc)), (hi, .inr (2, [.ref qb, .int ic])), (qb, .inl (cI, 24, .inl ib)), (qa, .inl (cI, 16, .inl xa)), (qg, .inl (cI, 4, .inl xg))] s.heap := hP
  have hl := lv_entry ([.ref ha, .int a1]) (n := 2) (Nat.le_of_ble_eq_true rfl)
  rw [lg_entry_eq]
  generalize (lg_sl ([.ref ha, .int a1]) ++ List.replicate (2 - (lg_sl ([.ref ha, .int a1])).length) Slot.unset).toArray = ls at hl ⊢
  have hl : lv_has ls 2 [(0, .ref ha), (1, .int a1)] := hl
  have inA : ∀ w ∈ u_ws R_A F_A 9, w ∈ w_A_storePayload := fun w h => List.mem_cons_of_mem _ (in_A w h)
  have kf19 := hts _ (List.mem_cons_of_mem _ wq92)
  rw [fA_storePayload] at hf
  refine lv_aload_n hx hb d_A_storePayload_0 rfl (lv_at hl 0 rfl) ?_
  refine lv_iload_n hx hb d_A_storePayload_1 rfl (lv_at hl 1 rfl) ?_
  refine lv_aload_n hx hb d_A_storePayload_2 rfl (lv_at hl 0 rfl) ?_
  refine va_get (D := (dC, dI)) (ci := 0) (v := .ref hi) (C := R_A) (T := F_A) (N := 9) hx hb hts inA hown hK hP 0 rfl rfl 1 (by decide) kf19 (fun _ h9 => h9) rfl d_A_storePayload_3 ?_
  refine xcr (wr := [(ha, .inr (0, [.ref hm, .ref hi, .ref qa, .ref qg, .int xl, .int xo, .int xs, .int xv, .int xp])), (hm, .inr (1, [.ref qc, .int mw, .int mf, .int mz])), (qc, .inl (cI, 149, .inl mc)), (qa, .inl (cI, 16, .inl xa)), (qg, .inl (cI, 4, .inl xg))]) (ctI_row l dC dI cI hi qb ib ic) ⟨hx, hb, hml, hown, hts⟩ (cwV (C := R_I) 0 hts (gV wq249 wq250 wq251 wq45 wq252) rfl rfl rfl (by decide +kernel) ⟨Nat.le_of_ble_eq_true rfl, Nat.le_of_ble_eq_true rfl⟩) hK hP hD hS hA [3, 4] [0, 1, 2, 5, 6] rfl rfl rfl rfl (by decide) (ci := 2) (q0 := 3) rfl rfl rfl rfl hl.1 rfl (Nat.le_of_ble_eq_true rfl) d_A_storePayload_6 ⟨Nat.zero_le _, Nat.zero_le _⟩ (fun H locs hP hD hS => ?_)
  have hP : va_P (dC, dI) vwCl [(ha, .inr (0, [.ref hm, .ref hi, .ref qa, .ref qg, .int xl, .int xo, .int xs, .int xv, .int xp])), (hm, .inr (1, [.ref qc, .int mw, .int mf, .int mz])), (qc, .inl (cI, 149, .inl mc)), (qa, .inl (cI, 16, .inl xa)), (qg, .inl (cI, 4, .inl xg)), (hi, .inr (2, [.ref qb, .int ic])), (qb, .inl (cI, 24, .inl ib))] H := hP
  have hD : va_D A [(ha, .inr (0, [.ref hm, .ref hi, .ref qa, .ref qg, .int xl, .int xo, .int xs, .int xv, .int xp])), (hm, .inr (1, [.ref qc, .int mw, .int mf, .int mz])), (qc, .inl (cI, 149, .inl mc)), (qa, .inl (cI, 16, .inl xa)), (qg, .inl (cI, 4, .inl xg)), (hi, .inr (2, [.ref qb, .int ic])), (qb, .inl (cI, 24, .inl ib))] := hD
  refine lv_iconst (v := 5) hx hb d_A_storePayload_9 (by decide) ?_
  refine lv_aload_n hx hb d_A_storePayload_10 rfl (lv_at hl 0 rfl) ?_
  refine va_get (D := (dC, dI)) (ci := 0) (v := .ref hi) (C := R_A) (T := F_A) (N := 9) hx hb hts inA hown hK hP 0 rfl rfl 1 (by decide) kf19 (fun _ h9 => h9) rfl d_A_storePayload_11 ?_
  obtain ⟨r2, hg, hf⟩ := bd1_some hf
  refine xci (wr := [(ha, .inr (0, [.ref hm, .ref hi, .ref qa, .ref qg, .int xl, .int xo, .int xs, .int xv, .int xp])), (hm, .inr (1, [.ref qc, .int mw, .int mf, .int mz])), (qc, .inl (cI, 149, .inl mc)), (qa, .inl (cI, 16, .inl xa)), (qg, .inl (cI, 4, .inl xg))]) (ctI_lc l dC dI cI hi qb ib ic r2 hg) ⟨hx, hb, hml, hown, hts⟩ (cwV (C := R_I) 0 hts (gV wq159 wq151 wq152 wq45 wq153) rfl rfl rfl (by decide +kernel) ⟨Nat.le_of_ble_eq_true rfl, Nat.le_of_ble_eq_true rfl⟩) hK hP hD hS hA [5, 6] [0, 1, 2, 3, 4] rfl rfl rfl rfl (by decide) (ci := 2) (q0 := 5) rfl rfl rfl rfl hl.1 rfl (Nat.le_of_ble_eq_true rfl) d_A_storePayload_14 ⟨Nat.zero_le _, Nat.zero_le _⟩ (fun H locs hP hD hS => ?_)
  have hP : va_P (dC, dI) vwCl [(ha, .inr (0, [.ref hm, .ref hi, .ref qa, .ref qg, .int xl, .int xo, .int xs, .int xv, .int xp])), (hm, .inr (1, [.ref qc, .int mw, .int mf, .int mz])), (qc, .inl (cI, 149, .inl mc)), (qa, .inl (cI, 16, .inl xa)), (qg, .inl (cI, 4, .inl xg)), (hi, .inr (2, [.ref qb, .int ic])), (qb, .inl (cI, 24, .inl ib))] H := hP
  have hD : va_D A [(ha, .inr (0, [.ref hm, .ref hi, .ref qa, .ref qg, .int xl, .int xo, .int xs, .int xv, .int xp])), (hm, .inr (1, [.ref qc, .int mw, .int mf, .int mz])), (qc, .inl (cI, 149, .inl mc)), (qa, .inl (cI, 16, .inl xa)), (qg, .inl (cI, 4, .inl xg)), (hi, .inr (2, [.ref qb, .int ic])), (qb, .inl (cI, 24, .inl ib))] := hD
  obtain ⟨r3, mc3, mw3, mf3, mz3, ib3, ic3, xa3, xg3, xl3, xo3, xs3, xv3, xp3, hg, hf⟩ := bd14_some hf
  refine xci (wr := []) (ctA_store_qb l dC dI cI ha hm qc hi qb qa qg mc mw mf mz ib ic xa xg xl xo xs xv xp a1 5 r2 r3 mc3 mw3 mf3 mz3 ib3 ic3 xa3 xg3 xl3 xo3 xs3 xv3 xp3 hg) ⟨hx, hb, hml, hown, hts⟩ (cwV (C := R_A) 4 hts (gV wq253 wq255 wq7 wq43 wq256) rfl rfl rfl (by decide +kernel) ⟨Nat.le_of_ble_eq_true rfl, Nat.le_of_ble_eq_true rfl⟩) hK hP hD hS hA [0, 1, 2, 5, 6, 3, 4] [] rfl rfl rfl rfl (by decide) (ci := 0) (q0 := 0) rfl rfl rfl rfl hl.1 rfl (Nat.le_of_ble_eq_true rfl) d_A_storePayload_17 ⟨Nat.zero_le _, Nat.zero_le _⟩ (fun H locs hP hD hS => ?_)
  have hP : va_P (dC, dI) vwCl [(ha, .inr (0, [.ref hm, .ref hi, .ref qa, .ref qg, .int xl3, .int xo3, .int xs3, .int xv3, .int xp3])), (hm, .inr (1, [.ref qc, .int mw3, .int mf3, .int mz3])), (qc, .inl (cI, 149, .inl mc3)), (hi, .inr (2, [.ref qb, .int ic3])), (qb, .inl (cI, 24, .inl ib3)), (qa, .inl (cI, 16, .inl xa3)), (qg, .inl (cI, 4, .inl xg3))] H := hP
  have hD : va_D A [(ha, .inr (0, [.ref hm, .ref hi, .ref qa, .ref qg, .int xl3, .int xo3, .int xs3, .int xv3, .int xp3])), (hm, .inr (1, [.ref qc, .int mw3, .int mf3, .int mz3])), (qc, .inl (cI, 149, .inl mc3)), (hi, .inr (2, [.ref qb, .int ic3])), (qb, .inl (cI, 24, .inl ib3)), (qa, .inl (cI, 16, .inl xa3)), (qg, .inl (cI, 4, .inl xg3))] := hD
  obtain ⟨e1_, e2_, e3_, e4_, e5_, e6_, e7_, e8_, e9_, e10_, e11_, e12_, e13_, e14_⟩ := lf14 hf
  subst e1_; subst e2_; subst e3_; subst e4_; subst e5_; subst e6_; subst e7_; subst e8_; subst e9_; subst e10_; subst e11_; subst e12_; subst e13_; subst e14_
  have hP9 := hP.sub (ws' := [(ha, .inr (0, [.ref hm, .ref hi, .ref qa, .ref qg, .int xl3, .int xo3, .int xs3, .int xv3, .int xp3])), (hm, .inr (1, [.ref qc, .int mw3, .int mf3, .int mz3])), (qc, .inl (cI, 149, .inl mc3)), (hi, .inr (2, [.ref qb, .int ic3])), (qb, .inl (cI, 24, .inl ib3)), (qa, .inl (cI, 16, .inl xa3)), (qg, .inl (cI, 4, .inl xg3))]) [0, 1, 2, 3, 4, 5, 6] rfl
  have hD9 := hD.sub (ws' := [(ha, .inr (0, [.ref hm, .ref hi, .ref qa, .ref qg, .int xl3, .int xo3, .int xs3, .int xv3, .int xp3])), (hm, .inr (1, [.ref qc, .int mw3, .int mf3, .int mz3])), (qc, .inl (cI, 149, .inl mc3)), (hi, .inr (2, [.ref qb, .int ic3])), (qb, .inl (cI, 24, .inl ib3)), (qa, .inl (cI, 16, .inl xa3)), (qg, .inl (cI, 4, .inl xg3))]) [0, 1, 2, 3, 4, 5, 6] (by decide) rfl
  exact W.iret (v := r3) hx hb hr (fun t ht hW => ⟨⟨r3, (), rfl, rfl, by rw [ht]; exact hP9, va_K.moved hW.alike hK, hD9⟩, hS.F ht⟩) hS.2.2 d_A_storePayload_20
theorem d_A_select_0 : decode b_A_select 0 = .ok (.aload_n 0, 1) := by decide +kernel
theorem d_A_select_1 : decode b_A_select 1 = .ok (.getfield 19, 3) := by decide +kernel
theorem d_A_select_4 : decode b_A_select 4 = .ok (.iconst 0, 1) := by decide +kernel
theorem d_A_select_5 : decode b_A_select 5 = .ok (.invokevirtual 192, 3) := by decide +kernel
theorem d_A_select_8 : decode b_A_select 8 = .ok (.istore_n 1, 1) := by decide +kernel
theorem d_A_select_9 : decode b_A_select 9 = .ok (.iload_n 1, 1) := by decide +kernel
theorem d_A_select_10 : decode b_A_select 10 = .ok (.invokestatic 89, 3) := by decide +kernel
theorem d_A_select_13 : decode b_A_select 13 = .ok (.ifCond .ne 7, 3) := by decide +kernel
theorem d_A_select_16 : decode b_A_select 16 = .ok (.sipush 27266, 3) := by decide +kernel
theorem d_A_select_19 : decode b_A_select 19 = .ok (.ireturn, 1) := by decide +kernel
theorem d_A_select_20 : decode b_A_select 20 = .ok (.aload_n 0, 1) := by decide +kernel
theorem d_A_select_21 : decode b_A_select 21 = .ok (.getfield 110, 3) := by decide +kernel
theorem d_A_select_24 : decode b_A_select 24 = .ok (.ifCond .eq 15, 3) := by decide +kernel
theorem d_A_select_27 : decode b_A_select 27 = .ok (.aload_n 0, 1) := by decide +kernel
theorem d_A_select_28 : decode b_A_select 28 = .ok (.getfield 10, 3) := by decide +kernel
theorem d_A_select_31 : decode b_A_select 31 = .ok (.invokevirtual 82, 3) := by decide +kernel
theorem d_A_select_34 : decode b_A_select 34 = .ok (.ifCond .ne 5, 3) := by decide +kernel
theorem d_A_select_37 : decode b_A_select 37 = .ok (.iconst (-1), 1) := by decide +kernel
theorem d_A_select_38 : decode b_A_select 38 = .ok (.ireturn, 1) := by decide +kernel
theorem d_A_select_39 : decode b_A_select 39 = .ok (.aload_n 0, 1) := by decide +kernel
theorem d_A_select_40 : decode b_A_select 40 = .ok (.iconst 0, 1) := by decide +kernel
theorem d_A_select_41 : decode b_A_select 41 = .ok (.putfield 110, 3) := by decide +kernel
theorem d_A_select_44 : decode b_A_select 44 = .ok (.aload_n 0, 1) := by decide +kernel
theorem d_A_select_45 : decode b_A_select 45 = .ok (.iload_n 1, 1) := by decide +kernel
theorem d_A_select_46 : decode b_A_select 46 = .ok (.putfield 30, 3) := by decide +kernel
theorem d_A_select_49 : decode b_A_select 49 = .ok (.aload_n 0, 1) := by decide +kernel
theorem d_A_select_50 : decode b_A_select 50 = .ok (.iconst 0, 1) := by decide +kernel
theorem d_A_select_51 : decode b_A_select 51 = .ok (.putfield 107, 3) := by decide +kernel
theorem d_A_select_54 : decode b_A_select 54 = .ok (.aload_n 0, 1) := by decide +kernel
theorem d_A_select_55 : decode b_A_select 55 = .ok (.iload_n 1, 1) := by decide +kernel
theorem d_A_select_56 : decode b_A_select 56 = .ok (.invokestatic 101, 3) := by decide +kernel
theorem d_A_select_59 : decode b_A_select 59 = .ok (.iconst 1, 1) := by decide +kernel
theorem d_A_select_60 : decode b_A_select 60 = .ok (.invokevirtual 195, 3) := by decide +kernel
theorem d_A_select_63 : decode b_A_select 63 = .ok (.ireturn, 1) := by decide +kernel
def fA_select (σ : StX) : Option (Int32 × StX) := match σ with | (mc, mw, mf, mz, ib, ic, xa, xg, xl, xo, xs, xv, xp) => bd1 (fI_payload (ib, ic) 0) fun r1 => bd1 (fA_isApplet r1) fun r2 => if r2 = 0 then (some (27266, mc, mw, mf, mz, ib, ic, xa, xg, xl, xo, xs, xv, xp)) else (if xp = 0 then (bd1 (fA_triesPlace r1) fun r5 => bd14 (fA_respond (mc, mw, mf, mz, ib, ic, xa, xg, xl, xo, r1, 0, 0) r5 1) fun r6 mc6 mw6 mf6 mz6 ib6 ic6 xa6 xg6 xl6 xo6 xs6 xv6 xp6 => some (r6, mc6, mw6, mf6, mz6, ib6, ic6, xa6, xg6, xl6, xo6, xs6, xv6, xp6)) else (bd5 (fM_undo (mc, mw, mf, mz)) fun r7 mc7 mw7 mf7 mz7 => if r7 = 0 then (some ((-1), mc7, mw7, mf7, mz7, ib, ic, xa, xg, xl, xo, xs, xv, xp)) else (bd1 (fA_triesPlace r1) fun r9 => bd14 (fA_respond (mc7, mw7, mf7, mz7, ib, ic, xa, xg, xl, xo, r1, 0, 0) r9 1) fun r10 mc10 mw10 mf10 mz10 ib10 ic10 xa10 xg10 xl10 xo10 xs10 xv10 xp10 => some (r10, mc10, mw10, mf10, mz10, ib10, ic10, xa10, xg10, xl10, xo10, xs10, xv10, xp10))))
set_option maxHeartbeats 4000000 in
set_option maxRecDepth 100000 in
theorem ctA_select (l : Launch) (dC : Nat → ClassId) (dI : Nat → Nat → Nat) (cI : ClassId) (ha hm qc hi qb qa qg : Nat) (mc : Nat → Int32) (mw : Int32) (mf : Int32) (mz : Int32) (ib : Nat → Int32) (ic : Int32) (xa : Nat → Int32) (xg : Nat → Int32) (xl : Int32) (xo : Int32) (xs : Int32) (xv : Int32) (xp : Int32) (r : Int32) (mc' : Nat → Int32) (mw' : Int32) (mf' : Int32) (mz' : Int32) (ib' : Nat → Int32) (ic' : Int32) (xa' : Nat → Int32) (xg' : Nat → Int32) (xl' : Int32) (xo' : Int32) (xs' : Int32) (xv' : Int32) (xp' : Int32) (hf : fA_select (mc, mw, mf, mz, ib, ic, xa, xg, xl, xo, xs, xv, xp) = some (r, mc', mw', mf', mz', ib', ic', xa', xg', xl', xo', xs', xv', xp')) : CtI l y_A_select w_A_select ({ frames := 3, cells := 0, slots := 0, locals := 64 }) (dC, dI) [(cI, .int)] [.ref ha] [(ha, .inr (0, [.ref hm, .ref hi, .ref qa, .ref qg, .int xl, .int xo, .int xs, .int xv, .int xp])), (hm, .inr (1, [.ref qc, .int mw, .int mf, .int mz])), (qc, .inl (cI, 149, .inl mc)), (hi, .inr (2, [.ref qb, .int ic])), (qb, .inl (cI, 24, .inl ib)), (qa, .inl (cI, 16, .inl xa)), (qg, .inl (cI, 4, .inl xg))] [(ha, .inr (0, [.ref hm, .ref hi, .ref qa, .ref qg, .int xl', .int xo', .int xs', .int xv', .int xp'])), (hm, .inr (1, [.ref qc, .int mw', .int mf', .int mz'])), (qc, .inl (cI, 149, .inl mc')), (hi, .inr (2, [.ref qb, .int ic'])), (qb, .inl (cI, 24, .inl ib')), (qa, .inl (cI, 16, .inl xa')), (qg, .inl (cI, 4, .inl xg'))] r := by
  intro sz
  refine Met.ofW (cc := b_A_select) (maxL := 2) (ret := some .int) (by decide) rfl ?_
  intro p e s m args below meth c s₁ B hml hv
  obtain ⟨rfl, hsz, hP, hK, hD0⟩ := hv
  have hx := B.exec
  have hb := B.bytes
  have hr := B.returns
  have hts := atoms_spec (ws := w_A_select) B.pre
  have hown : s.vm.findClass R_A = some m.cls := findClass_of_methodNamed B.named
  have hlocks := B.notSynchronized
  subst hsz
  have hD := hD0.self (sz := s.heap.size)
  generalize hAe : va_A [(ha, .inr (0, [.ref hm, .ref hi, .ref qa, .ref qg, .int xl, .int xo, .int xs, .int xv, .int xp])), (hm, .inr (1, [.ref qc, .int mw, .int mf, .int mz])), (qc, .inl (cI, 149, .inl mc)), (hi, .inr (2, [.ref qb, .int ic])), (qb, .inl (cI, 24, .inl ib)), (qa, .inl (cI, 16, .inl xa)), (qg, .inl (cI, 4, .inl xg))] s.heap.size = A at hD ⊢
  have hA : ∀ q : Nat, s.heap.size ≤ q → A q := fun q h => by rw [← hAe]; exact Or.inr h
  have hS : va_S A s.heap s.heap [] := va_S.rf
  have hP : va_P (dC, dI) vwCl [(ha, .inr (0, [.ref hm, .ref hi, .ref qa, .ref qg, .int xl, .int xo, .int xs, .int xv, .int xp])), (hm, .inr (1, [.ref qc, .int mw, .int mf, .int mz])), (qc, .inl (cI, 149, .inl mc)), (hi, .inr (2, [.ref qb, .int ic])), (qb, .inl (cI, 24, .inl ib)), (qa, .inl (cI, 16, .inl xa)), (qg, .inl (cI, 4, .inl xg))] s.heap := hP
  have hl := lv_entry ([.ref ha]) (n := 2) (Nat.le_of_ble_eq_true rfl)
  rw [lg_entry_eq]
  generalize (lg_sl ([.ref ha]) ++ List.replicate (2 - (lg_sl ([.ref ha])).length) Slot.unset).toArray = ls at hl ⊢
  have hl : lv_has ls 2 [(0, .ref ha)] := hl
  have inA : ∀ w ∈ u_ws R_A F_A 9, w ∈ w_A_select := fun w h => List.mem_cons_of_mem _ (in_A w h)
  have kf10 := hts _ (List.mem_cons_of_mem _ wq91)
  have kf107 := hts _ (List.mem_cons_of_mem _ wq98)
  have kf110 := hts _ (List.mem_cons_of_mem _ wq99)
  have kf19 := hts _ (List.mem_cons_of_mem _ wq92)
  have kf30 := hts _ (List.mem_cons_of_mem _ wq97)
  rw [fA_select] at hf
  refine lv_aload_n hx hb d_A_select_0 rfl (lv_at hl 0 rfl) ?_
  refine va_get (D := (dC, dI)) (ci := 0) (v := .ref hi) (C := R_A) (T := F_A) (N := 9) hx hb hts inA hown hK hP 0 rfl rfl 1 (by decide) kf19 (fun _ h9 => h9) rfl d_A_select_1 ?_
  refine lv_iconst (v := 0) hx hb d_A_select_4 (by decide) ?_
  obtain ⟨r1, hg, hf⟩ := bd1_some hf
  refine xci (wr := [(ha, .inr (0, [.ref hm, .ref hi, .ref qa, .ref qg, .int xl, .int xo, .int xs, .int xv, .int xp])), (hm, .inr (1, [.ref qc, .int mw, .int mf, .int mz])), (qc, .inl (cI, 149, .inl mc)), (qa, .inl (cI, 16, .inl xa)), (qg, .inl (cI, 4, .inl xg))]) (ctI_payload l dC dI cI hi qb ib ic 0 r1 hg) ⟨hx, hb, hml, hown, hts⟩ (cwV (C := R_I) 1 hts (gV wq199 wq200 wq201 wq45 wq202) rfl rfl rfl (by decide +kernel) ⟨Nat.le_of_ble_eq_true rfl, Nat.le_of_ble_eq_true rfl⟩) hK hP hD hS hA [3, 4] [0, 1, 2, 5, 6] rfl rfl rfl rfl (by decide) (ci := 2) (q0 := 3) rfl rfl rfl rfl hl.1 rfl (Nat.le_of_ble_eq_true rfl) d_A_select_5 ⟨Nat.zero_le _, Nat.zero_le _⟩ (fun H locs hP hD hS => ?_)
  have hP : va_P (dC, dI) vwCl [(ha, .inr (0, [.ref hm, .ref hi, .ref qa, .ref qg, .int xl, .int xo, .int xs, .int xv, .int xp])), (hm, .inr (1, [.ref qc, .int mw, .int mf, .int mz])), (qc, .inl (cI, 149, .inl mc)), (qa, .inl (cI, 16, .inl xa)), (qg, .inl (cI, 4, .inl xg)), (hi, .inr (2, [.ref qb, .int ic])), (qb, .inl (cI, 24, .inl ib))] H := hP
  have hD : va_D A [(ha, .inr (0, [.ref hm, .ref hi, .ref qa, .ref qg, .int xl, .int xo, .int xs, .int xv, .int xp])), (hm, .inr (1, [.ref qc, .int mw, .int mf, .int mz])), (qc, .inl (cI, 149, .inl mc)), (qa, .inl (cI, 16, .inl xa)), (qg, .inl (cI, 4, .inl xg)), (hi, .inr (2, [.ref qb, .int ic])), (qb, .inl (cI, 24, .inl ib))] := hD
  refine lv_istore_n hx hb d_A_select_8 rfl hl (by decide) rfl (fun ls hl => ?_)
  have hl : lv_has ls 2 [(1, .int r1), (0, .ref ha)] := hl
  refine lv_iload_n hx hb d_A_select_9 rfl (lv_at hl 0 rfl) ?_
  obtain ⟨r2, hg, hf⟩ := bd1_some hf
  refine xsz (ctA_isApplet l dC dI cI r1 r2 hg) ⟨hx, hb, hml, hown, hts⟩ (va_cwS 1 hts (gS wq203 wq204 wq43 wq205) rfl rfl rfl (by decide +kernel) ⟨Nat.le_of_ble_eq_true rfl, Nat.le_of_ble_eq_true rfl⟩) hK hP hD hS hA rfl hl.1 rfl (Nat.le_of_ble_eq_true rfl) d_A_select_10 ⟨Nat.zero_le _, Nat.zero_le _⟩ (fun H locs hn2 hP hD hS => ?_)
  refine lv_if_ne (tgt := 20) hx hb d_A_select_13 rfl (fun hc3 => ?_) (fun hc3 => ?_)
  · have hf := ifn hf hc3
    refine lv_aload_n hx hb d_A_select_20 rfl (lv_at hl 1 rfl) ?_
    refine va_get (D := (dC, dI)) (ci := 0) (v := .int xp) (C := R_A) (T := F_A) (N := 9) hx hb hts inA hown hK hP 0 rfl rfl 8 (by decide) kf110 (fun _ h9 => h9) rfl d_A_select_21 ?_
    refine lv_if_eq (tgt := 39) hx hb d_A_select_24 rfl (fun hc4 => ?_) (fun hc4 => ?_)
    · have hf := ift hf hc4
      refine lv_aload_n hx hb d_A_select_39 rfl (lv_at hl 1 rfl) ?_
      refine lv_iconst (v := 0) hx hb d_A_select_40 (by decide) ?_
      refine va_put (D := (dC, dI)) (ci := 0) (v := .int 0) (ty := .boolean) (C := R_A) (T := F_A) (N := 9) hx hb hts inA t_A t_A_ok n_A hown hK hP hD hS 0 rfl rfl 8 (by decide) kf110 (fun _ h9 => h9) rfl (by decide +kernel) rfl rfl (Nat.le_of_ble_eq_true rfl) d_A_select_41 (fun H locs hP hD hS => ?_)
      have hP : va_P (dC, dI) vwCl [(ha, .inr (0, [.ref hm, .ref hi, .ref qa, .ref qg, .int xl, .int xo, .int xs, .int xv, .int 0])), (hm, .inr (1, [.ref qc, .int mw, .int mf, .int mz])), (qc, .inl (cI, 149, .inl mc)), (qa, .inl (cI, 16, .inl xa)), (qg, .inl (cI, 4, .inl xg)), (hi, .inr (2, [.ref qb, .int ic])), (qb, .inl (cI, 24, .inl ib))] H := hP
      have hD : va_D A [(ha, .inr (0, [.ref hm, .ref hi, .ref qa, .ref qg, .int xl, .int xo, .int xs, .int xv, .int 0])), (hm, .inr (1, [.ref qc, .int mw, .int mf, .int mz])), (qc, .inl (cI, 149, .inl mc)), (qa, .inl (cI, 16, .inl xa)), (qg, .inl (cI, 4, .inl xg)), (hi, .inr (2, [.ref qb, .int ic])), (qb, .inl (cI, 24, .inl ib))] := hD
      refine lv_aload_n hx hb d_A_select_44 rfl (lv_at hl 1 rfl) ?_
      refine lv_iload_n hx hb d_A_select_45 rfl (lv_at hl 0 rfl) ?_
      refine va_put (D := (dC, dI)) (ci := 0) (v := .int r1) (ty := .int) (C := R_A) (T := F_A) (N := 9) hx hb hts inA t_A t_A_ok n_A hown hK hP hD hS 0 rfl rfl 6 (by decide) kf30 (fun _ h9 => h9) rfl (by decide +kernel) rfl rfl (Nat.le_of_ble_eq_true rfl) d_A_select_46 (fun H locs hP hD hS => ?_)
      have hP : va_P (dC, dI) vwCl [(ha, .inr (0, [.ref hm, .ref hi, .ref qa, .ref qg, .int xl, .int xo, .int r1, .int xv, .int 0])), (hm, .inr (1, [.ref qc, .int mw, .int mf, .int mz])), (qc, .inl (cI, 149, .inl mc)), (qa, .inl (cI, 16, .inl xa)), (qg, .inl (cI, 4, .inl xg)), (hi, .inr (2, [.ref qb, .int ic])), (qb, .inl (cI, 24, .inl ib))] H := hP
      have hD : va_D A [(ha, .inr (0, [.ref hm, .ref hi, .ref qa, .ref qg, .int xl, .int xo, .int r1, .int xv, .int 0])), (hm, .inr (1, [.ref qc, .int mw, .int mf, .int mz])), (qc, .inl (cI, 149, .inl mc)), (qa, .inl (cI, 16, .inl xa)), (qg, .inl (cI, 4, .inl xg)), (hi, .inr (2, [.ref qb, .int ic])), (qb, .inl (cI, 24, .inl ib))] := hD
      refine lv_aload_n hx hb d_A_select_49 rfl (lv_at hl 1 rfl) ?_
      refine lv_iconst (v := 0) hx hb d_A_select_50 (by decide) ?_
      refine va_put (D := (dC, dI)) (ci := 0) (v := .int 0) (ty := .boolean) (C := R_A) (T := F_A) (N := 9) hx hb hts inA t_A t_A_ok n_A hown hK hP hD hS 0 rfl rfl 7 (by decide) kf107 (fun _ h9 => h9) rfl (by decide +kernel) rfl rfl (Nat.le_of_ble_eq_true rfl) d_A_select_51 (fun H locs hP hD hS => ?_)
      have hP : va_P (dC, dI) vwCl [(ha, .inr (0, [.ref hm, .ref hi, .ref qa, .ref qg, .int xl, .int xo, .int r1, .int 0, .int 0])), (hm, .inr (1, [.ref qc, .int mw, .int mf, .int mz])), (qc, .inl (cI, 149, .inl mc)), (qa, .inl (cI, 16, .inl xa)), (qg, .inl (cI, 4, .inl xg)), (hi, .inr (2, [.ref qb, .int ic])), (qb, .inl (cI, 24, .inl ib))] H := hP
      have hD : va_D A [(ha, .inr (0, [.ref hm, .ref hi, .ref qa, .ref qg, .int xl, .int xo, .int r1, .int 0, .int 0])), (hm, .inr (1, [.ref qc, .int mw, .int mf, .int mz])), (qc, .inl (cI, 149, .inl mc)), (qa, .inl (cI, 16, .inl xa)), (qg, .inl (cI, 4, .inl xg)), (hi, .inr (2, [.ref qb, .int ic])), (qb, .inl (cI, 24, .inl ib))] := hD
      refine lv_aload_n hx hb d_A_select_54 rfl (lv_at hl 1 rfl) ?_
      refine lv_iload_n hx hb d_A_select_55 rfl (lv_at hl 0 rfl) ?_
      obtain ⟨r5, hg, hf⟩ := bd1_some hf
      refine xsi (ctA_triesPlace l dC dI cI r1 r5 hg) ⟨hx, hb, hml, hown, hts⟩ (va_cwS 1 hts (gS wq222 wq223 wq43 wq224) rfl rfl rfl (by decide +kernel) ⟨Nat.le_of_ble_eq_true rfl, Nat.le_of_ble_eq_true rfl⟩) hK hP hD hS hA rfl hl.1 rfl (Nat.le_of_ble_eq_true rfl) d_A_select_56 ⟨Nat.zero_le _, Nat.zero_le _⟩ (fun H locs hP hD hS => ?_)
      refine lv_iconst (v := 1) hx hb d_A_select_59 (by decide) ?_
      obtain ⟨r6, mc6, mw6, mf6, mz6, ib6, ic6, xa6, xg6, xl6, xo6, xs6, xv6, xp6, hg, hf⟩ := bd14_some hf
      refine xci (wr := []) (ctA_respond l dC dI cI ha hm qc hi qb qa qg mc mw mf mz ib ic xa xg xl xo r1 0 0 r5 1 r6 mc6 mw6 mf6 mz6 ib6 ic6 xa6 xg6 xl6 xo6 xs6 xv6 xp6 hg) ⟨hx, hb, hml, hown, hts⟩ (cwV (C := R_A) 2 hts (gV wq225 wq227 wq3 wq43 wq228) rfl rfl rfl (by decide +kernel) ⟨Nat.le_of_ble_eq_true rfl, Nat.le_of_ble_eq_true rfl⟩) hK hP hD hS hA [0, 1, 2, 5, 6, 3, 4] [] rfl rfl rfl rfl (by decide) (ci := 0) (q0 := 0) rfl rfl rfl rfl hl.1 rfl (Nat.le_of_ble_eq_true rfl) d_A_select_60 ⟨Nat.zero_le _, Nat.zero_le _⟩ (fun H locs hP hD hS => ?_)
      have hP : va_P (dC, dI) vwCl [(ha, .inr (0, [.ref hm, .ref hi, .ref qa, .ref qg, .int xl6, .int xo6, .int xs6, .int xv6, .int xp6])), (hm, .inr (1, [.ref qc, .int mw6, .int mf6, .int mz6])), (qc, .inl (cI, 149, .inl mc6)), (hi, .inr (2, [.ref qb, .int ic6])), (qb, .inl (cI, 24, .inl ib6)), (qa, .inl (cI, 16, .inl xa6)), (qg, .inl (cI, 4, .inl xg6))] H := hP
      have hD : va_D A [(ha, .inr (0, [.ref hm, .ref hi, .ref qa, .ref qg, .int xl6, .int xo6, .int xs6, .int xv6, .int xp6])), (hm, .inr (1, [.ref qc, .int mw6, .int mf6, .int mz6])), (qc, .inl (cI, 149, .inl mc6)), (hi, .inr (2, [.ref qb, .int ic6])), (qb, .inl (cI, 24, .inl ib6)), (qa, .inl (cI, 16, .inl xa6)), (qg, .inl (cI, 4, .inl xg6))] := hD
      obtain ⟨e1_, e2_, e3_, e4_, e5_, e6_, e7_, e8_, e9_, e10_, e11_, e12_, e13_, e14_⟩ := lf14 hf
      subst e1_; subst e2_; subst e3_; subst e4_; subst e5_; subst e6_; subst e7_; subst e8_; subst e9_; subst e10_; subst e11_; subst e12_; subst e13_; subst e14_
      have hP9 := hP.sub (ws' := [(ha, .inr (0, [.ref hm, .ref hi, .ref qa, .ref qg, .int xl6, .int xo6, .int xs6, .int xv6, .int xp6])), (hm, .inr (1, [.ref qc, .int mw6, .int mf6, .int mz6])), (qc, .inl (cI, 149, .inl mc6)), (hi, .inr (2, [.ref qb, .int ic6])), (qb, .inl (cI, 24, .inl ib6)), (qa, .inl (cI, 16, .inl xa6)), (qg, .inl (cI, 4, .inl xg6))]) [0, 1, 2, 3, 4, 5, 6] rfl
      have hD9 := hD.sub (ws' := [(ha, .inr (0, [.ref hm, .ref hi, .ref qa, .ref qg, .int xl6, .int xo6, .int xs6, .int xv6, .int xp6])), (hm, .inr (1, [.ref qc, .int mw6, .int mf6, .int mz6])), (qc, .inl (cI, 149, .inl mc6)), (hi, .inr (2, [.ref qb, .int ic6])), (qb, .inl (cI, 24, .inl ib6)), (qa, .inl (cI, 16, .inl xa6)), (qg, .inl (cI, 4, .inl xg6))]) [0, 1, 2, 3, 4, 5, 6] (by decide) rfl
      exact W.iret (v := r6) hx hb hr (fun t ht hW => ⟨⟨r6, (), rfl, rfl, by rw [ht]; exact hP9, va_K.moved hW.alike hK, hD9⟩, hS.F ht⟩) hS.2.2 d_A_select_63
    have hf := ifn hf hc4
    refine lv_aload_n hx hb d_A_select_27 rfl (lv_at hl 1 rfl) ?_
    refine va_get (D := (dC, dI)) (ci := 0) (v := .ref hm) (C := R_A) (T := F_A) (N := 9) hx hb hts inA hown hK hP 0 rfl rfl 0 (by decide) kf10 (fun _ h9 => h9) rfl d_A_select_28 ?_
    obtain ⟨r7, mc7, mw7, mf7, mz7, hg, hf⟩ := bd5_some hf
    refine xcz (wr := [(ha, .inr (0, [.ref hm, .ref hi, .ref qa, .ref qg, .int xl, .int xo, .int xs, .int xv, .int xp])), (qa, .inl (cI, 16, .inl xa)), (qg, .inl (cI, 4, .inl xg)), (hi, .inr (2, [.ref qb, .int ic])), (qb, .inl (cI, 24, .inl ib))]) (ctM_undo l dC dI cI hm qc mc mw mf mz r7 mc7 mw7 mf7 mz7 hg) ⟨hx, hb, hml, hown, hts⟩ (cwV (C := R_M) 0 hts (gV wq206 wq207 wq208 wq44 wq209) rfl rfl rfl (by decide +kernel) ⟨Nat.le_of_ble_eq_true rfl, Nat.le_of_ble_eq_true rfl⟩) hK hP hD hS hA [1, 2] [0, 3, 4, 5, 6] rfl rfl rfl rfl (by decide) (ci := 1) (q0 := 1) rfl rfl rfl rfl hl.1 rfl (Nat.le_of_ble_eq_true rfl) d_A_select_31 ⟨Nat.zero_le _, Nat.zero_le _⟩ (fun H locs hn7 hP hD hS => ?_)
    have hP : va_P (dC, dI) vwCl [(ha, .inr (0, [.ref hm, .ref hi, .ref qa, .ref qg, .int xl, .int xo, .int xs, .int xv, .int xp])), (qa, .inl (cI, 16, .inl xa)), (qg, .inl (cI, 4, .inl xg)), (hi, .inr (2, [.ref qb, .int ic])), (qb, .inl (cI, 24, .inl ib)), (hm, .inr (1, [.ref qc, .int mw7, .int mf7, .int mz7])), (qc, .inl (cI, 149, .inl mc7))] H := hP
    have hD : va_D A [(ha, .inr (0, [.ref hm, .ref hi, .ref qa, .ref qg, .int xl, .int xo, .int xs, .int xv, .int xp])), (qa, .inl (cI, 16, .inl xa)), (qg, .inl (cI, 4, .inl xg)), (hi, .inr (2, [.ref qb, .int ic])), (qb, .inl (cI, 24, .inl ib)), (hm, .inr (1, [.ref qc, .int mw7, .int mf7, .int mz7])), (qc, .inl (cI, 149, .inl mc7))] := hD
    refine lv_if_ne (tgt := 39) hx hb d_A_select_34 rfl (fun hc8 => ?_) (fun hc8 => ?_)
    · have hf := ifn hf hc8
      refine lv_aload_n hx hb d_A_select_39 rfl (lv_at hl 1 rfl) ?_
      refine lv_iconst (v := 0) hx hb d_A_select_40 (by decide) ?_
      refine va_put (D := (dC, dI)) (ci := 0) (v := .int 0) (ty := .boolean) (C := R_A) (T := F_A) (N := 9) hx hb hts inA t_A t_A_ok n_A hown hK hP hD hS 0 rfl rfl 8 (by decide) kf110 (fun _ h9 => h9) rfl (by decide +kernel) rfl rfl (Nat.le_of_ble_eq_true rfl) d_A_select_41 (fun H locs hP hD hS => ?_)
      have hP : va_P (dC, dI) vwCl [(ha, .inr (0, [.ref hm, .ref hi, .ref qa, .ref qg, .int xl, .int xo, .int xs, .int xv, .int 0])), (qa, .inl (cI, 16, .inl xa)), (qg, .inl (cI, 4, .inl xg)), (hi, .inr (2, [.ref qb, .int ic])), (qb, .inl (cI, 24, .inl ib)), (hm, .inr (1, [.ref qc, .int mw7, .int mf7, .int mz7])), (qc, .inl (cI, 149, .inl mc7))] H := hP
      have hD : va_D A [(ha, .inr (0, [.ref hm, .ref hi, .ref qa, .ref qg, .int xl, .int xo, .int xs, .int xv, .int 0])), (qa, .inl (cI, 16, .inl xa)), (qg, .inl (cI, 4, .inl xg)), (hi, .inr (2, [.ref qb, .int ic])), (qb, .inl (cI, 24, .inl ib)), (hm, .inr (1, [.ref qc, .int mw7, .int mf7, .int mz7])), (qc, .inl (cI, 149, .inl mc7))] := hD
      refine lv_aload_n hx hb d_A_select_44 rfl (lv_at hl 1 rfl) ?_
      refine lv_iload_n hx hb d_A_select_45 rfl (lv_at hl 0 rfl) ?_
      refine va_put (D := (dC, dI)) (ci := 0) (v := .int r1) (ty := .int) (C := R_A) (T := F_A) (N := 9) hx hb hts inA t_A t_A_ok n_A hown hK hP hD hS 0 rfl rfl 6 (by decide) kf30 (fun _ h9 => h9) rfl (by decide +kernel) rfl rfl (Nat.le_of_ble_eq_true rfl) d_A_select_46 (fun H locs hP hD hS => ?_)
      have hP : va_P (dC, dI) vwCl [(ha, .inr (0, [.ref hm, .ref hi, .ref qa, .ref qg, .int xl, .int xo, .int r1, .int xv, .int 0])), (qa, .inl (cI, 16, .inl xa)), (qg, .inl (cI, 4, .inl xg)), (hi, .inr (2, [.ref qb, .int ic])), (qb, .inl (cI, 24, .inl ib)), (hm, .inr (1, [.ref qc, .int mw7, .int mf7, .int mz7])), (qc, .inl (cI, 149, .inl mc7))] H := hP
      have hD : va_D A [(ha, .inr (0, [.ref hm, .ref hi, .ref qa, .ref qg, .int xl, .int xo, .int r1, .int xv, .int 0])), (qa, .inl (cI, 16, .inl xa)), (qg, .inl (cI, 4, .inl xg)), (hi, .inr (2, [.ref qb, .int ic])), (qb, .inl (cI, 24, .inl ib)), (hm, .inr (1, [.ref qc, .int mw7, .int mf7, .int mz7])), (qc, .inl (cI, 149, .inl mc7))] := hD
      refine lv_aload_n hx hb d_A_select_49 rfl (lv_at hl 1 rfl) ?_
      refine lv_iconst (v := 0) hx hb d_A_select_50 (by decide) ?_
      refine va_put (D := (dC, dI)) (ci := 0) (v := .int 0) (ty := .boolean) (C := R_A) (T := F_A) (N := 9) hx hb hts inA t_A t_A_ok n_A hown hK hP hD hS 0 rfl rfl 7 (by decide) kf107 (fun _ h9 => h9) rfl (by decide +kernel) rfl rfl (Nat.le_of_ble_eq_true rfl) d_A_select_51 (fun H locs hP hD hS => ?_)
      have hP : va_P (dC, dI) vwCl [(ha, .inr (0, [.ref hm, .ref hi, .ref qa, .ref qg, .int xl, .int xo, .int r1, .int 0, .int 0])), (qa, .inl (cI, 16, .inl xa)), (qg, .inl (cI, 4, .inl xg)), (hi, .inr (2, [.ref qb, .int ic])), (qb, .inl (cI, 24, .inl ib)), (hm, .inr (1, [.ref qc, .int mw7, .int mf7, .int mz7])), (qc, .inl (cI, 149, .inl mc7))] H := hP
      have hD : va_D A [(ha, .inr (0, [.ref hm, .ref hi, .ref qa, .ref qg, .int xl, .int xo, .int r1, .int 0, .int 0])), (qa, .inl (cI, 16, .inl xa)), (qg, .inl (cI, 4, .inl xg)), (hi, .inr (2, [.ref qb, .int ic])), (qb, .inl (cI, 24, .inl ib)), (hm, .inr (1, [.ref qc, .int mw7, .int mf7, .int mz7])), (qc, .inl (cI, 149, .inl mc7))] := hD
      refine lv_aload_n hx hb d_A_select_54 rfl (lv_at hl 1 rfl) ?_
      refine lv_iload_n hx hb d_A_select_55 rfl (lv_at hl 0 rfl) ?_
      obtain ⟨r9, hg, hf⟩ := bd1_some hf
      refine xsi (ctA_triesPlace l dC dI cI r1 r9 hg) ⟨hx, hb, hml, hown, hts⟩ (va_cwS 1 hts (gS wq222 wq223 wq43 wq224) rfl rfl rfl (by decide +kernel) ⟨Nat.le_of_ble_eq_true rfl, Nat.le_of_ble_eq_true rfl⟩) hK hP hD hS hA rfl hl.1 rfl (Nat.le_of_ble_eq_true rfl) d_A_select_56 ⟨Nat.zero_le _, Nat.zero_le _⟩ (fun H locs hP hD hS => ?_)
      refine lv_iconst (v := 1) hx hb d_A_select_59 (by decide) ?_
      obtain ⟨r10, mc10, mw10, mf10, mz10, ib10, ic10, xa10, xg10, xl10, xo10, xs10, xv10, xp10, hg, hf⟩ := bd14_some hf
      refine xci (wr := []) (ctA_respond l dC dI cI ha hm qc hi qb qa qg mc7 mw7 mf7 mz7 ib ic xa xg xl xo r1 0 0 r9 1 r10 mc10 mw10 mf10 mz10 ib10 ic10 xa10 xg10 xl10 xo10 xs10 xv10 xp10 hg) ⟨hx, hb, hml, hown, hts⟩ (cwV (C := R_A) 2 hts (gV wq225 wq227 wq3 wq43 wq228) rfl rfl rfl (by decide +kernel) ⟨Nat.le_of_ble_eq_true rfl, Nat.le_of_ble_eq_true rfl⟩) hK hP hD hS hA [0, 5, 6, 3, 4, 1, 2] [] rfl rfl rfl rfl (by decide) (ci := 0) (q0 := 0) rfl rfl rfl rfl hl.1 rfl (Nat.le_of_ble_eq_true rfl) d_A_select_60 ⟨Nat.zero_le _, Nat.zero_le _⟩ (fun H locs hP hD hS => ?_)
      have hP : va_P (dC, dI) vwCl [(ha, .inr (0, [.ref hm, .ref hi, .ref qa, .ref qg, .int xl10, .int xo10, .int xs10, .int xv10, .int xp10])), (hm, .inr (1, [.ref qc, .int mw10, .int mf10, .int mz10])), (qc, .inl (cI, 149, .inl mc10)), (hi, .inr (2, [.ref qb, .int ic10])), (qb, .inl (cI, 24, .inl ib10)), (qa, .inl (cI, 16, .inl xa10)), (qg, .inl (cI, 4, .inl xg10))] H := hP
      have hD : va_D A [(ha, .inr (0, [.ref hm, .ref hi, .ref qa, .ref qg, .int xl10, .int xo10, .int xs10, .int xv10, .int xp10])), (hm, .inr (1, [.ref qc, .int mw10, .int mf10, .int mz10])), (qc, .inl (cI, 149, .inl mc10)), (hi, .inr (2, [.ref qb, .int ic10])), (qb, .inl (cI, 24, .inl ib10)), (qa, .inl (cI, 16, .inl xa10)), (qg, .inl (cI, 4, .inl xg10))] := hD
      obtain ⟨e1_, e2_, e3_, e4_, e5_, e6_, e7_, e8_, e9_, e10_, e11_, e12_, e13_, e14_⟩ := lf14 hf
      subst e1_; subst e2_; subst e3_; subst e4_; subst e5_; subst e6_; subst e7_; subst e8_; subst e9_; subst e10_; subst e11_; subst e12_; subst e13_; subst e14_
      have hP9 := hP.sub (ws' := [(ha, .inr (0, [.ref hm, .ref hi, .ref qa, .ref qg, .int xl10, .int xo10, .int xs10, .int xv10, .int xp10])), (hm, .inr (1, [.ref qc, .int mw10, .int mf10, .int mz10])), (qc, .inl (cI, 149, .inl mc10)), (hi, .inr (2, [.ref qb, .int ic10])), (qb, .inl (cI, 24, .inl ib10)), (qa, .inl (cI, 16, .inl xa10)), (qg, .inl (cI, 4, .inl xg10))]) [0, 1, 2, 3, 4, 5, 6] rfl
      have hD9 := hD.sub (ws' := [(ha, .inr (0, [.ref hm, .ref hi, .ref qa, .ref qg, .int xl10, .int xo10, .int xs10, .int xv10, .int xp10])), (hm, .inr (1, [.ref qc, .int mw10, .int mf10, .int mz10])), (qc, .inl (cI, 149, .inl mc10)), (hi, .inr (2, [.ref qb, .int ic10])), (qb, .inl (cI, 24, .inl ib10)), (qa, .inl (cI, 16, .inl xa10)), (qg, .inl (cI, 4, .inl xg10))]) [0, 1, 2, 3, 4, 5, 6] (by decide) rfl
      exact W.iret (v := r10) hx hb hr (fun t ht hW => ⟨⟨r10, (), rfl, rfl, by rw [ht]; exact hP9, va_K.moved hW.alike hK, hD9⟩, hS.F ht⟩) hS.2.2 d_A_select_63
    have hf := ift hf hc8
    refine lv_iconst (v := (-1)) hx hb d_A_select_37 (by decide) ?_
    obtain ⟨e1_, e2_, e3_, e4_, e5_, e6_, e7_, e8_, e9_, e10_, e11_, e12_, e13_, e14_⟩ := lf14 hf
    subst e1_; subst e2_; subst e3_; subst e4_; subst e5_; subst e6_; subst e7_; subst e8_; subst e9_; subst e10_; subst e11_; subst e12_; subst e13_; subst e14_
    have hP9 := hP.sub (ws' := [(ha, .inr (0, [.ref hm, .ref hi, .ref qa, .ref qg, .int xl, .int xo, .int xs, .int xv, .int xp])), (hm, .inr (1, [.ref qc, .int mw7, .int mf7, .int mz7])), (qc, .inl (cI, 149, .inl mc7)), (hi, .inr (2, [.ref qb, .int ic])), (qb, .inl (cI, 24, .inl ib)), (qa, .inl (cI, 16, .inl xa)), (qg, .inl (cI, 4, .inl xg))]) [0, 5, 6, 3, 4, 1, 2] rfl
    have hD9 := hD.sub (ws' := [(ha, .inr (0, [.ref hm, .ref hi, .ref qa, .ref qg, .int xl, .int xo, .int xs, .int xv, .int xp])), (hm, .inr (1, [.ref qc, .int mw7, .int mf7, .int mz7])), (qc, .inl (cI, 149, .inl mc7)), (hi, .inr (2, [.ref qb, .int ic])), (qb, .inl (cI, 24, .inl ib)), (qa, .inl (cI, 16, .inl xa)), (qg, .inl (cI, 4, .inl xg))]) [0, 5, 6, 3, 4, 1, 2] (by decide) rfl
    exact W.iret (v := (-1)) hx hb hr (fun t ht hW => ⟨⟨(-1), (), rfl, rfl, by rw [ht]; exact hP9, va_K.moved hW.alike hK, hD9⟩, hS.F ht⟩) hS.2.2 d_A_select_38
  have hf := ift hf hc3
  refine lv_sipush (v := 27266) hx hb d_A_select_16 (by decide) ?_
  obtain ⟨e1_, e2_, e3_, e4_, e5_, e6_, e7_, e8_, e9_, e10_, e11_, e12_, e13_, e14_⟩ := lf14 hf
  subst e1_; subst e2_; subst e3_; subst e4_; subst e5_; subst e6_; subst e7_; subst e8_; subst e9_; subst e10_; subst e11_; subst e12_; subst e13_; subst e14_
  have hP9 := hP.sub (ws' := [(ha, .inr (0, [.ref hm, .ref hi, .ref qa, .ref qg, .int xl, .int xo, .int xs, .int xv, .int xp])), (hm, .inr (1, [.ref qc, .int mw, .int mf, .int mz])), (qc, .inl (cI, 149, .inl mc)), (hi, .inr (2, [.ref qb, .int ic])), (qb, .inl (cI, 24, .inl ib)), (qa, .inl (cI, 16, .inl xa)), (qg, .inl (cI, 4, .inl xg))]) [0, 1, 2, 5, 6, 3, 4] rfl
  have hD9 := hD.sub (ws' := [(ha, .inr (0, [.ref hm, .ref hi, .ref qa, .ref qg, .int xl, .int xo, .int xs, .int xv, .int xp])), (hm, .inr (1, [.ref qc, .int mw, .int mf, .int mz])), (qc, .inl (cI, 149, .inl mc)), (hi, .inr (2, [.ref qb, .int ic])), (qb, .inl (cI, 24, .inl ib)), (qa, .inl (cI, 16, .inl xa)), (qg, .inl (cI, 4, .inl xg))]) [0, 1, 2, 5, 6, 3, 4] (by decide) rfl
  exact W.iret (v := 27266) hx hb hr (fun t ht hW => ⟨⟨27266, (), rfl, rfl, by rw [ht]; exact hP9, va_K.moved hW.alike hK, hD9⟩, hS.F ht⟩) hS.2.2 d_A_select_19
theorem d_A_payloadIsSecret_0 : decode b_A_payloadIsSecret 0 = .ok (.aload_n 0, 1) := by decide +kernel
theorem d_A_payloadIsSecret_1 : decode b_A_payloadIsSecret 1 = .ok (.getfield 30, 3) := by decide +kernel
theorem d_A_payloadIsSecret_4 : decode b_A_payloadIsSecret 4 = .ok (.invokestatic 159, 3) := by decide +kernel
theorem d_A_payloadIsSecret_7 : decode b_A_payloadIsSecret 7 = .ok (.istore_n 1, 1) := by decide +kernel
theorem d_A_payloadIsSecret_8 : decode b_A_payloadIsSecret 8 = .ok (.iconst 0, 1) := by decide +kernel
theorem d_A_payloadIsSecret_9 : decode b_A_payloadIsSecret 9 = .ok (.istore_n 2, 1) := by decide +kernel
theorem d_A_payloadIsSecret_10 : decode b_A_payloadIsSecret 10 = .ok (.iload_n 2, 1) := by decide +kernel
theorem d_A_payloadIsSecret_11 : decode b_A_payloadIsSecret 11 = .ok (.iconst 2, 1) := by decide +kernel
theorem d_A_payloadIsSecret_12 : decode b_A_payloadIsSecret 12 = .ok (.if_icmp .ge 32, 3) := by decide +kernel
theorem d_A_payloadIsSecret_15 : decode b_A_payloadIsSecret 15 = .ok (.aload_n 0, 1) := by decide +kernel
theorem d_A_payloadIsSecret_16 : decode b_A_payloadIsSecret 16 = .ok (.getfield 10, 3) := by decide +kernel
theorem d_A_payloadIsSecret_19 : decode b_A_payloadIsSecret 19 = .ok (.iload_n 1, 1) := by decide +kernel
theorem d_A_payloadIsSecret_20 : decode b_A_payloadIsSecret 20 = .ok (.iload_n 2, 1) := by decide +kernel
theorem d_A_payloadIsSecret_21 : decode b_A_payloadIsSecret 21 = .ok (.iadd, 1) := by decide +kernel
theorem d_A_payloadIsSecret_22 : decode b_A_payloadIsSecret 22 = .ok (.invokevirtual 97, 3) := by decide +kernel
theorem d_A_payloadIsSecret_25 : decode b_A_payloadIsSecret 25 = .ok (.aload_n 0, 1) := by decide +kernel
theorem d_A_payloadIsSecret_26 : decode b_A_payloadIsSecret 26 = .ok (.getfield 19, 3) := by decide +kernel
theorem d_A_payloadIsSecret_29 : decode b_A_payloadIsSecret 29 = .ok (.iload_n 2, 1) := by decide +kernel
theorem d_A_payloadIsSecret_30 : decode b_A_payloadIsSecret 30 = .ok (.invokevirtual 192, 3) := by decide +kernel
theorem d_A_payloadIsSecret_33 : decode b_A_payloadIsSecret 33 = .ok (.if_icmp .eq 5, 3) := by decide +kernel
theorem d_A_payloadIsSecret_36 : decode b_A_payloadIsSecret 36 = .ok (.iconst 0, 1) := by decide +kernel
theorem d_A_payloadIsSecret_37 : decode b_A_payloadIsSecret 37 = .ok (.ireturn, 1) := by decide +kernel
theorem d_A_payloadIsSecret_38 : decode b_A_payloadIsSecret 38 = .ok (.iinc 2 1, 3) := by decide +kernel
theorem d_A_payloadIsSecret_41 : decode b_A_payloadIsSecret 41 = .ok (.goto (-31), 3) := by decide +kernel
theorem d_A_payloadIsSecret_44 : decode b_A_payloadIsSecret 44 = .ok (.iconst 1, 1) := by decide +kernel
theorem d_A_payloadIsSecret_45 : decode b_A_payloadIsSecret 45 = .ok (.ireturn, 1) := by decide +kernel
def fA_payloadIsSecret_L10 : Nat → StX → Int32 → Int32 → Option (Int32)
  | 0, _, _, _ => none
  | n + 1, (mc, mw, mf, mz, ib, ic, xa, xg, xl, xo, xs, xv, xp), v1, v2 => if 2 ≤ v2 then (some 1) else (bd1 (fM_at (mc, mw, mf, mz) (v1 + v2)) fun r3 => bd1 (fI_payload (ib, ic) v2) fun r4 => if r3 = r4 then (fA_payloadIsSecret_L10 n (mc, mw, mf, mz, ib, ic, xa, xg, xl, xo, xs, xv, xp) v1 (v2 + 1)) else (some 0))
def fA_payloadIsSecret (σ : StX) : Option (Int32) := match σ with | (mc, mw, mf, mz, ib, ic, xa, xg, xl, xo, xs, xv, xp) => bd1 (fA_secretPlace xs) fun r1 => fA_payloadIsSecret_L10 300 (mc, mw, mf, mz, ib, ic, xa, xg, xl, xo, xs, xv, xp) r1 0
set_option maxHeartbeats 4000000 in
set_option maxRecDepth 100000 in
theorem ctA_payloadIsSecret (l : Launch) (dC : Nat → ClassId) (dI : Nat → Nat → Nat) (cI : ClassId) (ha hm qc hi qb qa qg : Nat) (mc : Nat → Int32) (mw : Int32) (mf : Int32) (mz : Int32) (ib : Nat → Int32) (ic : Int32) (xa : Nat → Int32) (xg : Nat → Int32) (xl : Int32) (xo : Int32) (xs : Int32) (xv : Int32) (xp : Int32) (r : Int32) (hf : fA_payloadIsSecret (mc, mw, mf, mz, ib, ic, xa, xg, xl, xo, xs, xv, xp) = some r) : CtZ l y_A_payloadIsSecret w_A_payloadIsSecret ({ frames := 1, cells := 0, slots := 0, locals := 21 }) (dC, dI) [(cI, .int)] [.ref ha] [(ha, .inr (0, [.ref hm, .ref hi, .ref qa, .ref qg, .int xl, .int xo, .int xs, .int xv, .int xp])), (hm, .inr (1, [.ref qc, .int mw, .int mf, .int mz])), (qc, .inl (cI, 149, .inl mc)), (hi, .inr (2, [.ref qb, .int ic])), (qb, .inl (cI, 24, .inl ib)), (qa, .inl (cI, 16, .inl xa)), (qg, .inl (cI, 4, .inl xg))] [(ha, .inr (0, [.ref hm, .ref hi, .ref qa, .ref qg, .int xl, .int xo, .int xs, .int xv, .int xp])), (hm, .inr (1, [.ref qc, .int mw, .int mf, .int mz])), (qc, .inl (cI, 149, .inl mc)), (hi, .inr (2, [.ref qb, .int ic])), (qb, .inl (cI, 24, .inl ib)), (qa, .inl (cI, 16, .inl xa)), (qg, .inl (cI, 4, .inl xg))] r := by
  intro sz
  refine Met.ofW (cc := b_A_payloadIsSecret) (maxL := 3) (ret := some .boolean) (by decide) rfl ?_
  intro p e s m args below meth c s₁ B hml hv
  obtain ⟨rfl, hsz, hP, hK, hD0⟩ := hv
  have hx := B.exec
  have hb := B.bytes
  have hr := B.returns
  have hts := atoms_spec (ws := w_A_payloadIsSecret) B.pre
  have hown : s.vm.findClass R_A = some m.cls := findClass_of_methodNamed B.named
  have hlocks := B.notSynchronized
  subst hsz
  have hD := hD0.self (sz := s.heap.size)
  generalize hAe : va_A [(ha, .inr (0, [.ref hm, .ref hi, .ref qa, .ref qg, .int xl, .int xo, .int xs, .int xv, .int xp])), (hm, .inr (1, [.ref qc, .int mw, .int mf, .int mz])), (qc, .inl (cI, 149, .inl mc)), (hi, .inr (2, [.ref qb, .int ic])), (qb, .inl (cI, 24, .inl ib)), (qa, .inl (cI, 16, .inl xa)), (qg, .inl (cI, 4, .inl xg))] s.heap.size = A at hD ⊢
  have hA : ∀ q : Nat, s.heap.size ≤ q → A q := fun q h => by rw [← hAe]; exact Or.inr h
  have hS : va_S A s.heap s.heap [] := va_S.rf
  have hP : va_P (dC, dI) vwCl [(ha, .inr (0, [.ref hm, .ref hi, .ref qa, .ref qg, .int xl, .int xo, .int xs, .int xv, .int xp])), (hm, .inr (1, [.ref qc, .int mw, .int mf, .int mz])), (qc, .inl (cI, 149, .inl mc)), (hi, .inr (2, [.ref qb, .int ic])), (qb, .inl (cI, 24, .inl ib)), (qa, .inl (cI, 16, .inl xa)), (qg, .inl (cI, 4, .inl xg))] s.heap := hP
  have hl := lv_entry ([.ref ha]) (n := 3) (Nat.le_of_ble_eq_true rfl)
  rw [lg_entry_eq]
  generalize (lg_sl ([.ref ha]) ++ List.replicate (3 - (lg_sl ([.ref ha])).length) Slot.unset).toArray = ls at hl ⊢
  have hl : lv_has ls 3 [(0, .ref ha)] := hl
  have inA : ∀ w ∈ u_ws R_A F_A 9, w ∈ w_A_payloadIsSecret := fun w h => List.mem_cons_of_mem _ (in_A w h)
  have kf10 := hts _ (List.mem_cons_of_mem _ wq91)
  have kf19 := hts _ (List.mem_cons_of_mem _ wq92)
  have kf30 := hts _ (List.mem_cons_of_mem _ wq97)
  rw [fA_payloadIsSecret] at hf
  refine lv_aload_n hx hb d_A_payloadIsSecret_0 rfl (lv_at hl 0 rfl) ?_
  refine va_get (D := (dC, dI)) (ci := 0) (v := .int xs) (C := R_A) (T := F_A) (N := 9) hx hb hts inA hown hK hP 0 rfl rfl 6 (by decide) kf30 (fun _ h9 => h9) rfl d_A_payloadIsSecret_1 ?_
  obtain ⟨r1, hg, hf⟩ := bd1_some hf
  refine xsi (ctA_secretPlace l dC dI cI xs r1 hg) ⟨hx, hb, hml, hown, hts⟩ (va_cwS 1 hts (gS wq242 wq243 wq43 wq244) rfl rfl rfl (by decide +kernel) ⟨Nat.le_of_ble_eq_true rfl, Nat.le_of_ble_eq_true rfl⟩) hK hP hD hS hA rfl hl.1 rfl (Nat.le_of_ble_eq_true rfl) d_A_payloadIsSecret_4 ⟨Nat.zero_le _, Nat.zero_le _⟩ (fun H locs hP hD hS => ?_)
  refine lv_istore_n hx hb d_A_payloadIsSecret_7 rfl hl (by decide) rfl (fun ls hl => ?_)
  have hl : lv_has ls 3 [(1, .int r1), (0, .ref ha)] := hl
  refine lv_iconst (v := 0) hx hb d_A_payloadIsSecret_8 (by decide) ?_
  refine lv_istore_n hx hb d_A_payloadIsSecret_9 rfl hl (by decide) rfl (fun ls hl => ?_)
  have hl : lv_has ls 3 [(2, .int 0), (1, .int r1), (0, .ref ha)] := hl
  have hl := lv_sub (l' := [(0, .ref ha), (1, .int r1), (2, .int 0)]) hl [2, 1, 0] rfl
  refine xloop (σ := (Int32) × (Int32)) (pc := 10) (fun n x H locs ls => va_P (dC, dI) vwCl [(ha, .inr (0, [.ref hm, .ref hi, .ref qa, .ref qg, .int xl, .int xo, .int xs, .int xv, .int xp])), (hm, .inr (1, [.ref qc, .int mw, .int mf, .int mz])), (qc, .inl (cI, 149, .inl mc)), (hi, .inr (2, [.ref qb, .int ic])), (qb, .inl (cI, 24, .inl ib)), (qa, .inl (cI, 16, .inl xa)), (qg, .inl (cI, 4, .inl xg))] H ∧ va_D A [(ha, .inr (0, [.ref hm, .ref hi, .ref qa, .ref qg, .int xl, .int xo, .int xs, .int xv, .int xp])), (hm, .inr (1, [.ref qc, .int mw, .int mf, .int mz])), (qc, .inl (cI, 149, .inl mc)), (hi, .inr (2, [.ref qb, .int ic])), (qb, .inl (cI, 24, .inl ib)), (qa, .inl (cI, 16, .inl xa)), (qg, .inl (cI, 4, .inl xg))] ∧ va_S A s.heap H locs ∧ lv_has ls 3 [(0, .ref ha), (1, .int (x.1)), (2, .int (x.2))] ∧ fA_payloadIsSecret_L10 n (mc, mw, mf, mz, ib, ic, xa, xg, xl, xo, xs, xv, xp) x.1 x.2 = some r) ?_ (fun x H locs ls h => by have h9 := h.2.2.2.2; rw [fA_payloadIsSecret_L10] at h9; cases h9) 300 (r1, 0) _ _ ls ⟨hP, hD, hS, hl, hf⟩
  intro n ih x H locs ls hI
  obtain ⟨v1, v2⟩ := x
  obtain ⟨hP, hD, hS, hl, hf⟩ := hI
  have hP : va_P (dC, dI) vwCl [(ha, .inr (0, [.ref hm, .ref hi, .ref qa, .ref qg, .int xl, .int xo, .int xs, .int xv, .int xp])), (hm, .inr (1, [.ref qc, .int mw, .int mf, .int mz])), (qc, .inl (cI, 149, .inl mc)), (hi, .inr (2, [.ref qb, .int ic])), (qb, .inl (cI, 24, .inl ib)), (qa, .inl (cI, 16, .inl xa)), (qg, .inl (cI, 4, .inl xg))] H := hP
  have hD : va_D A [(ha, .inr (0, [.ref hm, .ref hi, .ref qa, .ref qg, .int xl, .int xo, .int xs, .int xv, .int xp])), (hm, .inr (1, [.ref qc, .int mw, .int mf, .int mz])), (qc, .inl (cI, 149, .inl mc)), (hi, .inr (2, [.ref qb, .int ic])), (qb, .inl (cI, 24, .inl ib)), (qa, .inl (cI, 16, .inl xa)), (qg, .inl (cI, 4, .inl xg))] := hD
  have hl : lv_has ls 3 [(0, .ref ha), (1, .int v1), (2, .int v2)] := hl
  rw [fA_payloadIsSecret_L10] at hf
  refine lv_iload_n hx hb d_A_payloadIsSecret_10 rfl (lv_at hl 2 rfl) ?_
  refine lv_iconst (v := 2) hx hb d_A_payloadIsSecret_11 (by decide) ?_
  refine lv_icmp_ge (tgt := 44) hx hb d_A_payloadIsSecret_12 rfl (fun hc2 => ?_) (fun hc2 => ?_)
  · have hf := ift hf hc2
    refine lv_iconst (v := 1) hx hb d_A_payloadIsSecret_44 (by decide) ?_
    have e1_ := lf1 hf
    subst e1_
    have hP9 := hP.sub (ws' := [(ha, .inr (0, [.ref hm, .ref hi, .ref qa, .ref qg, .int xl, .int xo, .int xs, .int xv, .int xp])), (hm, .inr (1, [.ref qc, .int mw, .int mf, .int mz])), (qc, .inl (cI, 149, .inl mc)), (hi, .inr (2, [.ref qb, .int ic])), (qb, .inl (cI, 24, .inl ib)), (qa, .inl (cI, 16, .inl xa)), (qg, .inl (cI, 4, .inl xg))]) [0, 1, 2, 3, 4, 5, 6] rfl
    have hD9 := hD.sub (ws' := [(ha, .inr (0, [.ref hm, .ref hi, .ref qa, .ref qg, .int xl, .int xo, .int xs, .int xv, .int xp])), (hm, .inr (1, [.ref qc, .int mw, .int mf, .int mz])), (qc, .inl (cI, 149, .inl mc)), (hi, .inr (2, [.ref qb, .int ic])), (qb, .inl (cI, 24, .inl ib)), (qa, .inl (cI, 16, .inl xa)), (qg, .inl (cI, 4, .inl xg))]) [0, 1, 2, 3, 4, 5, 6] (by decide) rfl
    exact W.zret (v := 1) (ty := .boolean) hx hb hr rfl (fun t ht hW => ⟨⟨1, (), rfl, ⟨rfl, rfl⟩, by rw [ht]; exact hP9, va_K.moved hW.alike hK, hD9⟩, hS.F ht⟩) hS.2.2 d_A_payloadIsSecret_45
  have hf := ifn hf hc2
  refine lv_aload_n hx hb d_A_payloadIsSecret_15 rfl (lv_at hl 0 rfl) ?_
  refine va_get (D := (dC, dI)) (ci := 0) (v := .ref hm) (C := R_A) (T := F_A) (N := 9) hx hb hts inA hown hK hP 0 rfl rfl 0 (by decide) kf10 (fun _ h9 => h9) rfl d_A_payloadIsSecret_16 ?_
  refine lv_iload_n hx hb d_A_payloadIsSecret_19 rfl (lv_at hl 1 rfl) ?_
  refine lv_iload_n hx hb d_A_payloadIsSecret_20 rfl (lv_at hl 2 rfl) ?_
  refine lv_iadd hx hb d_A_payloadIsSecret_21 ?_
  obtain ⟨r3, hg, hf⟩ := bd1_some hf
  refine xci (wr := [(ha, .inr (0, [.ref hm, .ref hi, .ref qa, .ref qg, .int xl, .int xo, .int xs, .int xv, .int xp])), (hi, .inr (2, [.ref qb, .int ic])), (qb, .inl (cI, 24, .inl ib)), (qa, .inl (cI, 16, .inl xa)), (qg, .inl (cI, 4, .inl xg))]) (ctM_at l dC dI cI hm qc mc mw mf mz (v1 + v2) r3 hg) ⟨hx, hb, hml, hown, hts⟩ (cwV (C := R_M) 1 hts (gV wq229 wq230 wq231 wq44 wq232) rfl rfl rfl (by decide +kernel) ⟨Nat.le_of_ble_eq_true rfl, Nat.le_of_ble_eq_true rfl⟩) hK hP hD hS hA [1, 2] [0, 3, 4, 5, 6] rfl rfl rfl rfl (by decide) (ci := 1) (q0 := 1) rfl rfl rfl rfl hl.1 rfl (Nat.le_of_ble_eq_true rfl) d_A_payloadIsSecret_22 ⟨Nat.zero_le _, Nat.zero_le _⟩ (fun H locs hP hD hS => ?_)
  have hP : va_P (dC, dI) vwCl [(ha, .inr (0, [.ref hm, .ref hi, .ref qa, .ref qg, .int xl, .int xo, .int xs, .int xv, .int xp])), (hi, .inr (2, [.ref qb, .int ic])), (qb, .inl (cI, 24, .inl ib)), (qa, .inl (cI, 16, .inl xa)), (qg, .inl (cI, 4, .inl xg)), (hm, .inr (1, [.ref qc, .int mw, .int mf, .int mz])), (qc, .inl (cI, 149, .inl mc))] H := hP
  have hD : va_D A [(ha, .inr (0, [.ref hm, .ref hi, .ref qa, .ref qg, .int xl, .int xo, .int xs, .int xv, .int xp])), (hi, .inr (2, [.ref qb, .int ic])), (qb, .inl (cI, 24, .inl ib)), (qa, .inl (cI, 16, .inl xa)), (qg, .inl (cI, 4, .inl xg)), (hm, .inr (1, [.ref qc, .int mw, .int mf, .int mz])), (qc, .inl (cI, 149, .inl mc))] := hD
  refine lv_aload_n hx hb d_A_payloadIsSecret_25 rfl (lv_at hl 0 rfl) ?_
  refine va_get (D := (dC, dI)) (ci := 0) (v := .ref hi) (C := R_A) (T := F_A) (N := 9) hx hb hts inA hown hK hP 0 rfl rfl 1 (by decide) kf19 (fun _ h9 => h9) rfl d_A_payloadIsSecret_26 ?_
  refine lv_iload_n hx hb d_A_payloadIsSecret_29 rfl (lv_at hl 2 rfl) ?_
  obtain ⟨r4, hg, hf⟩ := bd1_some hf
  refine xci (wr := [(ha, .inr (0, [.ref hm, .ref hi, .ref qa, .ref qg, .int xl, .int xo, .int xs, .int xv, .int xp])), (qa, .inl (cI, 16, .inl xa)), (qg, .inl (cI, 4, .inl xg)), (hm, .inr (1, [.ref qc, .int mw, .int mf, .int mz])), (qc, .inl (cI, 149, .inl mc))]) (ctI_payload l dC dI cI hi qb ib ic v2 r4 hg) ⟨hx, hb, hml, hown, hts⟩ (cwV (C := R_I) 1 hts (gV wq199 wq200 wq201 wq45 wq202) rfl rfl rfl (by decide +kernel) ⟨Nat.le_of_ble_eq_true rfl, Nat.le_of_ble_eq_true rfl⟩) hK hP hD hS hA [1, 2] [0, 3, 4, 5, 6] rfl rfl rfl rfl (by decide) (ci := 2) (q0 := 1) rfl rfl rfl rfl hl.1 rfl (Nat.le_of_ble_eq_true rfl) d_A_payloadIsSecret_30 ⟨Nat.zero_le _, Nat.zero_le _⟩ (fun H locs hP hD hS => ?_)
  have hP : va_P (dC, dI) vwCl [(ha, .inr (0, [.ref hm, .ref hi, .ref qa, .ref qg, .int xl, .int xo, .int xs, .int xv, .int xp])), (qa, .inl (cI, 16, .inl xa)), (qg, .inl (cI, 4, .inl xg)), (hm, .inr (1, [.ref qc, .int mw, .int mf, .int mz])), (qc, .inl (cI, 149, .inl mc)), (hi, .inr (2, [.ref qb, .int ic])), (qb, .inl (cI, 24, .inl ib))] H := hP
  have hD : va_D A [(ha, .inr (0, [.ref hm, .ref hi, .ref qa, .ref qg, .int xl, .int xo, .int xs, .int xv, .int xp])), (qa, .inl (cI, 16, .inl xa)), (qg, .inl (cI, 4, .inl xg)), (hm, .inr (1, [.ref qc, .int mw, .int mf, .int mz])), (qc, .inl (cI, 149, .inl mc)), (hi, .inr (2, [.ref qb, .int ic])), (qb, .inl (cI, 24, .inl ib))] := hD
  refine lv_icmp_eq (tgt := 38) hx hb d_A_payloadIsSecret_33 rfl (fun hc5 => ?_) (fun hc5 => ?_)
  · have hf := ift hf hc5
    refine lv_iinc (v := v2 + 1) hx hb d_A_payloadIsSecret_38 hl (k := 2) rfl rfl (by decide) rfl (fun ls hl => ?_)
    have hl : lv_has ls 3 [(2, .int (v2 + 1)), (0, .ref ha), (1, .int v1)] := hl
    refine lv_goto (tgt := 10) hx hb d_A_payloadIsSecret_41 rfl ?_
    have hP := hP.sub (ws' := [(ha, .inr (0, [.ref hm, .ref hi, .ref qa, .ref qg, .int xl, .int xo, .int xs, .int xv, .int xp])), (hm, .inr (1, [.ref qc, .int mw, .int mf, .int mz])), (qc, .inl (cI, 149, .inl mc)), (hi, .inr (2, [.ref qb, .int ic])), (qb, .inl (cI, 24, .inl ib)), (qa, .inl (cI, 16, .inl xa)), (qg, .inl (cI, 4, .inl xg))]) [0, 3, 4, 5, 6, 1, 2] rfl
    have hD := hD.sub (ws' := [(ha, .inr (0, [.ref hm, .ref hi, .ref qa, .ref qg, .int xl, .int xo, .int xs, .int xv, .int xp])), (hm, .inr (1, [.ref qc, .int mw, .int mf, .int mz])), (qc, .inl (cI, 149, .inl mc)), (hi, .inr (2, [.ref qb, .int ic])), (qb, .inl (cI, 24, .inl ib)), (qa, .inl (cI, 16, .inl xa)), (qg, .inl (cI, 4, .inl xg))]) [0, 3, 4, 5, 6, 1, 2] (by decide) rfl
    have hl := lv_sub (l' := [(0, .ref ha), (1, .int v1), (2, .int (v2 + 1))]) hl [1, 2, 0] rfl
    exact ih (v1, v2 + 1) _ _ ls ⟨hP, hD, hS, hl, hf⟩
  have hf := ifn hf hc5
  refine lv_iconst (v := 0) hx hb d_A_payloadIsSecret_36 (by decide) ?_
  have e1_ := lf1 hf
  subst e1_
  have hP9 := hP.sub (ws' := [(ha, .inr (0, [.ref hm, .ref hi, .ref qa, .ref qg, .int xl, .int xo, .int xs, .int xv, .int xp])), (hm, .inr (1, [.ref qc, .int mw, .int mf, .int mz])), (qc, .inl (cI, 149, .inl mc)), (hi, .inr (2, [.ref qb, .int ic])), (qb, .inl (cI, 24, .inl ib)), (qa, .inl (cI, 16, .inl xa)), (qg, .inl (cI, 4, .inl xg))]) [0, 3, 4, 5, 6, 1, 2] rfl
  have hD9 := hD.sub (ws' := [(ha, .inr (0, [.ref hm, .ref hi, .ref qa, .ref qg, .int xl, .int xo, .int xs, .int xv, .int xp])), (hm, .inr (1, [.ref qc, .int mw, .int mf, .int mz])), (qc, .inl (cI, 149, .inl mc)), (hi, .inr (2, [.ref qb, .int ic])), (qb, .inl (cI, 24, .inl ib)), (qa, .inl (cI, 16, .inl xa)), (qg, .inl (cI, 4, .inl xg))]) [0, 3, 4, 5, 6, 1, 2] (by decide) rfl
  exact W.zret (v := 0) (ty := .boolean) hx hb hr rfl (fun t ht hW => ⟨⟨0, (), rfl, ⟨rfl, rfl⟩, by rw [ht]; exact hP9, va_K.moved hW.alike hK, hD9⟩, hS.F ht⟩) hS.2.2 d_A_payloadIsSecret_37
