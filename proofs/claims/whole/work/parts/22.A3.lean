theorem d_A_verify_0 : decode b_A_verify 0 = .ok (.aload_n 0, 1) := by decide +kernel
theorem d_A_verify_1 : decode b_A_verify 1 = .ok (.getfield 30, 3) := by decide +kernel
theorem d_A_verify_4 : decode b_A_verify 4 = .ok (.invokestatic 101, 3) := by decide +kernel
theorem d_A_verify_7 : decode b_A_verify 7 = .ok (.istore_n 1, 1) := by decide +kernel
theorem d_A_verify_8 : decode b_A_verify 8 = .ok (.aload_n 0, 1) := by decide +kernel
theorem d_A_verify_9 : decode b_A_verify 9 = .ok (.getfield 10, 3) := by decide +kernel
theorem d_A_verify_12 : decode b_A_verify 12 = .ok (.iload_n 1, 1) := by decide +kernel
theorem d_A_verify_13 : decode b_A_verify 13 = .ok (.invokevirtual 97, 3) := by decide +kernel
theorem d_A_verify_16 : decode b_A_verify 16 = .ok (.iconst 1, 1) := by decide +kernel
theorem d_A_verify_17 : decode b_A_verify 17 = .ok (.isub, 1) := by decide +kernel
theorem d_A_verify_18 : decode b_A_verify 18 = .ok (.istore_n 2, 1) := by decide +kernel
theorem d_A_verify_19 : decode b_A_verify 19 = .ok (.iload_n 2, 1) := by decide +kernel
theorem d_A_verify_20 : decode b_A_verify 20 = .ok (.ifCond .ge 7, 3) := by decide +kernel
theorem d_A_verify_23 : decode b_A_verify 23 = .ok (.sipush 27011, 3) := by decide +kernel
theorem d_A_verify_26 : decode b_A_verify 26 = .ok (.ireturn, 1) := by decide +kernel
theorem d_A_verify_27 : decode b_A_verify 27 = .ok (.aload_n 0, 1) := by decide +kernel
theorem d_A_verify_28 : decode b_A_verify 28 = .ok (.getfield 10, 3) := by decide +kernel
theorem d_A_verify_31 : decode b_A_verify 31 = .ok (.iload_n 1, 1) := by decide +kernel
theorem d_A_verify_32 : decode b_A_verify 32 = .ok (.iload_n 2, 1) := by decide +kernel
theorem d_A_verify_33 : decode b_A_verify 33 = .ok (.invokevirtual 198, 3) := by decide +kernel
theorem d_A_verify_36 : decode b_A_verify 36 = .ok (.ifCond .ne 5, 3) := by decide +kernel
theorem d_A_verify_39 : decode b_A_verify 39 = .ok (.iconst (-1), 1) := by decide +kernel
theorem d_A_verify_40 : decode b_A_verify 40 = .ok (.ireturn, 1) := by decide +kernel
theorem d_A_verify_41 : decode b_A_verify 41 = .ok (.aload_n 0, 1) := by decide +kernel
theorem d_A_verify_42 : decode b_A_verify 42 = .ok (.iconst 0, 1) := by decide +kernel
theorem d_A_verify_43 : decode b_A_verify 43 = .ok (.putfield 107, 3) := by decide +kernel
theorem d_A_verify_46 : decode b_A_verify 46 = .ok (.aload_n 0, 1) := by decide +kernel
theorem d_A_verify_47 : decode b_A_verify 47 = .ok (.invokevirtual 201, 3) := by decide +kernel
theorem d_A_verify_50 : decode b_A_verify 50 = .ok (.ifCond .ne 9, 3) := by decide +kernel
theorem d_A_verify_53 : decode b_A_verify 53 = .ok (.sipush 25536, 3) := by decide +kernel
theorem d_A_verify_56 : decode b_A_verify 56 = .ok (.iload_n 2, 1) := by decide +kernel
theorem d_A_verify_57 : decode b_A_verify 57 = .ok (.iadd, 1) := by decide +kernel
theorem d_A_verify_58 : decode b_A_verify 58 = .ok (.ireturn, 1) := by decide +kernel
theorem d_A_verify_59 : decode b_A_verify 59 = .ok (.aload_n 0, 1) := by decide +kernel
theorem d_A_verify_60 : decode b_A_verify 60 = .ok (.getfield 10, 3) := by decide +kernel
theorem d_A_verify_63 : decode b_A_verify 63 = .ok (.iload_n 1, 1) := by decide +kernel
theorem d_A_verify_64 : decode b_A_verify 64 = .ok (.iconst 3, 1) := by decide +kernel
theorem d_A_verify_65 : decode b_A_verify 65 = .ok (.invokevirtual 198, 3) := by decide +kernel
theorem d_A_verify_68 : decode b_A_verify 68 = .ok (.ifCond .ne 5, 3) := by decide +kernel
theorem d_A_verify_71 : decode b_A_verify 71 = .ok (.iconst (-1), 1) := by decide +kernel
theorem d_A_verify_72 : decode b_A_verify 72 = .ok (.ireturn, 1) := by decide +kernel
theorem d_A_verify_73 : decode b_A_verify 73 = .ok (.aload_n 0, 1) := by decide +kernel
theorem d_A_verify_74 : decode b_A_verify 74 = .ok (.iconst 1, 1) := by decide +kernel
theorem d_A_verify_75 : decode b_A_verify 75 = .ok (.putfield 107, 3) := by decide +kernel
theorem d_A_verify_78 : decode b_A_verify 78 = .ok (.ldc 59, 2) := by decide +kernel
theorem d_A_verify_80 : decode b_A_verify 80 = .ok (.ireturn, 1) := by decide +kernel
def fA_verify (σ : StX) : Option (Int32 × StX) := match σ with | (mc, mw, mf, mz, ib, ic, xa, xg, xl, xo, xs, xv, xp) => bd1 (fA_triesPlace xs) fun r1 => bd1 (fM_at (mc, mw, mf, mz) r1) fun r2 => if 0 ≤ (r2 - 1) then (bd5 (fM_write (mc, mw, mf, mz) r1 (r2 - 1)) fun r4 mc4 mw4 mf4 mz4 => if r4 = 0 then (some ((-1), mc4, mw4, mf4, mz4, ib, ic, xa, xg, xl, xo, xs, xv, xp)) else (bd1 (fA_payloadIsSecret (mc4, mw4, mf4, mz4, ib, ic, xa, xg, xl, xo, xs, 0, xp)) fun r6 => if r6 = 0 then (some (25536 + (r2 - 1), mc4, mw4, mf4, mz4, ib, ic, xa, xg, xl, xo, xs, 0, xp)) else (bd5 (fM_write (mc4, mw4, mf4, mz4) r1 3) fun r8 mc8 mw8 mf8 mz8 => if r8 = 0 then (some ((-1), mc8, mw8, mf8, mz8, ib, ic, xa, xg, xl, xo, xs, 0, xp)) else (some (36864, mc8, mw8, mf8, mz8, ib, ic, xa, xg, xl, xo, xs, 1, xp))))) else (some (27011, mc, mw, mf, mz, ib, ic, xa, xg, xl, xo, xs, xv, xp))
set_option maxHeartbeats 4000000 in
set_option maxRecDepth 100000 in
theorem ctA_verify (l : Launch) (dC : Nat → ClassId) (dI : Nat → Nat → Nat) (cI : ClassId) (ha hm qc hi qb qa qg : Nat) (mc : Nat → Int32) (mw : Int32) (mf : Int32) (mz : Int32) (ib : Nat → Int32) (ic : Int32) (xa : Nat → Int32) (xg : Nat → Int32) (xl : Int32) (xo : Int32) (xs : Int32) (xv : Int32) (xp : Int32) (r : Int32) (mc' : Nat → Int32) (mw' : Int32) (mf' : Int32) (mz' : Int32) (ib' : Nat → Int32) (ic' : Int32) (xa' : Nat → Int32) (xg' : Nat → Int32) (xl' : Int32) (xo' : Int32) (xs' : Int32) (xv' : Int32) (xp' : Int32) (hf : fA_verify (mc, mw, mf, mz, ib, ic, xa, xg, xl, xo, xs, xv, xp) = some (r, mc', mw', mf', mz', ib', ic', xa', xg', xl', xo', xs', xv', xp')) : CtI l y_A_verify w_A_verify ({ frames := 2, cells := 0, slots := 0, locals := 43 }) (dC, dI) [(cI, .int)] [.ref ha] [(ha, .inr (0, [.ref hm, .ref hi, .ref qa, .ref qg, .int xl, .int xo, .int xs, .int xv, .int xp])), (hm, .inr (1, [.ref qc, .int mw, .int mf, .int mz])), (qc, .inl (cI, 149, .inl mc)), (hi, .inr (2, [.ref qb, .int ic])), (qb, .inl (cI, 24, .inl ib)), (qa, .inl (cI, 16, .inl xa)), (qg, .inl (cI, 4, .inl xg))] [(ha, .inr (0, [.ref hm, .ref hi, .ref qa, .ref qg, .int xl', .int xo', .int xs', .int xv', .int xp'])), (hm, .inr (1, [.ref qc, .int mw', .int mf', .int mz'])), (qc, .inl (cI, 149, .inl mc')), (hi, .inr (2, [.ref qb, .int ic'])), (qb, .inl (cI, 24, .inl ib')), (qa, .inl (cI, 16, .inl xa')), (qg, .inl (cI, 4, .inl xg'))] r := by
  intro sz
  refine Met.ofW (cc := b_A_verify) (maxL := 3) (ret := some .int) (by decide) rfl ?_
  intro p e s m args below meth c s₁ B hml hv
  obtain ⟨rfl, hsz, hP, hK, hD0⟩ := hv
  have hx := B.exec
  have hb := B.bytes
  have hr := B.returns
  have hts := atoms_spec (ws := w_A_verify) B.pre
  have hown : s.vm.findClass R_A = some m.cls := findClass_of_methodNamed B.named
  have hlocks := B.notSynchronized
  subst hsz
  have hD := hD0.self (sz := s.heap.size)
  generalize hAe : va_A [(ha, .inr (0, [.ref hm, .ref hi, .ref qa, .ref qg, .int xl, .int xo, .int xs, .int xv, .int xp])), (hm, .inr (1, [.ref qc, .int mw, .int mf, .int mz])), (qc, .inl (cI, 149, .inl mc)), (hi, .inr (2, [.ref qb, .int ic])), (qb, .inl (cI, 24, .inl ib)), (qa, .inl (cI, 16, .inl xa)), (qg, .inl (cI, 4, .inl xg))] s.heap.size = A at hD ⊢
  have hA : ∀ q : Nat, s.heap.size ≤ q → A q := fun q h => by rw [← hAe]; exact Or.inr h
  have hS : va_S A s.heap s.heap [] := va_S.rf
  have hP : va_P (dC, dI) vwCl [(ha, .inr (0, [.ref hm, .ref hi, .ref qa, .ref qg, .int xl, .int xo, .int xs, .int xv, .int xp])), (hm, .inr (1, [.ref qc, .int mw, .int mf, .int mz])), (qc, .inl (cI, 149, .inl mc)), (hi, .inr (2, [.ref qb, .int ic])), (qb, .inl (cI, 24, .inl ib)), (qa, .inl (cI, 16, .inl xa)), (qg, .inl (cI, 4, .inl xg))] s.heap := hP
  have hl := lv_entry ([.ref ha]) (n := 3) (Nat.le_of_ble_eq_true rfl)
  rw [lg_entry_eq]
  generalize (lg_sl ([.ref ha]) ++ List.replicate (3 - (lg_sl ([.ref ha])).length) Slot.unset).toArray = ls at hl ⊢
  have hl : lv_has ls 3 [(0, .ref ha)] := hl
  have inA : ∀ w ∈ u_ws R_A F_A 9, w ∈ w_A_verify := fun w h => List.mem_cons_of_mem _ (in_A w h)
  have kc59 := hts _ (List.mem_cons_of_mem _ wq182)
  have kf10 := hts _ (List.mem_cons_of_mem _ wq91)
  have kf107 := hts _ (List.mem_cons_of_mem _ wq98)
  have kf30 := hts _ (List.mem_cons_of_mem _ wq97)
  rw [fA_verify] at hf
  refine lv_aload_n hx hb d_A_verify_0 rfl (lv_at hl 0 rfl) ?_
  refine va_get (D := (dC, dI)) (ci := 0) (v := .int xs) (C := R_A) (T := F_A) (N := 9) hx hb hts inA hown hK hP 0 rfl rfl 6 (by decide) kf30 (fun _ h9 => h9) rfl d_A_verify_1 ?_
  obtain ⟨r1, hg, hf⟩ := bd1_some hf
  refine xsi (ctA_triesPlace l dC dI cI xs r1 hg) ⟨hx, hb, hml, hown, hts⟩ (va_cwS 1 hts (gS wq222 wq223 wq43 wq224) rfl rfl rfl (by decide +kernel) ⟨Nat.le_of_ble_eq_true rfl, Nat.le_of_ble_eq_true rfl⟩) hK hP hD hS hA rfl hl.1 rfl (Nat.le_of_ble_eq_true rfl) d_A_verify_4 ⟨Nat.zero_le _, Nat.zero_le _⟩ (fun H locs hP hD hS => ?_)
  refine lv_istore_n hx hb d_A_verify_7 rfl hl (by decide) rfl (fun ls hl => ?_)
  have hl : lv_has ls 3 [(1, .int r1), (0, .ref ha)] := hl
  refine lv_aload_n hx hb d_A_verify_8 rfl (lv_at hl 1 rfl) ?_
  refine va_get (D := (dC, dI)) (ci := 0) (v := .ref hm) (C := R_A) (T := F_A) (N := 9) hx hb hts inA hown hK hP 0 rfl rfl 0 (by decide) kf10 (fun _ h9 => h9) rfl d_A_verify_9 ?_
  refine lv_iload_n hx hb d_A_verify_12 rfl (lv_at hl 0 rfl) ?_
  obtain ⟨r2, hg, hf⟩ := bd1_some hf
  refine xci (wr := [(ha, .inr (0, [.ref hm, .ref hi, .ref qa, .ref qg, .int xl, .int xo, .int xs, .int xv, .int xp])), (hi, .inr (2, [.ref qb, .int ic])), (qb, .inl (cI, 24, .inl ib)), (qa, .inl (cI, 16, .inl xa)), (qg, .inl (cI, 4, .inl xg))]) (ctM_at l dC dI cI hm qc mc mw mf mz r1 r2 hg) ⟨hx, hb, hml, hown, hts⟩ (cwV (C := R_M) 1 hts (gV wq229 wq230 wq231 wq44 wq232) rfl rfl rfl (by decide +kernel) ⟨Nat.le_of_ble_eq_true rfl, Nat.le_of_ble_eq_true rfl⟩) hK hP hD hS hA [1, 2] [0, 3, 4, 5, 6] rfl rfl rfl rfl (by decide) (ci := 1) (q0 := 1) rfl rfl rfl rfl hl.1 rfl (Nat.le_of_ble_eq_true rfl) d_A_verify_13 ⟨Nat.zero_le _, Nat.zero_le _⟩ (fun H locs hP hD hS => ?_)
  have hP : va_P (dC, dI) vwCl [(ha, .inr (0, [.ref hm, .ref hi, .ref qa, .ref qg, .int xl, .int xo, .int xs, .int xv, .int xp])), (hi, .inr (2, [.ref qb, .int ic])), (qb, .inl (cI, 24, .inl ib)), (qa, .inl (cI, 16, .inl xa)), (qg, .inl (cI, 4, .inl xg)), (hm, .inr (1, [.ref qc, .int mw, .int mf, .int mz])), (qc, .inl (cI, 149, .inl mc))] H := hP
  have hD : va_D A [(ha, .inr (0, [.ref hm, .ref hi, .ref qa, .ref qg, .int xl, .int xo, .int xs, .int xv, .int xp])), (hi, .inr (2, [.ref qb, .int ic])), (qb, .inl (cI, 24, .inl ib)), (qa, .inl (cI, 16, .inl xa)), (qg, .inl (cI, 4, .inl xg)), (hm, .inr (1, [.ref qc, .int mw, .int mf, .int mz])), (qc, .inl (cI, 149, .inl mc))] := hD
  refine lv_iconst (v := 1) hx hb d_A_verify_16 (by decide) ?_
  refine lv_isub hx hb d_A_verify_17 ?_
  refine lv_istore_n hx hb d_A_verify_18 rfl hl (by decide) rfl (fun ls hl => ?_)
  have hl : lv_has ls 3 [(2, .int (r2 - 1)), (1, .int r1), (0, .ref ha)] := hl
  refine lv_iload_n hx hb d_A_verify_19 rfl (lv_at hl 0 rfl) ?_
  refine lv_if_ge (tgt := 27) hx hb d_A_verify_20 rfl (fun hc3 => ?_) (fun hc3 => ?_)
  · have hf := ift hf hc3
    refine lv_aload_n hx hb d_A_verify_27 rfl (lv_at hl 2 rfl) ?_
    refine va_get (D := (dC, dI)) (ci := 0) (v := .ref hm) (C := R_A) (T := F_A) (N := 9) hx hb hts inA hown hK hP 0 rfl rfl 0 (by decide) kf10 (fun _ h9 => h9) rfl d_A_verify_28 ?_
    refine lv_iload_n hx hb d_A_verify_31 rfl (lv_at hl 1 rfl) ?_
    refine lv_iload_n hx hb d_A_verify_32 rfl (lv_at hl 0 rfl) ?_
    obtain ⟨r4, mc4, mw4, mf4, mz4, hg, hf⟩ := bd5_some hf
    refine xcz (wr := [(ha, .inr (0, [.ref hm, .ref hi, .ref qa, .ref qg, .int xl, .int xo, .int xs, .int xv, .int xp])), (hi, .inr (2, [.ref qb, .int ic])), (qb, .inl (cI, 24, .inl ib)), (qa, .inl (cI, 16, .inl xa)), (qg, .inl (cI, 4, .inl xg))]) (ctM_write l dC dI cI hm qc mc mw mf mz r1 (r2 - 1) r4 mc4 mw4 mf4 mz4 hg) ⟨hx, hb, hml, hown, hts⟩ (cwV (C := R_M) 2 hts (gV wq237 wq215 wq216 wq44 wq217) rfl rfl rfl (by decide +kernel) ⟨Nat.le_of_ble_eq_true rfl, Nat.le_of_ble_eq_true rfl⟩) hK hP hD hS hA [5, 6] [0, 1, 2, 3, 4] rfl rfl rfl rfl (by decide) (ci := 1) (q0 := 5) rfl rfl rfl rfl hl.1 rfl (Nat.le_of_ble_eq_true rfl) d_A_verify_33 ⟨Nat.zero_le _, Nat.zero_le _⟩ (fun H locs hn4 hP hD hS => ?_)
    have hP : va_P (dC, dI) vwCl [(ha, .inr (0, [.ref hm, .ref hi, .ref qa, .ref qg, .int xl, .int xo, .int xs, .int xv, .int xp])), (hi, .inr (2, [.ref qb, .int ic])), (qb, .inl (cI, 24, .inl ib)), (qa, .inl (cI, 16, .inl xa)), (qg, .inl (cI, 4, .inl xg)), (hm, .inr (1, [.ref qc, .int mw4, .int mf4, .int mz4])), (qc, .inl (cI, 149, .inl mc4))] H := hP
    have hD : va_D A [(ha, .inr (0, [.ref hm, .ref hi, .ref qa, .ref qg, .int xl, .int xo, .int xs, .int xv, .int xp])), (hi, .inr (2, [.ref qb, .int ic])), (qb, .inl (cI, 24, .inl ib)), (qa, .inl (cI, 16, .inl xa)), (qg, .inl (cI, 4, .inl xg)), (hm, .inr (1, [.ref qc, .int mw4, .int mf4, .int mz4])), (qc, .inl (cI, 149, .inl mc4))] := hD
    refine lv_if_ne (tgt := 41) hx hb d_A_verify_36 rfl (fun hc5 => ?_) (fun hc5 => ?_)
    · have hf := ifn hf hc5
      refine lv_aload_n hx hb d_A_verify_41 rfl (lv_at hl 2 rfl) ?_
      refine lv_iconst (v := 0) hx hb d_A_verify_42 (by decide) ?_
      refine va_put (D := (dC, dI)) (ci := 0) (v := .int 0) (ty := .boolean) (C := R_A) (T := F_A) (N := 9) hx hb hts inA t_A t_A_ok n_A hown hK hP hD hS 0 rfl rfl 7 (by decide) kf107 (fun _ h9 => h9) rfl (by decide +kernel) rfl rfl (Nat.le_of_ble_eq_true rfl) d_A_verify_43 (fun H locs hP hD hS => ?_)
      have hP : va_P (dC, dI) vwCl [(ha, .inr (0, [.ref hm, .ref hi, .ref qa, .ref qg, .int xl, .int xo, .int xs, .int 0, .int xp])), (hi, .inr (2, [.ref qb, .int ic])), (qb, .inl (cI, 24, .inl ib)), (qa, .inl (cI, 16, .inl xa)), (qg, .inl (cI, 4, .inl xg)), (hm, .inr (1, [.ref qc, .int mw4, .int mf4, .int mz4])), (qc, .inl (cI, 149, .inl mc4))] H := hP
      have hD : va_D A [(ha, .inr (0, [.ref hm, .ref hi, .ref qa, .ref qg, .int xl, .int xo, .int xs, .int 0, .int xp])), (hi, .inr (2, [.ref qb, .int ic])), (qb, .inl (cI, 24, .inl ib)), (qa, .inl (cI, 16, .inl xa)), (qg, .inl (cI, 4, .inl xg)), (hm, .inr (1, [.ref qc, .int mw4, .int mf4, .int mz4])), (qc, .inl (cI, 149, .inl mc4))] := hD
      refine lv_aload_n hx hb d_A_verify_46 rfl (lv_at hl 2 rfl) ?_
      obtain ⟨r6, hg, hf⟩ := bd1_some hf
      refine xcz (wr := []) (ctA_payloadIsSecret l dC dI cI ha hm qc hi qb qa qg mc4 mw4 mf4 mz4 ib ic xa xg xl xo xs 0 xp r6 hg) ⟨hx, hb, hml, hown, hts⟩ (cwV (C := R_A) 0 hts (gV wq238 wq240 wq5 wq43 wq241) rfl rfl rfl (by decide +kernel) ⟨Nat.le_of_ble_eq_true rfl, Nat.le_of_ble_eq_true rfl⟩) hK hP hD hS hA [0, 5, 6, 1, 2, 3, 4] [] rfl rfl rfl rfl (by decide) (ci := 0) (q0 := 0) rfl rfl rfl rfl hl.1 rfl (Nat.le_of_ble_eq_true rfl) d_A_verify_47 ⟨Nat.zero_le _, Nat.zero_le _⟩ (fun H locs hn6 hP hD hS => ?_)
      have hP : va_P (dC, dI) vwCl [(ha, .inr (0, [.ref hm, .ref hi, .ref qa, .ref qg, .int xl, .int xo, .int xs, .int 0, .int xp])), (hm, .inr (1, [.ref qc, .int mw4, .int mf4, .int mz4])), (qc, .inl (cI, 149, .inl mc4)), (hi, .inr (2, [.ref qb, .int ic])), (qb, .inl (cI, 24, .inl ib)), (qa, .inl (cI, 16, .inl xa)), (qg, .inl (cI, 4, .inl xg))] H := hP
      have hD : va_D A [(ha, .inr (0, [.ref hm, .ref hi, .ref qa, .ref qg, .int xl, .int xo, .int xs, .int 0, .int xp])), (hm, .inr (1, [.ref qc, .int mw4, .int mf4, .int mz4])), (qc, .inl (cI, 149, .inl mc4)), (hi, .inr (2, [.ref qb, .int ic])), (qb, .inl (cI, 24, .inl ib)), (qa, .inl (cI, 16, .inl xa)), (qg, .inl (cI, 4, .inl xg))] := hD
      refine lv_if_ne (tgt := 59) hx hb d_A_verify_50 rfl (fun hc7 => ?_) (fun hc7 => ?_)
      · have hf := ifn hf hc7
        refine lv_aload_n hx hb d_A_verify_59 rfl (lv_at hl 2 rfl) ?_
        refine va_get (D := (dC, dI)) (ci := 0) (v := .ref hm) (C := R_A) (T := F_A) (N := 9) hx hb hts inA hown hK hP 0 rfl rfl 0 (by decide) kf10 (fun _ h9 => h9) rfl d_A_verify_60 ?_
        refine lv_iload_n hx hb d_A_verify_63 rfl (lv_at hl 1 rfl) ?_
        refine lv_iconst (v := 3) hx hb d_A_verify_64 (by decide) ?_
        obtain ⟨r8, mc8, mw8, mf8, mz8, hg, hf⟩ := bd5_some hf
        refine xcz (wr := [(ha, .inr (0, [.ref hm, .ref hi, .ref qa, .ref qg, .int xl, .int xo, .int xs, .int 0, .int xp])), (hi, .inr (2, [.ref qb, .int ic])), (qb, .inl (cI, 24, .inl ib)), (qa, .inl (cI, 16, .inl xa)), (qg, .inl (cI, 4, .inl xg))]) (ctM_write l dC dI cI hm qc mc4 mw4 mf4 mz4 r1 3 r8 mc8 mw8 mf8 mz8 hg) ⟨hx, hb, hml, hown, hts⟩ (cwV (C := R_M) 2 hts (gV wq237 wq215 wq216 wq44 wq217) rfl rfl rfl (by decide +kernel) ⟨Nat.le_of_ble_eq_true rfl, Nat.le_of_ble_eq_true rfl⟩) hK hP hD hS hA [1, 2] [0, 3, 4, 5, 6] rfl rfl rfl rfl (by decide) (ci := 1) (q0 := 1) rfl rfl rfl rfl hl.1 rfl (Nat.le_of_ble_eq_true rfl) d_A_verify_65 ⟨Nat.zero_le _, Nat.zero_le _⟩ (fun H locs hn8 hP hD hS => ?_)
        have hP : va_P (dC, dI) vwCl [(ha, .inr (0, [.ref hm, .ref hi, .ref qa, .ref qg, .int xl, .int xo, .int xs, .int 0, .int xp])), (hi, .inr (2, [.ref qb, .int ic])), (qb, .inl (cI, 24, .inl ib)), (qa, .inl (cI, 16, .inl xa)), (qg, .inl (cI, 4, .inl xg)), (hm, .inr (1, [.ref qc, .int mw8, .int mf8, .int mz8])), (qc, .inl (cI, 149, .inl mc8))] H := hP
        have hD : va_D A [(ha, .inr (0, [.ref hm, .ref hi, .ref qa, .ref qg, .int xl, .int xo, .int xs, .int 0, .int xp])), (hi, .inr (2, [.ref qb, .int ic])), (qb, .inl (cI, 24, .inl ib)), (qa, .inl (cI, 16, .inl xa)), (qg, .inl (cI, 4, .inl xg)), (hm, .inr (1, [.ref qc, .int mw8, .int mf8, .int mz8])), (qc, .inl (cI, 149, .inl mc8))] := hD
        refine lv_if_ne (tgt := 73) hx hb d_A_verify_68 rfl (fun hc9 => ?_) (fun hc9 => ?_)
        · have hf := ifn hf hc9
          refine lv_aload_n hx hb d_A_verify_73 rfl (lv_at hl 2 rfl) ?_
          refine lv_iconst (v := 1) hx hb d_A_verify_74 (by decide) ?_
          refine va_put (D := (dC, dI)) (ci := 0) (v := .int 1) (ty := .boolean) (C := R_A) (T := F_A) (N := 9) hx hb hts inA t_A t_A_ok n_A hown hK hP hD hS 0 rfl rfl 7 (by decide) kf107 (fun _ h9 => h9) rfl (by decide +kernel) rfl rfl (Nat.le_of_ble_eq_true rfl) d_A_verify_75 (fun H locs hP hD hS => ?_)
          have hP : va_P (dC, dI) vwCl [(ha, .inr (0, [.ref hm, .ref hi, .ref qa, .ref qg, .int xl, .int xo, .int xs, .int 1, .int xp])), (hi, .inr (2, [.ref qb, .int ic])), (qb, .inl (cI, 24, .inl ib)), (qa, .inl (cI, 16, .inl xa)), (qg, .inl (cI, 4, .inl xg)), (hm, .inr (1, [.ref qc, .int mw8, .int mf8, .int mz8])), (qc, .inl (cI, 149, .inl mc8))] H := hP
          have hD : va_D A [(ha, .inr (0, [.ref hm, .ref hi, .ref qa, .ref qg, .int xl, .int xo, .int xs, .int 1, .int xp])), (hi, .inr (2, [.ref qb, .int ic])), (qb, .inl (cI, 24, .inl ib)), (qa, .inl (cI, 16, .inl xa)), (qg, .inl (cI, 4, .inl xg)), (hm, .inr (1, [.ref qc, .int mw8, .int mf8, .int mz8])), (qc, .inl (cI, 149, .inl mc8))] := hD
          refine lv_ldc (v := 36864) hx hb hown kc59 d_A_verify_78 ?_
          obtain ⟨e1_, e2_, e3_, e4_, e5_, e6_, e7_, e8_, e9_, e10_, e11_, e12_, e13_, e14_⟩ := lf14 hf
          subst e1_; subst e2_; subst e3_; subst e4_; subst e5_; subst e6_; subst e7_; subst e8_; subst e9_; subst e10_; subst e11_; subst e12_; subst e13_; subst e14_
          have hP9 := hP.sub (ws' := [(ha, .inr (0, [.ref hm, .ref hi, .ref qa, .ref qg, .int xl, .int xo, .int xs, .int 1, .int xp])), (hm, .inr (1, [.ref qc, .int mw8, .int mf8, .int mz8])), (qc, .inl (cI, 149, .inl mc8)), (hi, .inr (2, [.ref qb, .int ic])), (qb, .inl (cI, 24, .inl ib)), (qa, .inl (cI, 16, .inl xa)), (qg, .inl (cI, 4, .inl xg))]) [0, 5, 6, 1, 2, 3, 4] rfl
          have hD9 := hD.sub (ws' := [(ha, .inr (0, [.ref hm, .ref hi, .ref qa, .ref qg, .int xl, .int xo, .int xs, .int 1, .int xp])), (hm, .inr (1, [.ref qc, .int mw8, .int mf8, .int mz8])), (qc, .inl (cI, 149, .inl mc8)), (hi, .inr (2, [.ref qb, .int ic])), (qb, .inl (cI, 24, .inl ib)), (qa, .inl (cI, 16, .inl xa)), (qg, .inl (cI, 4, .inl xg))]) [0, 5, 6, 1, 2, 3, 4] (by decide) rfl
          exact W.iret (v := 36864) hx hb hr (fun t ht hW => ⟨⟨36864, (), rfl, rfl, by rw [ht]; exact hP9, va_K.moved hW.alike hK, hD9⟩, hS.F ht⟩) hS.2.2 d_A_verify_80
        have hf := ift hf hc9
        refine lv_iconst (v := (-1)) hx hb d_A_verify_71 (by decide) ?_
        obtain ⟨e1_, e2_, e3_, e4_, e5_, e6_, e7_, e8_, e9_, e10_, e11_, e12_, e13_, e14_⟩ := lf14 hf
        subst e1_; subst e2_; subst e3_; subst e4_; subst e5_; subst e6_; subst e7_; subst e8_; subst e9_; subst e10_; subst e11_; subst e12_; subst e13_; subst e14_
        have hP9 := hP.sub (ws' := [(ha, .inr (0, [.ref hm, .ref hi, .ref qa, .ref qg, .int xl, .int xo, .int xs, .int 0, .int xp])), (hm, .inr (1, [.ref qc, .int mw8, .int mf8, .int mz8])), (qc, .inl (cI, 149, .inl mc8)), (hi, .inr (2, [.ref qb, .int ic])), (qb, .inl (cI, 24, .inl ib)), (qa, .inl (cI, 16, .inl xa)), (qg, .inl (cI, 4, .inl xg))]) [0, 5, 6, 1, 2, 3, 4] rfl
        have hD9 := hD.sub (ws' := [(ha, .inr (0, [.ref hm, .ref hi, .ref qa, .ref qg, .int xl, .int xo, .int xs, .int 0, .int xp])), (hm, .inr (1, [.ref qc, .int mw8, .int mf8, .int mz8])), (qc, .inl (cI, 149, .inl mc8)), (hi, .inr (2, [.ref qb, .int ic])), (qb, .inl (cI, 24, .inl ib)), (qa, .inl (cI, 16, .inl xa)), (qg, .inl (cI, 4, .inl xg))]) [0, 5, 6, 1, 2, 3, 4] (by decide) rfl
        exact W.iret (v := (-1)) hx hb hr (fun t ht hW => ⟨⟨(-1), (), rfl, rfl, by rw [ht]; exact hP9, va_K.moved hW.alike hK, hD9⟩, hS.F ht⟩) hS.2.2 d_A_verify_72
      have hf := ift hf hc7
      refine lv_sipush (v := 25536) hx hb d_A_verify_53 (by decide) ?_
      refine lv_iload_n hx hb d_A_verify_56 rfl (lv_at hl 0 rfl) ?_
      refine lv_iadd hx hb d_A_verify_57 ?_
      obtain ⟨e1_, e2_, e3_, e4_, e5_, e6_, e7_, e8_, e9_, e10_, e11_, e12_, e13_, e14_⟩ := lf14 hf
      subst e1_; subst e2_; subst e3_; subst e4_; subst e5_; subst e6_; subst e7_; subst e8_; subst e9_; subst e10_; subst e11_; subst e12_; subst e13_; subst e14_
      have hP9 := hP.sub (ws' := [(ha, .inr (0, [.ref hm, .ref hi, .ref qa, .ref qg, .int xl, .int xo, .int xs, .int 0, .int xp])), (hm, .inr (1, [.ref qc, .int mw4, .int mf4, .int mz4])), (qc, .inl (cI, 149, .inl mc4)), (hi, .inr (2, [.ref qb, .int ic])), (qb, .inl (cI, 24, .inl ib)), (qa, .inl (cI, 16, .inl xa)), (qg, .inl (cI, 4, .inl xg))]) [0, 1, 2, 3, 4, 5, 6] rfl
      have hD9 := hD.sub (ws' := [(ha, .inr (0, [.ref hm, .ref hi, .ref qa, .ref qg, .int xl, .int xo, .int xs, .int 0, .int xp])), (hm, .inr (1, [.ref qc, .int mw4, .int mf4, .int mz4])), (qc, .inl (cI, 149, .inl mc4)), (hi, .inr (2, [.ref qb, .int ic])), (qb, .inl (cI, 24, .inl ib)), (qa, .inl (cI, 16, .inl xa)), (qg, .inl (cI, 4, .inl xg))]) [0, 1, 2, 3, 4, 5, 6] (by decide) rfl
      exact W.iret (v := 25536 + (r2 - 1)) hx hb hr (fun t ht hW => ⟨⟨25536 + (r2 - 1), (), rfl, rfl, by rw [ht]; exact hP9, va_K.moved hW.alike hK, hD9⟩, hS.F ht⟩) hS.2.2 d_A_verify_58
    have hf := ift hf hc5
    refine lv_iconst (v := (-1)) hx hb d_A_verify_39 (by decide) ?_
    obtain ⟨e1_, e2_, e3_, e4_, e5_, e6_, e7_, e8_, e9_, e10_, e11_, e12_, e13_, e14_⟩ := lf14 hf
    subst e1_; subst e2_; subst e3_; subst e4_; subst e5_; subst e6_; subst e7_; subst e8_; subst e9_; subst e10_; subst e11_; subst e12_; subst e13_; subst e14_
    have hP9 := hP.sub (ws' := [(ha, .inr (0, [.ref hm, .ref hi, .ref qa, .ref qg, .int xl, .int xo, .int xs, .int xv, .int xp])), (hm, .inr (1, [.ref qc, .int mw4, .int mf4, .int mz4])), (qc, .inl (cI, 149, .inl mc4)), (hi, .inr (2, [.ref qb, .int ic])), (qb, .inl (cI, 24, .inl ib)), (qa, .inl (cI, 16, .inl xa)), (qg, .inl (cI, 4, .inl xg))]) [0, 5, 6, 1, 2, 3, 4] rfl
    have hD9 := hD.sub (ws' := [(ha, .inr (0, [.ref hm, .ref hi, .ref qa, .ref qg, .int xl, .int xo, .int xs, .int xv, .int xp])), (hm, .inr (1, [.ref qc, .int mw4, .int mf4, .int mz4])), (qc, .inl (cI, 149, .inl mc4)), (hi, .inr (2, [.ref qb, .int ic])), (qb, .inl (cI, 24, .inl ib)), (qa, .inl (cI, 16, .inl xa)), (qg, .inl (cI, 4, .inl xg))]) [0, 5, 6, 1, 2, 3, 4] (by decide) rfl
    exact W.iret (v := (-1)) hx hb hr (fun t ht hW => ⟨⟨(-1), (), rfl, rfl, by rw [ht]; exact hP9, va_K.moved hW.alike hK, hD9⟩, hS.F ht⟩) hS.2.2 d_A_verify_40
  have hf := ifn hf hc3
  refine lv_sipush (v := 27011) hx hb d_A_verify_23 (by decide) ?_
  obtain ⟨e1_, e2_, e3_, e4_, e5_, e6_, e7_, e8_, e9_, e10_, e11_, e12_, e13_, e14_⟩ := lf14 hf
  subst e1_; subst e2_; subst e3_; subst e4_; subst e5_; subst e6_; subst e7_; subst e8_; subst e9_; subst e10_; subst e11_; subst e12_; subst e13_; subst e14_
  have hP9 := hP.sub (ws' := [(ha, .inr (0, [.ref hm, .ref hi, .ref qa, .ref qg, .int xl, .int xo, .int xs, .int xv, .int xp])), (hm, .inr (1, [.ref qc, .int mw, .int mf, .int mz])), (qc, .inl (cI, 149, .inl mc)), (hi, .inr (2, [.ref qb, .int ic])), (qb, .inl (cI, 24, .inl ib)), (qa, .inl (cI, 16, .inl xa)), (qg, .inl (cI, 4, .inl xg))]) [0, 5, 6, 1, 2, 3, 4] rfl
  have hD9 := hD.sub (ws' := [(ha, .inr (0, [.ref hm, .ref hi, .ref qa, .ref qg, .int xl, .int xo, .int xs, .int xv, .int xp])), (hm, .inr (1, [.ref qc, .int mw, .int mf, .int mz])), (qc, .inl (cI, 149, .inl mc)), (hi, .inr (2, [.ref qb, .int ic])), (qb, .inl (cI, 24, .inl ib)), (qa, .inl (cI, 16, .inl xa)), (qg, .inl (cI, 4, .inl xg))]) [0, 5, 6, 1, 2, 3, 4] (by decide) rfl
  exact W.iret (v := 27011) hx hb hr (fun t ht hW => ⟨⟨27011, (), rfl, rfl, by rw [ht]; exact hP9, va_K.moved hW.alike hK, hD9⟩, hS.F ht⟩) hS.2.2 d_A_verify_26
theorem d_A_unblock_0 : decode b_A_unblock 0 = .ok (.aload_n 0, 1) := by decide +kernel
theorem d_A_unblock_1 : decode b_A_unblock 1 = .ok (.getfield 30, 3) := by decide +kernel
theorem d_A_unblock_4 : decode b_A_unblock 4 = .ok (.ifCond .eq 7, 3) := by decide +kernel
theorem d_A_unblock_7 : decode b_A_unblock 7 = .ok (.sipush 27010, 3) := by decide +kernel
theorem d_A_unblock_10 : decode b_A_unblock 10 = .ok (.ireturn, 1) := by decide +kernel
theorem d_A_unblock_11 : decode b_A_unblock 11 = .ok (.aload_n 0, 1) := by decide +kernel
theorem d_A_unblock_12 : decode b_A_unblock 12 = .ok (.getfield 10, 3) := by decide +kernel
theorem d_A_unblock_15 : decode b_A_unblock 15 = .ok (.aload_n 0, 1) := by decide +kernel
theorem d_A_unblock_16 : decode b_A_unblock 16 = .ok (.getfield 19, 3) := by decide +kernel
theorem d_A_unblock_19 : decode b_A_unblock 19 = .ok (.invokevirtual 130, 3) := by decide +kernel
theorem d_A_unblock_22 : decode b_A_unblock 22 = .ok (.invokestatic 101, 3) := by decide +kernel
theorem d_A_unblock_25 : decode b_A_unblock 25 = .ok (.iconst 3, 1) := by decide +kernel
theorem d_A_unblock_26 : decode b_A_unblock 26 = .ok (.invokevirtual 198, 3) := by decide +kernel
theorem d_A_unblock_29 : decode b_A_unblock 29 = .ok (.invokestatic 204, 3) := by decide +kernel
theorem d_A_unblock_32 : decode b_A_unblock 32 = .ok (.ireturn, 1) := by decide +kernel
def fA_unblock (σ : StX) : Option (Int32 × StX) := match σ with | (mc, mw, mf, mz, ib, ic, xa, xg, xl, xo, xs, xv, xp) => if xs = 0 then (bd1 (fI_p1 (ib, ic)) fun r2 => bd1 (fA_triesPlace r2) fun r3 => bd5 (fM_write (mc, mw, mf, mz) r3 3) fun r4 mc4 mw4 mf4 mz4 => bd1 (fA_doneIf r4) fun r5 => some (r5, mc4, mw4, mf4, mz4, ib, ic, xa, xg, xl, xo, xs, xv, xp)) else (some (27010, mc, mw, mf, mz, ib, ic, xa, xg, xl, xo, xs, xv, xp))
set_option maxHeartbeats 4000000 in
set_option maxRecDepth 100000 in
theorem ctA_unblock (l : Launch) (dC : Nat → ClassId) (dI : Nat → Nat → Nat) (cI : ClassId) (ha hm qc hi qb qa qg : Nat) (mc : Nat → Int32) (mw : Int32) (mf : Int32) (mz : Int32) (ib : Nat → Int32) (ic : Int32) (xa : Nat → Int32) (xg : Nat → Int32) (xl : Int32) (xo : Int32) (xs : Int32) (xv : Int32) (xp : Int32) (r : Int32) (mc' : Nat → Int32) (mw' : Int32) (mf' : Int32) (mz' : Int32) (ib' : Nat → Int32) (ic' : Int32) (xa' : Nat → Int32) (xg' : Nat → Int32) (xl' : Int32) (xo' : Int32) (xs' : Int32) (xv' : Int32) (xp' : Int32) (hf : fA_unblock (mc, mw, mf, mz, ib, ic, xa, xg, xl, xo, xs, xv, xp) = some (r, mc', mw', mf', mz', ib', ic', xa', xg', xl', xo', xs', xv', xp')) : CtI l y_A_unblock w_A_unblock ({ frames := 1, cells := 0, slots := 0, locals := 22 }) (dC, dI) [(cI, .int)] [.ref ha] [(ha, .inr (0, [.ref hm, .ref hi, .ref qa, .ref qg, .int xl, .int xo, .int xs, .int xv, .int xp])), (hm, .inr (1, [.ref qc, .int mw, .int mf, .int mz])), (qc, .inl (cI, 149, .inl mc)), (hi, .inr (2, [.ref qb, .int ic])), (qb, .inl (cI, 24, .inl ib)), (qa, .inl (cI, 16, .inl xa)), (qg, .inl (cI, 4, .inl xg))] [(ha, .inr (0, [.ref hm, .ref hi, .ref qa, .ref qg, .int xl', .int xo', .int xs', .int xv', .int xp'])), (hm, .inr (1, [.ref qc, .int mw', .int mf', .int mz'])), (qc, .inl (cI, 149, .inl mc')), (hi, .inr (2, [.ref qb, .int ic'])), (qb, .inl (cI, 24, .inl ib')), (qa, .inl (cI, 16, .inl xa')), (qg, .inl (cI, 4, .inl xg'))] r := by
  intro sz
  refine Met.ofW (cc := b_A_unblock) (maxL := 1) (ret := some .int) (by decide) rfl ?_
  intro p e s m args below meth c s₁ B hml hv
  obtain ⟨rfl, hsz, hP, hK, hD0⟩ := hv
  have hx := B.exec
  have hb := B.bytes
  have hr := B.returns
  have hts := atoms_spec (ws := w_A_unblock) B.pre
  have hown : s.vm.findClass R_A = some m.cls := findClass_of_methodNamed B.named
  have hlocks := B.notSynchronized
  subst hsz
  have hD := hD0.self (sz := s.heap.size)
  generalize hAe : va_A [(ha, .inr (0, [.ref hm, .ref hi, .ref qa, .ref qg, .int xl, .int xo, .int xs, .int xv, .int xp])), (hm, .inr (1, [.ref qc, .int mw, .int mf, .int mz])), (qc, .inl (cI, 149, .inl mc)), (hi, .inr (2, [.ref qb, .int ic])), (qb, .inl (cI, 24, .inl ib)), (qa, .inl (cI, 16, .inl xa)), (qg, .inl (cI, 4, .inl xg))] s.heap.size = A at hD ⊢
  have hA : ∀ q : Nat, s.heap.size ≤ q → A q := fun q h => by rw [← hAe]; exact Or.inr h
  have hS : va_S A s.heap s.heap [] := va_S.rf
  have hP : va_P (dC, dI) vwCl [(ha, .inr (0, [.ref hm, .ref hi, .ref qa, .ref qg, .int xl, .int xo, .int xs, .int xv, .int xp])), (hm, .inr (1, [.ref qc, .int mw, .int mf, .int mz])), (qc, .inl (cI, 149, .inl mc)), (hi, .inr (2, [.ref qb, .int ic])), (qb, .inl (cI, 24, .inl ib)), (qa, .inl (cI, 16, .inl xa)), (qg, .inl (cI, 4, .inl xg))] s.heap := hP
  have hl := lv_entry ([.ref ha]) (n := 1) (Nat.le_of_ble_eq_true rfl)
  rw [lg_entry_eq]
  generalize (lg_sl ([.ref ha]) ++ List.replicate (1 - (lg_sl ([.ref ha])).length) Slot.unset).toArray = ls at hl ⊢
  have hl : lv_has ls 1 [(0, .ref ha)] := hl
  have inA : ∀ w ∈ u_ws R_A F_A 9, w ∈ w_A_unblock := fun w h => List.mem_cons_of_mem _ (in_A w h)
  have kf10 := hts _ (List.mem_cons_of_mem _ wq91)
  have kf19 := hts _ (List.mem_cons_of_mem _ wq92)
  have kf30 := hts _ (List.mem_cons_of_mem _ wq97)
  rw [fA_unblock] at hf
  refine lv_aload_n hx hb d_A_unblock_0 rfl (lv_at hl 0 rfl) ?_
  refine va_get (D := (dC, dI)) (ci := 0) (v := .int xs) (C := R_A) (T := F_A) (N := 9) hx hb hts inA hown hK hP 0 rfl rfl 6 (by decide) kf30 (fun _ h9 => h9) rfl d_A_unblock_1 ?_
  refine lv_if_eq (tgt := 11) hx hb d_A_unblock_4 rfl (fun hc1 => ?_) (fun hc1 => ?_)
  · have hf := ift hf hc1
    refine lv_aload_n hx hb d_A_unblock_11 rfl (lv_at hl 0 rfl) ?_
    refine va_get (D := (dC, dI)) (ci := 0) (v := .ref hm) (C := R_A) (T := F_A) (N := 9) hx hb hts inA hown hK hP 0 rfl rfl 0 (by decide) kf10 (fun _ h9 => h9) rfl d_A_unblock_12 ?_
    refine lv_aload_n hx hb d_A_unblock_15 rfl (lv_at hl 0 rfl) ?_
    refine va_get (D := (dC, dI)) (ci := 0) (v := .ref hi) (C := R_A) (T := F_A) (N := 9) hx hb hts inA hown hK hP 0 rfl rfl 1 (by decide) kf19 (fun _ h9 => h9) rfl d_A_unblock_16 ?_
    obtain ⟨r2, hg, hf⟩ := bd1_some hf
    refine xci (wr := [(ha, .inr (0, [.ref hm, .ref hi, .ref qa, .ref qg, .int xl, .int xo, .int xs, .int xv, .int xp])), (hm, .inr (1, [.ref qc, .int mw, .int mf, .int mz])), (qc, .inl (cI, 149, .inl mc)), (qa, .inl (cI, 16, .inl xa)), (qg, .inl (cI, 4, .inl xg))]) (ctI_p1 l dC dI cI hi qb ib ic r2 hg) ⟨hx, hb, hml, hown, hts⟩ (cwV (C := R_I) 0 hts (gV wq164 wq165 wq166 wq45 wq167) rfl rfl rfl (by decide +kernel) ⟨Nat.le_of_ble_eq_true rfl, Nat.le_of_ble_eq_true rfl⟩) hK hP hD hS hA [3, 4] [0, 1, 2, 5, 6] rfl rfl rfl rfl (by decide) (ci := 2) (q0 := 3) rfl rfl rfl rfl hl.1 rfl (Nat.le_of_ble_eq_true rfl) d_A_unblock_19 ⟨Nat.zero_le _, Nat.zero_le _⟩ (fun H locs hP hD hS => ?_)
    have hP : va_P (dC, dI) vwCl [(ha, .inr (0, [.ref hm, .ref hi, .ref qa, .ref qg, .int xl, .int xo, .int xs, .int xv, .int xp])), (hm, .inr (1, [.ref qc, .int mw, .int mf, .int mz])), (qc, .inl (cI, 149, .inl mc)), (qa, .inl (cI, 16, .inl xa)), (qg, .inl (cI, 4, .inl xg)), (hi, .inr (2, [.ref qb, .int ic])), (qb, .inl (cI, 24, .inl ib))] H := hP
    have hD : va_D A [(ha, .inr (0, [.ref hm, .ref hi, .ref qa, .ref qg, .int xl, .int xo, .int xs, .int xv, .int xp])), (hm, .inr (1, [.ref qc, .int mw, .int mf, .int mz])), (qc, .inl (cI, 149, .inl mc)), (qa, .inl (cI, 16, .inl xa)), (qg, .inl (cI, 4, .inl xg)), (hi, .inr (2, [.ref qb, .int ic])), (qb, .inl (cI, 24, .inl ib))] := hD
    obtain ⟨r3, hg, hf⟩ := bd1_some hf
    refine xsi (ctA_triesPlace l dC dI cI r2 r3 hg) ⟨hx, hb, hml, hown, hts⟩ (va_cwS 1 hts (gS wq222 wq223 wq43 wq224) rfl rfl rfl (by decide +kernel) ⟨Nat.le_of_ble_eq_true rfl, Nat.le_of_ble_eq_true rfl⟩) hK hP hD hS hA rfl hl.1 rfl (Nat.le_of_ble_eq_true rfl) d_A_unblock_22 ⟨Nat.zero_le _, Nat.zero_le _⟩ (fun H locs hP hD hS => ?_)
    refine lv_iconst (v := 3) hx hb d_A_unblock_25 (by decide) ?_
    obtain ⟨r4, mc4, mw4, mf4, mz4, hg, hf⟩ := bd5_some hf
    refine xcz (wr := [(ha, .inr (0, [.ref hm, .ref hi, .ref qa, .ref qg, .int xl, .int xo, .int xs, .int xv, .int xp])), (qa, .inl (cI, 16, .inl xa)), (qg, .inl (cI, 4, .inl xg)), (hi, .inr (2, [.ref qb, .int ic])), (qb, .inl (cI, 24, .inl ib))]) (ctM_write l dC dI cI hm qc mc mw mf mz r3 3 r4 mc4 mw4 mf4 mz4 hg) ⟨hx, hb, hml, hown, hts⟩ (cwV (C := R_M) 2 hts (gV wq237 wq215 wq216 wq44 wq217) rfl rfl rfl (by decide +kernel) ⟨Nat.le_of_ble_eq_true rfl, Nat.le_of_ble_eq_true rfl⟩) hK hP hD hS hA [1, 2] [0, 3, 4, 5, 6] rfl rfl rfl rfl (by decide) (ci := 1) (q0 := 1) rfl rfl rfl rfl hl.1 rfl (Nat.le_of_ble_eq_true rfl) d_A_unblock_26 ⟨Nat.zero_le _, Nat.zero_le _⟩ (fun H locs hn4 hP hD hS => ?_)
    have hP : va_P (dC, dI) vwCl [(ha, .inr (0, [.ref hm, .ref hi, .ref qa, .ref qg, .int xl, .int xo, .int xs, .int xv, .int xp])), (qa, .inl (cI, 16, .inl xa)), (qg, .inl (cI, 4, .inl xg)), (hi, .inr (2, [.ref qb, .int ic])), (qb, .inl (cI, 24, .inl ib)), (hm, .inr (1, [.ref qc, .int mw4, .int mf4, .int mz4])), (qc, .inl (cI, 149, .inl mc4))] H := hP
    have hD : va_D A [(ha, .inr (0, [.ref hm, .ref hi, .ref qa, .ref qg, .int xl, .int xo, .int xs, .int xv, .int xp])), (qa, .inl (cI, 16, .inl xa)), (qg, .inl (cI, 4, .inl xg)), (hi, .inr (2, [.ref qb, .int ic])), (qb, .inl (cI, 24, .inl ib)), (hm, .inr (1, [.ref qc, .int mw4, .int mf4, .int mz4])), (qc, .inl (cI, 149, .inl mc4))] := hD
    obtain ⟨r5, hg, hf⟩ := bd1_some hf
    refine xsi (ctA_doneIf l dC dI cI r4 r5 hg) ⟨hx, hb, hml, hown, hts⟩ (va_cwS 1 hts (gS wq263 wq264 wq43 wq265) rfl rfl rfl (by decide +kernel) ⟨Nat.le_of_ble_eq_true rfl, Nat.le_of_ble_eq_true rfl⟩) hK hP hD hS hA rfl hl.1 rfl (Nat.le_of_ble_eq_true rfl) d_A_unblock_29 ⟨Nat.zero_le _, Nat.zero_le _⟩ (fun H locs hP hD hS => ?_)
    obtain ⟨e1_, e2_, e3_, e4_, e5_, e6_, e7_, e8_, e9_, e10_, e11_, e12_, e13_, e14_⟩ := lf14 hf
    subst e1_; subst e2_; subst e3_; subst e4_; subst e5_; subst e6_; subst e7_; subst e8_; subst e9_; subst e10_; subst e11_; subst e12_; subst e13_; subst e14_
    have hP9 := hP.sub (ws' := [(ha, .inr (0, [.ref hm, .ref hi, .ref qa, .ref qg, .int xl, .int xo, .int xs, .int xv, .int xp])), (hm, .inr (1, [.ref qc, .int mw4, .int mf4, .int mz4])), (qc, .inl (cI, 149, .inl mc4)), (hi, .inr (2, [.ref qb, .int ic])), (qb, .inl (cI, 24, .inl ib)), (qa, .inl (cI, 16, .inl xa)), (qg, .inl (cI, 4, .inl xg))]) [0, 5, 6, 3, 4, 1, 2] rfl
    have hD9 := hD.sub (ws' := [(ha, .inr (0, [.ref hm, .ref hi, .ref qa, .ref qg, .int xl, .int xo, .int xs, .int xv, .int xp])), (hm, .inr (1, [.ref qc, .int mw4, .int mf4, .int mz4])), (qc, .inl (cI, 149, .inl mc4)), (hi, .inr (2, [.ref qb, .int ic])), (qb, .inl (cI, 24, .inl ib)), (qa, .inl (cI, 16, .inl xa)), (qg, .inl (cI, 4, .inl xg))]) [0, 5, 6, 3, 4, 1, 2] (by decide) rfl
    exact W.iret (v := r5) hx hb hr (fun t ht hW => ⟨⟨r5, (), rfl, rfl, by rw [ht]; exact hP9, va_K.moved hW.alike hK, hD9⟩, hS.F ht⟩) hS.2.2 d_A_unblock_32
  have hf := ifn hf hc1
  refine lv_sipush (v := 27010) hx hb d_A_unblock_7 (by decide) ?_
  obtain ⟨e1_, e2_, e3_, e4_, e5_, e6_, e7_, e8_, e9_, e10_, e11_, e12_, e13_, e14_⟩ := lf14 hf
  subst e1_; subst e2_; subst e3_; subst e4_; subst e5_; subst e6_; subst e7_; subst e8_; subst e9_; subst e10_; subst e11_; subst e12_; subst e13_; subst e14_
  have hP9 := hP.sub (ws' := [(ha, .inr (0, [.ref hm, .ref hi, .ref qa, .ref qg, .int xl, .int xo, .int xs, .int xv, .int xp])), (hm, .inr (1, [.ref qc, .int mw, .int mf, .int mz])), (qc, .inl (cI, 149, .inl mc)), (hi, .inr (2, [.ref qb, .int ic])), (qb, .inl (cI, 24, .inl ib)), (qa, .inl (cI, 16, .inl xa)), (qg, .inl (cI, 4, .inl xg))]) [0, 1, 2, 3, 4, 5, 6] rfl
  have hD9 := hD.sub (ws' := [(ha, .inr (0, [.ref hm, .ref hi, .ref qa, .ref qg, .int xl, .int xo, .int xs, .int xv, .int xp])), (hm, .inr (1, [.ref qc, .int mw, .int mf, .int mz])), (qc, .inl (cI, 149, .inl mc)), (hi, .inr (2, [.ref qb, .int ic])), (qb, .inl (cI, 24, .inl ib)), (qa, .inl (cI, 16, .inl xa)), (qg, .inl (cI, 4, .inl xg))]) [0, 1, 2, 3, 4, 5, 6] (by decide) rfl
  exact W.iret (v := 27010) hx hb hr (fun t ht hW => ⟨⟨27010, (), rfl, rfl, by rw [ht]; exact hP9, va_K.moved hW.alike hK, hD9⟩, hS.F ht⟩) hS.2.2 d_A_unblock_10
theorem d_A_read_0 : decode b_A_read 0 = .ok (.aload_n 0, 1) := by decide +kernel
theorem d_A_read_1 : decode b_A_read 1 = .ok (.getfield 19, 3) := by decide +kernel
theorem d_A_read_4 : decode b_A_read 4 = .ok (.invokevirtual 133, 3) := by decide +kernel
theorem d_A_read_7 : decode b_A_read 7 = .ok (.aload_n 0, 1) := by decide +kernel
theorem d_A_read_8 : decode b_A_read 8 = .ok (.getfield 19, 3) := by decide +kernel
theorem d_A_read_11 : decode b_A_read 11 = .ok (.invokevirtual 208, 3) := by decide +kernel
theorem d_A_read_14 : decode b_A_read 14 = .ok (.iadd, 1) := by decide +kernel
theorem d_A_read_15 : decode b_A_read 15 = .ok (.bipush 16, 2) := by decide +kernel
theorem d_A_read_17 : decode b_A_read 17 = .ok (.if_icmp .le 7, 3) := by decide +kernel
theorem d_A_read_20 : decode b_A_read 20 = .ok (.sipush 27392, 3) := by decide +kernel
theorem d_A_read_23 : decode b_A_read 23 = .ok (.ireturn, 1) := by decide +kernel
theorem d_A_read_24 : decode b_A_read 24 = .ok (.aload_n 0, 1) := by decide +kernel
theorem d_A_read_25 : decode b_A_read 25 = .ok (.aload_n 0, 1) := by decide +kernel
theorem d_A_read_26 : decode b_A_read 26 = .ok (.getfield 30, 3) := by decide +kernel
theorem d_A_read_29 : decode b_A_read 29 = .ok (.aload_n 0, 1) := by decide +kernel
theorem d_A_read_30 : decode b_A_read 30 = .ok (.getfield 19, 3) := by decide +kernel
theorem d_A_read_33 : decode b_A_read 33 = .ok (.invokevirtual 133, 3) := by decide +kernel
theorem d_A_read_36 : decode b_A_read 36 = .ok (.invokestatic 93, 3) := by decide +kernel
theorem d_A_read_39 : decode b_A_read 39 = .ok (.aload_n 0, 1) := by decide +kernel
theorem d_A_read_40 : decode b_A_read 40 = .ok (.getfield 19, 3) := by decide +kernel
theorem d_A_read_43 : decode b_A_read 43 = .ok (.invokevirtual 208, 3) := by decide +kernel
theorem d_A_read_46 : decode b_A_read 46 = .ok (.invokevirtual 195, 3) := by decide +kernel
theorem d_A_read_49 : decode b_A_read 49 = .ok (.ireturn, 1) := by decide +kernel
def fA_read (σ : StX) : Option (Int32 × StX) := match σ with | (mc, mw, mf, mz, ib, ic, xa, xg, xl, xo, xs, xv, xp) => bd1 (fI_p2 (ib, ic)) fun r1 => bd1 (fI_le (ib, ic)) fun r2 => if (r1 + r2) ≤ 16 then (bd1 (fI_p2 (ib, ic)) fun r4 => bd1 (fA_dataPlace xs r4) fun r5 => bd1 (fI_le (ib, ic)) fun r6 => bd14 (fA_respond (mc, mw, mf, mz, ib, ic, xa, xg, xl, xo, xs, xv, xp) r5 r6) fun r7 mc7 mw7 mf7 mz7 ib7 ic7 xa7 xg7 xl7 xo7 xs7 xv7 xp7 => some (r7, mc7, mw7, mf7, mz7, ib7, ic7, xa7, xg7, xl7, xo7, xs7, xv7, xp7)) else (some (27392, mc, mw, mf, mz, ib, ic, xa, xg, xl, xo, xs, xv, xp))
set_option maxHeartbeats 4000000 in
set_option maxRecDepth 100000 in
theorem ctA_read (l : Launch) (dC : Nat → ClassId) (dI : Nat → Nat → Nat) (cI : ClassId) (ha hm qc hi qb qa qg : Nat) (mc : Nat → Int32) (mw : Int32) (mf : Int32) (mz : Int32) (ib : Nat → Int32) (ic : Int32) (xa : Nat → Int32) (xg : Nat → Int32) (xl : Int32) (xo : Int32) (xs : Int32) (xv : Int32) (xp : Int32) (r : Int32) (mc' : Nat → Int32) (mw' : Int32) (mf' : Int32) (mz' : Int32) (ib' : Nat → Int32) (ic' : Int32) (xa' : Nat → Int32) (xg' : Nat → Int32) (xl' : Int32) (xo' : Int32) (xs' : Int32) (xv' : Int32) (xp' : Int32) (hf : fA_read (mc, mw, mf, mz, ib, ic, xa, xg, xl, xo, xs, xv, xp) = some (r, mc', mw', mf', mz', ib', ic', xa', xg', xl', xo', xs', xv', xp')) : CtI l y_A_read w_A_read ({ frames := 2, cells := 0, slots := 0, locals := 44 }) (dC, dI) [(cI, .int)] [.ref ha] [(ha, .inr (0, [.ref hm, .ref hi, .ref qa, .ref qg, .int xl, .int xo, .int xs, .int xv, .int xp])), (hm, .inr (1, [.ref qc, .int mw, .int mf, .int mz])), (qc, .inl (cI, 149, .inl mc)), (hi, .inr (2, [.ref qb, .int ic])), (qb, .inl (cI, 24, .inl ib)), (qa, .inl (cI, 16, .inl xa)), (qg, .inl (cI, 4, .inl xg))] [(ha, .inr (0, [.ref hm, .ref hi, .ref qa, .ref qg, .int xl', .int xo', .int xs', .int xv', .int xp'])), (hm, .inr (1, [.ref qc, .int mw', .int mf', .int mz'])), (qc, .inl (cI, 149, .inl mc')), (hi, .inr (2, [.ref qb, .int ic'])), (qb, .inl (cI, 24, .inl ib')), (qa, .inl (cI, 16, .inl xa')), (qg, .inl (cI, 4, .inl xg'))] r := by
  intro sz
  refine Met.ofW (cc := b_A_read) (maxL := 1) (ret := some .int) (by decide) rfl ?_
  intro p e s m args below meth c s₁ B hml hv
  obtain ⟨rfl, hsz, hP, hK, hD0⟩ := hv
  have hx := B.exec
  have hb := B.bytes
  have hr := B.returns
  have hts := atoms_spec (ws := w_A_read) B.pre
  have hown : s.vm.findClass R_A = some m.cls := findClass_of_methodNamed B.named
  have hlocks := B.notSynchronized
  subst hsz
  have hD := hD0.self (sz := s.heap.size)
  generalize hAe : va_A [(ha, .inr (0, [.ref hm, .ref hi, .ref qa, .ref qg, .int xl, .int xo, .int xs, .int xv, .int xp])), (hm, .inr (1, [.ref qc, .int mw, .int mf, .int mz])), (qc, .inl (cI, 149, .inl mc)), (hi, .inr (2, [.ref qb, .int ic])), (qb, .inl (cI, 24, .inl ib)), (qa, .inl (cI, 16, .inl xa)), (qg, .inl (cI, 4, .inl xg))] s.heap.size = A at hD ⊢
  have hA : ∀ q : Nat, s.heap.size ≤ q → A q := fun q h => by rw [← hAe]; exact Or.inr h
  have hS : va_S A s.heap s.heap [] := va_S.rf
  have hP : va_P (dC, dI) vwCl [(ha, .inr (0, [.ref hm, .ref hi, .ref qa, .ref qg, .int xl, .int xo, .int xs, .int xv, .int xp])), (hm, .inr (1, [.ref qc, .int mw, .int mf, .int mz])), (qc, .inl (cI, 149, .inl mc)), (hi, .inr (2, [.ref qb, .int ic])), (qb, .inl (cI, 24, .inl ib)), (qa, .inl (cI, 16, .inl xa)), (qg, .inl (cI, 4, .inl xg))] s.heap := hP
  have hl := lv_entry ([.ref ha]) (n := 1) (Nat.le_of_ble_eq_true rfl)
  rw [lg_entry_eq]
  generalize (lg_sl ([.ref ha]) ++ List.replicate (1 - (lg_sl ([.ref ha])).length) Slot.unset).toArray = ls at hl ⊢
  have hl : lv_has ls 1 [(0, .ref ha)] := hl
  have inA : ∀ w ∈ u_ws R_A F_A 9, w ∈ w_A_read := fun w h => List.mem_cons_of_mem _ (in_A w h)
  have kf19 := hts _ (List.mem_cons_of_mem _ wq92)
  have kf30 := hts _ (List.mem_cons_of_mem _ wq97)
  rw [fA_read] at hf
  refine lv_aload_n hx hb d_A_read_0 rfl (lv_at hl 0 rfl) ?_
  refine va_get (D := (dC, dI)) (ci := 0) (v := .ref hi) (C := R_A) (T := F_A) (N := 9) hx hb hts inA hown hK hP 0 rfl rfl 1 (by decide) kf19 (fun _ h9 => h9) rfl d_A_read_1 ?_
  obtain ⟨r1, hg, hf⟩ := bd1_some hf
  refine xci (wr := [(ha, .inr (0, [.ref hm, .ref hi, .ref qa, .ref qg, .int xl, .int xo, .int xs, .int xv, .int xp])), (hm, .inr (1, [.ref qc, .int mw, .int mf, .int mz])), (qc, .inl (cI, 149, .inl mc)), (qa, .inl (cI, 16, .inl xa)), (qg, .inl (cI, 4, .inl xg))]) (ctI_p2 l dC dI cI hi qb ib ic r1 hg) ⟨hx, hb, hml, hown, hts⟩ (cwV (C := R_I) 0 hts (gV wq168 wq169 wq170 wq45 wq171) rfl rfl rfl (by decide +kernel) ⟨Nat.le_of_ble_eq_true rfl, Nat.le_of_ble_eq_true rfl⟩) hK hP hD hS hA [3, 4] [0, 1, 2, 5, 6] rfl rfl rfl rfl (by decide) (ci := 2) (q0 := 3) rfl rfl rfl rfl hl.1 rfl (Nat.le_of_ble_eq_true rfl) d_A_read_4 ⟨Nat.zero_le _, Nat.zero_le _⟩ (fun H locs hP hD hS => ?_)
  have hP : va_P (dC, dI) vwCl [(ha, .inr (0, [.ref hm, .ref hi, .ref qa, .ref qg, .int xl, .int xo, .int xs, .int xv, .int xp])), (hm, .inr (1, [.ref qc, .int mw, .int mf, .int mz])), (qc, .inl (cI, 149, .inl mc)), (qa, .inl (cI, 16, .inl xa)), (qg, .inl (cI, 4, .inl xg)), (hi, .inr (2, [.ref qb, .int ic])), (qb, .inl (cI, 24, .inl ib))] H := hP
  have hD : va_D A [(ha, .inr (0, [.ref hm, .ref hi, .ref qa, .ref qg, .int xl, .int xo, .int xs, .int xv, .int xp])), (hm, .inr (1, [.ref qc, .int mw, .int mf, .int mz])), (qc, .inl (cI, 149, .inl mc)), (qa, .inl (cI, 16, .inl xa)), (qg, .inl (cI, 4, .inl xg)), (hi, .inr (2, [.ref qb, .int ic])), (qb, .inl (cI, 24, .inl ib))] := hD
  refine lv_aload_n hx hb d_A_read_7 rfl (lv_at hl 0 rfl) ?_
  refine va_get (D := (dC, dI)) (ci := 0) (v := .ref hi) (C := R_A) (T := F_A) (N := 9) hx hb hts inA hown hK hP 0 rfl rfl 1 (by decide) kf19 (fun _ h9 => h9) rfl d_A_read_8 ?_
  obtain ⟨r2, hg, hf⟩ := bd1_some hf
  refine xci (wr := [(ha, .inr (0, [.ref hm, .ref hi, .ref qa, .ref qg, .int xl, .int xo, .int xs, .int xv, .int xp])), (hm, .inr (1, [.ref qc, .int mw, .int mf, .int mz])), (qc, .inl (cI, 149, .inl mc)), (qa, .inl (cI, 16, .inl xa)), (qg, .inl (cI, 4, .inl xg))]) (ctI_le l dC dI cI hi qb ib ic r2 hg) ⟨hx, hb, hml, hown, hts⟩ (cwV (C := R_I) 0 hts (gV wq274 wq275 wq276 wq45 wq277) rfl rfl rfl (by decide +kernel) ⟨Nat.le_of_ble_eq_true rfl, Nat.le_of_ble_eq_true rfl⟩) hK hP hD hS hA [5, 6] [0, 1, 2, 3, 4] rfl rfl rfl rfl (by decide) (ci := 2) (q0 := 5) rfl rfl rfl rfl hl.1 rfl (Nat.le_of_ble_eq_true rfl) d_A_read_11 ⟨Nat.zero_le _, Nat.zero_le _⟩ (fun H locs hP hD hS => ?_)
  have hP : va_P (dC, dI) vwCl [(ha, .inr (0, [.ref hm, .ref hi, .ref qa, .ref qg, .int xl, .int xo, .int xs, .int xv, .int xp])), (hm, .inr (1, [.ref qc, .int mw, .int mf, .int mz])), (qc, .inl (cI, 149, .inl mc)), (qa, .inl (cI, 16, .inl xa)), (qg, .inl (cI, 4, .inl xg)), (hi, .inr (2, [.ref qb, .int ic])), (qb, .inl (cI, 24, .inl ib))] H := hP
  have hD : va_D A [(ha, .inr (0, [.ref hm, .ref hi, .ref qa, .ref qg, .int xl, .int xo, .int xs, .int xv, .int xp])), (hm, .inr (1, [.ref qc, .int mw, .int mf, .int mz])), (qc, .inl (cI, 149, .inl mc)), (qa, .inl (cI, 16, .inl xa)), (qg, .inl (cI, 4, .inl xg)), (hi, .inr (2, [.ref qb, .int ic])), (qb, .inl (cI, 24, .inl ib))] := hD
  refine lv_iadd hx hb d_A_read_14 ?_
  refine lv_bipush (v := 16) hx hb d_A_read_15 (by decide) ?_
  refine lv_icmp_le (tgt := 24) hx hb d_A_read_17 rfl (fun hc3 => ?_) (fun hc3 => ?_)
  · have hf := ift hf hc3
    refine lv_aload_n hx hb d_A_read_24 rfl (lv_at hl 0 rfl) ?_
    refine lv_aload_n hx hb d_A_read_25 rfl (lv_at hl 0 rfl) ?_
    refine va_get (D := (dC, dI)) (ci := 0) (v := .int xs) (C := R_A) (T := F_A) (N := 9) hx hb hts inA hown hK hP 0 rfl rfl 6 (by decide) kf30 (fun _ h9 => h9) rfl d_A_read_26 ?_
    refine lv_aload_n hx hb d_A_read_29 rfl (lv_at hl 0 rfl) ?_
    refine va_get (D := (dC, dI)) (ci := 0) (v := .ref hi) (C := R_A) (T := F_A) (N := 9) hx hb hts inA hown hK hP 0 rfl rfl 1 (by decide) kf19 (fun _ h9 => h9) rfl d_A_read_30 ?_
    obtain ⟨r4, hg, hf⟩ := bd1_some hf
    refine xci (wr := [(ha, .inr (0, [.ref hm, .ref hi, .ref qa, .ref qg, .int xl, .int xo, .int xs, .int xv, .int xp])), (hm, .inr (1, [.ref qc, .int mw, .int mf, .int mz])), (qc, .inl (cI, 149, .inl mc)), (qa, .inl (cI, 16, .inl xa)), (qg, .inl (cI, 4, .inl xg))]) (ctI_p2 l dC dI cI hi qb ib ic r4 hg) ⟨hx, hb, hml, hown, hts⟩ (cwV (C := R_I) 0 hts (gV wq168 wq169 wq170 wq45 wq171) rfl rfl rfl (by decide +kernel) ⟨Nat.le_of_ble_eq_true rfl, Nat.le_of_ble_eq_true rfl⟩) hK hP hD hS hA [5, 6] [0, 1, 2, 3, 4] rfl rfl rfl rfl (by decide) (ci := 2) (q0 := 5) rfl rfl rfl rfl hl.1 rfl (Nat.le_of_ble_eq_true rfl) d_A_read_33 ⟨Nat.zero_le _, Nat.zero_le _⟩ (fun H locs hP hD hS => ?_)
    have hP : va_P (dC, dI) vwCl [(ha, .inr (0, [.ref hm, .ref hi, .ref qa, .ref qg, .int xl, .int xo, .int xs, .int xv, .int xp])), (hm, .inr (1, [.ref qc, .int mw, .int mf, .int mz])), (qc, .inl (cI, 149, .inl mc)), (qa, .inl (cI, 16, .inl xa)), (qg, .inl (cI, 4, .inl xg)), (hi, .inr (2, [.ref qb, .int ic])), (qb, .inl (cI, 24, .inl ib))] H := hP
    have hD : va_D A [(ha, .inr (0, [.ref hm, .ref hi, .ref qa, .ref qg, .int xl, .int xo, .int xs, .int xv, .int xp])), (hm, .inr (1, [.ref qc, .int mw, .int mf, .int mz])), (qc, .inl (cI, 149, .inl mc)), (qa, .inl (cI, 16, .inl xa)), (qg, .inl (cI, 4, .inl xg)), (hi, .inr (2, [.ref qb, .int ic])), (qb, .inl (cI, 24, .inl ib))] := hD
    obtain ⟨r5, hg, hf⟩ := bd1_some hf
    refine xsi (ctA_dataPlace l dC dI cI xs r4 r5 hg) ⟨hx, hb, hml, hown, hts⟩ (va_cwS 2 hts (gS wq278 wq279 wq43 wq280) rfl rfl rfl (by decide +kernel) ⟨Nat.le_of_ble_eq_true rfl, Nat.le_of_ble_eq_true rfl⟩) hK hP hD hS hA rfl hl.1 rfl (Nat.le_of_ble_eq_true rfl) d_A_read_36 ⟨Nat.zero_le _, Nat.zero_le _⟩ (fun H locs hP hD hS => ?_)
    refine lv_aload_n hx hb d_A_read_39 rfl (lv_at hl 0 rfl) ?_
    refine va_get (D := (dC, dI)) (ci := 0) (v := .ref hi) (C := R_A) (T := F_A) (N := 9) hx hb hts inA hown hK hP 0 rfl rfl 1 (by decide) kf19 (fun _ h9 => h9) rfl d_A_read_40 ?_
    obtain ⟨r6, hg, hf⟩ := bd1_some hf
    refine xci (wr := [(ha, .inr (0, [.ref hm, .ref hi, .ref qa, .ref qg, .int xl, .int xo, .int xs, .int xv, .int xp])), (hm, .inr (1, [.ref qc, .int mw, .int mf, .int mz])), (qc, .inl (cI, 149, .inl mc)), (qa, .inl (cI, 16, .inl xa)), (qg, .inl (cI, 4, .inl xg))]) (ctI_le l dC dI cI hi qb ib ic r6 hg) ⟨hx, hb, hml, hown, hts⟩ (cwV (C := R_I) 0 hts (gV wq274 wq275 wq276 wq45 wq277) rfl rfl rfl (by decide +kernel) ⟨Nat.le_of_ble_eq_true rfl, Nat.le_of_ble_eq_true rfl⟩) hK hP hD hS hA [5, 6] [0, 1, 2, 3, 4] rfl rfl rfl rfl (by decide) (ci := 2) (q0 := 5) rfl rfl rfl rfl hl.1 rfl (Nat.le_of_ble_eq_true rfl) d_A_read_43 ⟨Nat.zero_le _, Nat.zero_le _⟩ (fun H locs hP hD hS => ?_)
    have hP : va_P (dC, dI) vwCl [(ha, .inr (0, [.ref hm, .ref hi, .ref qa, .ref qg, .int xl, .int xo, .int xs, .int xv, .int xp])), (hm, .inr (1, [.ref qc, .int mw, .int mf, .int mz])), (qc, .inl (cI, 149, .inl mc)), (qa, .inl (cI, 16, .inl xa)), (qg, .inl (cI, 4, .inl xg)), (hi, .inr (2, [.ref qb, .int ic])), (qb, .inl (cI, 24, .inl ib))] H := hP
    have hD : va_D A [(ha, .inr (0, [.ref hm, .ref hi, .ref qa, .ref qg, .int xl, .int xo, .int xs, .int xv, .int xp])), (hm, .inr (1, [.ref qc, .int mw, .int mf, .int mz])), (qc, .inl (cI, 149, .inl mc)), (qa, .inl (cI, 16, .inl xa)), (qg, .inl (cI, 4, .inl xg)), (hi, .inr (2, [.ref qb, .int ic])), (qb, .inl (cI, 24, .inl ib))] := hD
    obtain ⟨r7, mc7, mw7, mf7, mz7, ib7, ic7, xa7, xg7, xl7, xo7, xs7, xv7, xp7, hg, hf⟩ := bd14_some hf
    refine xci (wr := []) (ctA_respond l dC dI cI ha hm qc hi qb qa qg mc mw mf mz ib ic xa xg xl xo xs xv xp r5 r6 r7 mc7 mw7 mf7 mz7 ib7 ic7 xa7 xg7 xl7 xo7 xs7 xv7 xp7 hg) ⟨hx, hb, hml, hown, hts⟩ (cwV (C := R_A) 2 hts (gV wq225 wq227 wq3 wq43 wq228) rfl rfl rfl (by decide +kernel) ⟨Nat.le_of_ble_eq_true rfl, Nat.le_of_ble_eq_true rfl⟩) hK hP hD hS hA [0, 1, 2, 5, 6, 3, 4] [] rfl rfl rfl rfl (by decide) (ci := 0) (q0 := 0) rfl rfl rfl rfl hl.1 rfl (Nat.le_of_ble_eq_true rfl) d_A_read_46 ⟨Nat.zero_le _, Nat.zero_le _⟩ (fun H locs hP hD hS => ?_)
    have hP : va_P (dC, dI) vwCl [(ha, .inr (0, [.ref hm, .ref hi, .ref qa, .ref qg, .int xl7, .int xo7, .int xs7, .int xv7, .int xp7])), (hm, .inr (1, [.ref qc, .int mw7, .int mf7, .int mz7])), (qc, .inl (cI, 149, .inl mc7)), (hi, .inr (2, [.ref qb, .int ic7])), (qb, .inl (cI, 24, .inl ib7)), (qa, .inl (cI, 16, .inl xa7)), (qg, .inl (cI, 4, .inl xg7))] H := hP
    have hD : va_D A [(ha, .inr (0, [.ref hm, .ref hi, .ref qa, .ref qg, .int xl7, .int xo7, .int xs7, .int xv7, .int xp7])), (hm, .inr (1, [.ref qc, .int mw7, .int mf7, .int mz7])), (qc, .inl (cI, 149, .inl mc7)), (hi, .inr (2, [.ref qb, .int ic7])), (qb, .inl (cI, 24, .inl ib7)), (qa, .inl (cI, 16, .inl xa7)), (qg, .inl (cI, 4, .inl xg7))] := hD
    obtain ⟨e1_, e2_, e3_, e4_, e5_, e6_, e7_, e8_, e9_, e10_, e11_, e12_, e13_, e14_⟩ := lf14 hf
    subst e1_; subst e2_; subst e3_; subst e4_; subst e5_; subst e6_; subst e7_; subst e8_; subst e9_; subst e10_; subst e11_; subst e12_; subst e13_; subst e14_
    have hP9 := hP.sub (ws' := [(ha, .inr (0, [.ref hm, .ref hi, .ref qa, .ref qg, .int xl7, .int xo7, .int xs7, .int xv7, .int xp7])), (hm, .inr (1, [.ref qc, .int mw7, .int mf7, .int mz7])), (qc, .inl (cI, 149, .inl mc7)), (hi, .inr (2, [.ref qb, .int ic7])), (qb, .inl (cI, 24, .inl ib7)), (qa, .inl (cI, 16, .inl xa7)), (qg, .inl (cI, 4, .inl xg7))]) [0, 1, 2, 3, 4, 5, 6] rfl
    have hD9 := hD.sub (ws' := [(ha, .inr (0, [.ref hm, .ref hi, .ref qa, .ref qg, .int xl7, .int xo7, .int xs7, .int xv7, .int xp7])), (hm, .inr (1, [.ref qc, .int mw7, .int mf7, .int mz7])), (qc, .inl (cI, 149, .inl mc7)), (hi, .inr (2, [.ref qb, .int ic7])), (qb, .inl (cI, 24, .inl ib7)), (qa, .inl (cI, 16, .inl xa7)), (qg, .inl (cI, 4, .inl xg7))]) [0, 1, 2, 3, 4, 5, 6] (by decide) rfl
    exact W.iret (v := r7) hx hb hr (fun t ht hW => ⟨⟨r7, (), rfl, rfl, by rw [ht]; exact hP9, va_K.moved hW.alike hK, hD9⟩, hS.F ht⟩) hS.2.2 d_A_read_49
  have hf := ifn hf hc3
  refine lv_sipush (v := 27392) hx hb d_A_read_20 (by decide) ?_
  obtain ⟨e1_, e2_, e3_, e4_, e5_, e6_, e7_, e8_, e9_, e10_, e11_, e12_, e13_, e14_⟩ := lf14 hf
  subst e1_; subst e2_; subst e3_; subst e4_; subst e5_; subst e6_; subst e7_; subst e8_; subst e9_; subst e10_; subst e11_; subst e12_; subst e13_; subst e14_
  have hP9 := hP.sub (ws' := [(ha, .inr (0, [.ref hm, .ref hi, .ref qa, .ref qg, .int xl, .int xo, .int xs, .int xv, .int xp])), (hm, .inr (1, [.ref qc, .int mw, .int mf, .int mz])), (qc, .inl (cI, 149, .inl mc)), (hi, .inr (2, [.ref qb, .int ic])), (qb, .inl (cI, 24, .inl ib)), (qa, .inl (cI, 16, .inl xa)), (qg, .inl (cI, 4, .inl xg))]) [0, 1, 2, 5, 6, 3, 4] rfl
  have hD9 := hD.sub (ws' := [(ha, .inr (0, [.ref hm, .ref hi, .ref qa, .ref qg, .int xl, .int xo, .int xs, .int xv, .int xp])), (hm, .inr (1, [.ref qc, .int mw, .int mf, .int mz])), (qc, .inl (cI, 149, .inl mc)), (hi, .inr (2, [.ref qb, .int ic])), (qb, .inl (cI, 24, .inl ib)), (qa, .inl (cI, 16, .inl xa)), (qg, .inl (cI, 4, .inl xg))]) [0, 1, 2, 5, 6, 3, 4] (by decide) rfl
  exact W.iret (v := 27392) hx hb hr (fun t ht hW => ⟨⟨27392, (), rfl, rfl, by rw [ht]; exact hP9, va_K.moved hW.alike hK, hD9⟩, hS.F ht⟩) hS.2.2 d_A_read_23
theorem d_A_update_0 : decode b_A_update 0 = .ok (.aload_n 0, 1) := by decide +kernel
theorem d_A_update_1 : decode b_A_update 1 = .ok (.getfield 19, 3) := by decide +kernel
theorem d_A_update_4 : decode b_A_update 4 = .ok (.invokevirtual 133, 3) := by decide +kernel
theorem d_A_update_7 : decode b_A_update 7 = .ok (.aload_n 0, 1) := by decide +kernel
theorem d_A_update_8 : decode b_A_update 8 = .ok (.getfield 19, 3) := by decide +kernel
theorem d_A_update_11 : decode b_A_update 11 = .ok (.invokevirtual 123, 3) := by decide +kernel
theorem d_A_update_14 : decode b_A_update 14 = .ok (.iadd, 1) := by decide +kernel
theorem d_A_update_15 : decode b_A_update 15 = .ok (.bipush 16, 2) := by decide +kernel
theorem d_A_update_17 : decode b_A_update 17 = .ok (.if_icmp .le 7, 3) := by decide +kernel
theorem d_A_update_20 : decode b_A_update 20 = .ok (.sipush 27392, 3) := by decide +kernel
theorem d_A_update_23 : decode b_A_update 23 = .ok (.ireturn, 1) := by decide +kernel
theorem d_A_update_24 : decode b_A_update 24 = .ok (.aload_n 0, 1) := by decide +kernel
theorem d_A_update_25 : decode b_A_update 25 = .ok (.aload_n 0, 1) := by decide +kernel
theorem d_A_update_26 : decode b_A_update 26 = .ok (.getfield 30, 3) := by decide +kernel
theorem d_A_update_29 : decode b_A_update 29 = .ok (.aload_n 0, 1) := by decide +kernel
theorem d_A_update_30 : decode b_A_update 30 = .ok (.getfield 19, 3) := by decide +kernel
theorem d_A_update_33 : decode b_A_update 33 = .ok (.invokevirtual 133, 3) := by decide +kernel
theorem d_A_update_36 : decode b_A_update 36 = .ok (.invokestatic 93, 3) := by decide +kernel
theorem d_A_update_39 : decode b_A_update 39 = .ok (.invokevirtual 162, 3) := by decide +kernel
theorem d_A_update_42 : decode b_A_update 42 = .ok (.ireturn, 1) := by decide +kernel
def fA_update (σ : StX) : Option (Int32 × StX) := match σ with | (mc, mw, mf, mz, ib, ic, xa, xg, xl, xo, xs, xv, xp) => bd1 (fI_p2 (ib, ic)) fun r1 => bd1 (fI_lc (ib, ic)) fun r2 => if (r1 + r2) ≤ 16 then (bd1 (fI_p2 (ib, ic)) fun r4 => bd1 (fA_dataPlace xs r4) fun r5 => bd14 (fA_storePayload (mc, mw, mf, mz, ib, ic, xa, xg, xl, xo, xs, xv, xp) r5) fun r6 mc6 mw6 mf6 mz6 ib6 ic6 xa6 xg6 xl6 xo6 xs6 xv6 xp6 => some (r6, mc6, mw6, mf6, mz6, ib6, ic6, xa6, xg6, xl6, xo6, xs6, xv6, xp6)) else (some (27392, mc, mw, mf, mz, ib, ic, xa, xg, xl, xo, xs, xv, xp))
set_option maxHeartbeats 4000000 in
set_option maxRecDepth 100000 in
theorem ctA_update (l : Launch) (dC : Nat → ClassId) (dI : Nat → Nat → Nat) (cI : ClassId) (ha hm qc hi qb qa qg : Nat) (mc : Nat → Int32) (mw : Int32) (mf : Int32) (mz : Int32) (ib : Nat → Int32) (ic : Int32) (xa : Nat → Int32) (xg : Nat → Int32) (xl : Int32) (xo : Int32) (xs : Int32) (xv : Int32) (xp : Int32) (r : Int32) (mc' : Nat → Int32) (mw' : Int32) (mf' : Int32) (mz' : Int32) (ib' : Nat → Int32) (ic' : Int32) (xa' : Nat → Int32) (xg' : Nat → Int32) (xl' : Int32) (xo' : Int32) (xs' : Int32) (xv' : Int32) (xp' : Int32) (hf : fA_update (mc, mw, mf, mz, ib, ic, xa, xg, xl, xo, xs, xv, xp) = some (r, mc', mw', mf', mz', ib', ic', xa', xg', xl', xo', xs', xv', xp')) : CtI l y_A_update w_A_update ({ frames := 4, cells := 0, slots := 0, locals := 91 }) (dC, dI) [(cI, .int)] [.ref ha] [(ha, .inr (0, [.ref hm, .ref hi, .ref qa, .ref qg, .int xl, .int xo, .int xs, .int xv, .int xp])), (hm, .inr (1, [.ref qc, .int mw, .int mf, .int mz])), (qc, .inl (cI, 149, .inl mc)), (hi, .inr (2, [.ref qb, .int ic])), (qb, .inl (cI, 24, .inl ib)), (qa, .inl (cI, 16, .inl xa)), (qg, .inl (cI, 4, .inl xg))] [(ha, .inr (0, [.ref hm, .ref hi, .ref qa, .ref qg, .int xl', .int xo', .int xs', .int xv', .int xp'])), (hm, .inr (1, [.ref qc, .int mw', .int mf', .int mz'])), (qc, .inl (cI, 149, .inl mc')), (hi, .inr (2, [.ref qb, .int ic'])), (qb, .inl (cI, 24, .inl ib')), (qa, .inl (cI, 16, .inl xa')), (qg, .inl (cI, 4, .inl xg'))] r := by
  intro sz
  refine Met.ofW (cc := b_A_update) (maxL := 1) (ret := some .int) (by decide) rfl ?_
  intro p e s m args below meth c s₁ B hml hv
  obtain ⟨rfl, hsz, hP, hK, hD0⟩ := hv
  have hx := B.exec
  have hb := B.bytes
  have hr := B.returns
  have hts := atoms_spec (ws := w_A_update) B.pre
  have hown : s.vm.findClass R_A = some m.cls := findClass_of_methodNamed B.named
  have hlocks := B.notSynchronized
  subst hsz
  have hD := hD0.self (sz := s.heap.size)
  generalize hAe : va_A [(ha, .inr (0, [.ref hm, .ref hi, .ref qa, .ref qg, .int xl, .int xo, .int xs, .int xv, .int xp])), (hm, .inr (1, [.ref qc, .int mw, .int mf, .int mz])), (qc, .inl (cI, 149, .inl mc)), (hi, .inr (2, [.ref qb, .int ic])), (qb, .inl (cI, 24, .inl ib)), (qa, .inl (cI, 16, .inl xa)), (qg, .inl (cI, 4, .inl xg))] s.heap.size = A at hD ⊢
  have hA : ∀ q : Nat, s.heap.size ≤ q → A q := fun q h => by rw [← hAe]; exact Or.inr h
  have hS : va_S A s.heap s.heap [] := va_S.rf
  have hP : va_P (dC, dI) vwCl [(ha, .inr (0, [.ref hm, .ref hi, .ref qa, .ref qg, .int xl, .int xo, .int xs, .int xv, .int xp])), (hm, .inr (1, [.ref qc, .int mw, .int mf, .int mz])), (qc, .inl (cI, 149, .inl mc)), (hi, .inr (2, [.ref qb, .int ic])), (qb, .inl (cI, 24, .inl ib)), (qa, .inl (cI, 16, .inl xa)), (qg, .inl (cI, 4, .inl xg))] s.heap := hP
  have hl := lv_entry ([.ref ha]) (n := 1) (Nat.le_of_ble_eq_true rfl)
  rw [lg_entry_eq]
  generalize (lg_sl ([.ref ha]) ++ List.replicate (1 - (lg_sl ([.ref ha])).length) Slot.unset).toArray = ls at hl ⊢
  have hl : lv_has ls 1 [(0, .ref ha)] := hl
  have inA : ∀ w ∈ u_ws R_A F_A 9, w ∈ w_A_update := fun w h => List.mem_cons_of_mem _ (in_A w h)
  have kf19 := hts _ (List.mem_cons_of_mem _ wq92)
  have kf30 := hts _ (List.mem_cons_of_mem _ wq97)
  rw [fA_update] at hf
  refine lv_aload_n hx hb d_A_update_0 rfl (lv_at hl 0 rfl) ?_
  refine va_get (D := (dC, dI)) (ci := 0) (v := .ref hi) (C := R_A) (T := F_A) (N := 9) hx hb hts inA hown hK hP 0 rfl rfl 1 (by decide) kf19 (fun _ h9 => h9) rfl d_A_update_1 ?_
  obtain ⟨r1, hg, hf⟩ := bd1_some hf
  refine xci (wr := [(ha, .inr (0, [.ref hm, .ref hi, .ref qa, .ref qg, .int xl, .int xo, .int xs, .int xv, .int xp])), (hm, .inr (1, [.ref qc, .int mw, .int mf, .int mz])), (qc, .inl (cI, 149, .inl mc)), (qa, .inl (cI, 16, .inl xa)), (qg, .inl (cI, 4, .inl xg))]) (ctI_p2 l dC dI cI hi qb ib ic r1 hg) ⟨hx, hb, hml, hown, hts⟩ (cwV (C := R_I) 0 hts (gV wq168 wq169 wq170 wq45 wq171) rfl rfl rfl (by decide +kernel) ⟨Nat.le_of_ble_eq_true rfl, Nat.le_of_ble_eq_true rfl⟩) hK hP hD hS hA [3, 4] [0, 1, 2, 5, 6] rfl rfl rfl rfl (by decide) (ci := 2) (q0 := 3) rfl rfl rfl rfl hl.1 rfl (Nat.le_of_ble_eq_true rfl) d_A_update_4 ⟨Nat.zero_le _, Nat.zero_le _⟩ (fun H locs hP hD hS => ?_)
  have hP : va_P (dC, dI) vwCl [(ha, .inr (0, [.ref hm, .ref hi, .ref qa, .ref qg, .int xl, .int xo, .int xs, .int xv, .int xp])), (hm, .inr (1, [.ref qc, .int mw, .int mf, .int mz])), (qc, .inl (cI, 149, .inl mc)), (qa, .inl (cI, 16, .inl xa)), (qg, .inl (cI, 4, .inl xg)), (hi, .inr (2, [.ref qb, .int ic])), (qb, .inl (cI, 24, .inl ib))] H := hP
  have hD : va_D A [(ha, .inr (0, [.ref hm, .ref hi, .ref qa, .ref qg, .int xl, .int xo, .int xs, .int xv, .int xp])), (hm, .inr (1, [.ref qc, .int mw, .int mf, .int mz])), (qc, .inl (cI, 149, .inl mc)), (qa, .inl (cI, 16, .inl xa)), (qg, .inl (cI, 4, .inl xg)), (hi, .inr (2, [.ref qb, .int ic])), (qb, .inl (cI, 24, .inl ib))] := hD
  refine lv_aload_n hx hb d_A_update_7 rfl (lv_at hl 0 rfl) ?_
  refine va_get (D := (dC, dI)) (ci := 0) (v := .ref hi) (C := R_A) (T := F_A) (N := 9) hx hb hts inA hown hK hP 0 rfl rfl 1 (by decide) kf19 (fun _ h9 => h9) rfl d_A_update_8 ?_
  obtain ⟨r2, hg, hf⟩ := bd1_some hf
  refine xci (wr := [(ha, .inr (0, [.ref hm, .ref hi, .ref qa, .ref qg, .int xl, .int xo, .int xs, .int xv, .int xp])), (hm, .inr (1, [.ref qc, .int mw, .int mf, .int mz])), (qc, .inl (cI, 149, .inl mc)), (qa, .inl (cI, 16, .inl xa)), (qg, .inl (cI, 4, .inl xg))]) (ctI_lc l dC dI cI hi qb ib ic r2 hg) ⟨hx, hb, hml, hown, hts⟩ (cwV (C := R_I) 0 hts (gV wq159 wq151 wq152 wq45 wq153) rfl rfl rfl (by decide +kernel) ⟨Nat.le_of_ble_eq_true rfl, Nat.le_of_ble_eq_true rfl⟩) hK hP hD hS hA [5, 6] [0, 1, 2, 3, 4] rfl rfl rfl rfl (by decide) (ci := 2) (q0 := 5) rfl rfl rfl rfl hl.1 rfl (Nat.le_of_ble_eq_true rfl) d_A_update_11 ⟨Nat.zero_le _, Nat.zero_le _⟩ (fun H locs hP hD hS => ?_)
  have hP : va_P (dC, dI) vwCl [(ha, .inr (0, [.ref hm, .ref hi, .ref qa, .ref qg, .int xl, .int xo, .int xs, .int xv, .int xp])), (hm, .inr (1, [.ref qc, .int mw, .int mf, .int mz])), (qc, .inl (cI, 149, .inl mc)), (qa, .inl (cI, 16, .inl xa)), (qg, .inl (cI, 4, .inl xg)), (hi, .inr (2, [.ref qb, .int ic])), (qb, .inl (cI, 24, .inl ib))] H := hP
  have hD : va_D A [(ha, .inr (0, [.ref hm, .ref hi, .ref qa, .ref qg, .int xl, .int xo, .int xs, .int xv, .int xp])), (hm, .inr (1, [.ref qc, .int mw, .int mf, .int mz])), (qc, .inl (cI, 149, .inl mc)), (qa, .inl (cI, 16, .inl xa)), (qg, .inl (cI, 4, .inl xg)), (hi, .inr (2, [.ref qb, .int ic])), (qb, .inl (cI, 24, .inl ib))] := hD
  refine lv_iadd hx hb d_A_update_14 ?_
  refine lv_bipush (v := 16) hx hb d_A_update_15 (by decide) ?_
  refine lv_icmp_le (tgt := 24) hx hb d_A_update_17 rfl (fun hc3 => ?_) (fun hc3 => ?_)
  · have hf := ift hf hc3
    refine lv_aload_n hx hb d_A_update_24 rfl (lv_at hl 0 rfl) ?_
    refine lv_aload_n hx hb d_A_update_25 rfl (lv_at hl 0 rfl) ?_
    refine va_get (D := (dC, dI)) (ci := 0) (v := .int xs) (C := R_A) (T := F_A) (N := 9) hx hb hts inA hown hK hP 0 rfl rfl 6 (by decide) kf30 (fun _ h9 => h9) rfl d_A_update_26 ?_
    refine lv_aload_n hx hb d_A_update_29 rfl (lv_at hl 0 rfl) ?_
    refine va_get (D := (dC, dI)) (ci := 0) (v := .ref hi) (C := R_A) (T := F_A) (N := 9) hx hb hts inA hown hK hP 0 rfl rfl 1 (by decide) kf19 (fun _ h9 => h9) rfl d_A_update_30 ?_
    obtain ⟨r4, hg, hf⟩ := bd1_some hf
    refine xci (wr := [(ha, .inr (0, [.ref hm, .ref hi, .ref qa, .ref qg, .int xl, .int xo, .int xs, .int xv, .int xp])), (hm, .inr (1, [.ref qc, .int mw, .int mf, .int mz])), (qc, .inl (cI, 149, .inl mc)), (qa, .inl (cI, 16, .inl xa)), (qg, .inl (cI, 4, .inl xg))]) (ctI_p2 l dC dI cI hi qb ib ic r4 hg) ⟨hx, hb, hml, hown, hts⟩ (cwV (C := R_I) 0 hts (gV wq168 wq169 wq170 wq45 wq171) rfl rfl rfl (by decide +kernel) ⟨Nat.le_of_ble_eq_true rfl, Nat.le_of_ble_eq_true rfl⟩) hK hP hD hS hA [5, 6] [0, 1, 2, 3, 4] rfl rfl rfl rfl (by decide) (ci := 2) (q0 := 5) rfl rfl rfl rfl hl.1 rfl (Nat.le_of_ble_eq_true rfl) d_A_update_33 ⟨Nat.zero_le _, Nat.zero_le _⟩ (fun H locs hP hD hS => ?_)
    have hP : va_P (dC, dI) vwCl [(ha, .inr (0, [.ref hm, .ref hi, .ref qa, .ref qg, .int xl, .int xo, .int xs, .int xv, .int xp])), (hm, .inr (1, [.ref qc, .int mw, .int mf, .int mz])), (qc, .inl (cI, 149, .inl mc)), (qa, .inl (cI, 16, .inl xa)), (qg, .inl (cI, 4, .inl xg)), (hi, .inr (2, [.ref qb, .int ic])), (qb, .inl (cI, 24, .inl ib))] H := hP
    have hD : va_D A [(ha, .inr (0, [.ref hm, .ref hi, .ref qa, .ref qg, .int xl, .int xo, .int xs, .int xv, .int xp])), (hm, .inr (1, [.ref qc, .int mw, .int mf, .int mz])), (qc, .inl (cI, 149, .inl mc)), (qa, .inl (cI, 16, .inl xa)), (qg, .inl (cI, 4, .inl xg)), (hi, .inr (2, [.ref qb, .int ic])), (qb, .inl (cI, 24, .inl ib))] := hD
    obtain ⟨r5, hg, hf⟩ := bd1_some hf
    refine xsi (ctA_dataPlace l dC dI cI xs r4 r5 hg) ⟨hx, hb, hml, hown, hts⟩ (va_cwS 2 hts (gS wq278 wq279 wq43 wq280) rfl rfl rfl (by decide +kernel) ⟨Nat.le_of_ble_eq_true rfl, Nat.le_of_ble_eq_true rfl⟩) hK hP hD hS hA rfl hl.1 rfl (Nat.le_of_ble_eq_true rfl) d_A_update_36 ⟨Nat.zero_le _, Nat.zero_le _⟩ (fun H locs hP hD hS => ?_)
    obtain ⟨r6, mc6, mw6, mf6, mz6, ib6, ic6, xa6, xg6, xl6, xo6, xs6, xv6, xp6, hg, hf⟩ := bd14_some hf
    refine xci (wr := []) (ctA_storePayload l dC dI cI ha hm qc hi qb qa qg mc mw mf mz ib ic xa xg xl xo xs xv xp r5 r6 mc6 mw6 mf6 mz6 ib6 ic6 xa6 xg6 xl6 xo6 xs6 xv6 xp6 hg) ⟨hx, hb, hml, hown, hts⟩ (cwV (C := R_A) 1 hts (gV wq245 wq247 wq6 wq43 wq248) rfl rfl rfl (by decide +kernel) ⟨Nat.le_of_ble_eq_true rfl, Nat.le_of_ble_eq_true rfl⟩) hK hP hD hS hA [0, 1, 2, 5, 6, 3, 4] [] rfl rfl rfl rfl (by decide) (ci := 0) (q0 := 0) rfl rfl rfl rfl hl.1 rfl (Nat.le_of_ble_eq_true rfl) d_A_update_39 ⟨Nat.zero_le _, Nat.zero_le _⟩ (fun H locs hP hD hS => ?_)
    have hP : va_P (dC, dI) vwCl [(ha, .inr (0, [.ref hm, .ref hi, .ref qa, .ref qg, .int xl6, .int xo6, .int xs6, .int xv6, .int xp6])), (hm, .inr (1, [.ref qc, .int mw6, .int mf6, .int mz6])), (qc, .inl (cI, 149, .inl mc6)), (hi, .inr (2, [.ref qb, .int ic6])), (qb, .inl (cI, 24, .inl ib6)), (qa, .inl (cI, 16, .inl xa6)), (qg, .inl (cI, 4, .inl xg6))] H := hP
    have hD : va_D A [(ha, .inr (0, [.ref hm, .ref hi, .ref qa, .ref qg, .int xl6, .int xo6, .int xs6, .int xv6, .int xp6])), (hm, .inr (1, [.ref qc, .int mw6, .int mf6, .int mz6])), (qc, .inl (cI, 149, .inl mc6)), (hi, .inr (2, [.ref qb, .int ic6])), (qb, .inl (cI, 24, .inl ib6)), (qa, .inl (cI, 16, .inl xa6)), (qg, .inl (cI, 4, .inl xg6))] := hD
    obtain ⟨e1_, e2_, e3_, e4_, e5_, e6_, e7_, e8_, e9_, e10_, e11_, e12_, e13_, e14_⟩ := lf14 hf
    subst e1_; subst e2_; subst e3_; subst e4_; subst e5_; subst e6_; subst e7_; subst e8_; subst e9_; subst e10_; subst e11_; subst e12_; subst e13_; subst e14_
    have hP9 := hP.sub (ws' := [(ha, .inr (0, [.ref hm, .ref hi, .ref qa, .ref qg, .int xl6, .int xo6, .int xs6, .int xv6, .int xp6])), (hm, .inr (1, [.ref qc, .int mw6, .int mf6, .int mz6])), (qc, .inl (cI, 149, .inl mc6)), (hi, .inr (2, [.ref qb, .int ic6])), (qb, .inl (cI, 24, .inl ib6)), (qa, .inl (cI, 16, .inl xa6)), (qg, .inl (cI, 4, .inl xg6))]) [0, 1, 2, 3, 4, 5, 6] rfl
    have hD9 := hD.sub (ws' := [(ha, .inr (0, [.ref hm, .ref hi, .ref qa, .ref qg, .int xl6, .int xo6, .int xs6, .int xv6, .int xp6])), (hm, .inr (1, [.ref qc, .int mw6, .int mf6, .int mz6])), (qc, .inl (cI, 149, .inl mc6)), (hi, .inr (2, [.ref qb, .int ic6])), (qb, .inl (cI, 24, .inl ib6)), (qa, .inl (cI, 16, .inl xa6)), (qg, .inl (cI, 4, .inl xg6))]) [0, 1, 2, 3, 4, 5, 6] (by decide) rfl
    exact W.iret (v := r6) hx hb hr (fun t ht hW => ⟨⟨r6, (), rfl, rfl, by rw [ht]; exact hP9, va_K.moved hW.alike hK, hD9⟩, hS.F ht⟩) hS.2.2 d_A_update_42
  have hf := ifn hf hc3
  refine lv_sipush (v := 27392) hx hb d_A_update_20 (by decide) ?_
  obtain ⟨e1_, e2_, e3_, e4_, e5_, e6_, e7_, e8_, e9_, e10_, e11_, e12_, e13_, e14_⟩ := lf14 hf
  subst e1_; subst e2_; subst e3_; subst e4_; subst e5_; subst e6_; subst e7_; subst e8_; subst e9_; subst e10_; subst e11_; subst e12_; subst e13_; subst e14_
  have hP9 := hP.sub (ws' := [(ha, .inr (0, [.ref hm, .ref hi, .ref qa, .ref qg, .int xl, .int xo, .int xs, .int xv, .int xp])), (hm, .inr (1, [.ref qc, .int mw, .int mf, .int mz])), (qc, .inl (cI, 149, .inl mc)), (hi, .inr (2, [.ref qb, .int ic])), (qb, .inl (cI, 24, .inl ib)), (qa, .inl (cI, 16, .inl xa)), (qg, .inl (cI, 4, .inl xg))]) [0, 1, 2, 5, 6, 3, 4] rfl
  have hD9 := hD.sub (ws' := [(ha, .inr (0, [.ref hm, .ref hi, .ref qa, .ref qg, .int xl, .int xo, .int xs, .int xv, .int xp])), (hm, .inr (1, [.ref qc, .int mw, .int mf, .int mz])), (qc, .inl (cI, 149, .inl mc)), (hi, .inr (2, [.ref qb, .int ic])), (qb, .inl (cI, 24, .inl ib)), (qa, .inl (cI, 16, .inl xa)), (qg, .inl (cI, 4, .inl xg))]) [0, 1, 2, 5, 6, 3, 4] (by decide) rfl
  exact W.iret (v := 27392) hx hb hr (fun t ht hW => ⟨⟨27392, (), rfl, rfl, by rw [ht]; exact hP9, va_K.moved hW.alike hK, hD9⟩, hS.F ht⟩) hS.2.2 d_A_update_23
theorem d_A_begin_0 : decode b_A_begin 0 = .ok (.aload_n 0, 1) := by decide +kernel
theorem d_A_begin_1 : decode b_A_begin 1 = .ok (.getfield 110, 3) := by decide +kernel
theorem d_A_begin_4 : decode b_A_begin 4 = .ok (.ifCond .eq 7, 3) := by decide +kernel
theorem d_A_begin_7 : decode b_A_begin 7 = .ok (.sipush 27013, 3) := by decide +kernel
theorem d_A_begin_10 : decode b_A_begin 10 = .ok (.ireturn, 1) := by decide +kernel
theorem d_A_begin_11 : decode b_A_begin 11 = .ok (.aload_n 0, 1) := by decide +kernel
theorem d_A_begin_12 : decode b_A_begin 12 = .ok (.iconst 1, 1) := by decide +kernel
theorem d_A_begin_13 : decode b_A_begin 13 = .ok (.putfield 110, 3) := by decide +kernel
theorem d_A_begin_16 : decode b_A_begin 16 = .ok (.ldc 59, 2) := by decide +kernel
theorem d_A_begin_18 : decode b_A_begin 18 = .ok (.ireturn, 1) := by decide +kernel
def fA_begin (σ : StX) : Option (Int32 × StX) := match σ with | (mc, mw, mf, mz, ib, ic, xa, xg, xl, xo, xs, xv, xp) => if xp = 0 then (some (36864, mc, mw, mf, mz, ib, ic, xa, xg, xl, xo, xs, xv, 1)) else (some (27013, mc, mw, mf, mz, ib, ic, xa, xg, xl, xo, xs, xv, xp))
set_option maxHeartbeats 4000000 in
set_option maxRecDepth 100000 in
theorem ctA_begin (l : Launch) (dC : Nat → ClassId) (dI : Nat → Nat → Nat) (cI : ClassId) (ha hm qc hi qb qa qg : Nat) (mc : Nat → Int32) (mw : Int32) (mf : Int32) (mz : Int32) (ib : Nat → Int32) (ic : Int32) (xa : Nat → Int32) (xg : Nat → Int32) (xl : Int32) (xo : Int32) (xs : Int32) (xv : Int32) (xp : Int32) (r : Int32) (mc' : Nat → Int32) (mw' : Int32) (mf' : Int32) (mz' : Int32) (ib' : Nat → Int32) (ic' : Int32) (xa' : Nat → Int32) (xg' : Nat → Int32) (xl' : Int32) (xo' : Int32) (xs' : Int32) (xv' : Int32) (xp' : Int32) (hf : fA_begin (mc, mw, mf, mz, ib, ic, xa, xg, xl, xo, xs, xv, xp) = some (r, mc', mw', mf', mz', ib', ic', xa', xg', xl', xo', xs', xv', xp')) : CtI l y_A_begin w_A_begin ({ frames := 0, cells := 0, slots := 0, locals := 0 }) (dC, dI) [(cI, .int)] [.ref ha] [(ha, .inr (0, [.ref hm, .ref hi, .ref qa, .ref qg, .int xl, .int xo, .int xs, .int xv, .int xp])), (hm, .inr (1, [.ref qc, .int mw, .int mf, .int mz])), (qc, .inl (cI, 149, .inl mc)), (hi, .inr (2, [.ref qb, .int ic])), (qb, .inl (cI, 24, .inl ib)), (qa, .inl (cI, 16, .inl xa)), (qg, .inl (cI, 4, .inl xg))] [(ha, .inr (0, [.ref hm, .ref hi, .ref qa, .ref qg, .int xl', .int xo', .int xs', .int xv', .int xp'])), (hm, .inr (1, [.ref qc, .int mw', .int mf', .int mz'])), (qc, .inl (cI, 149, .inl mc')), (hi, .inr (2, [.ref qb, .int ic'])), (qb, .inl (cI, 24, .inl ib')), (qa, .inl (cI, 16, .inl xa')), (qg, .inl (cI, 4, .inl xg'))] r := by
  intro sz
  refine Met.ofW (cc := b_A_begin) (maxL := 1) (ret := some .int) (by decide) rfl ?_
  intro p e s m args below meth c s₁ B hml hv
  obtain ⟨rfl, hsz, hP, hK, hD0⟩ := hv
  have hx := B.exec
  have hb := B.bytes
  have hr := B.returns
  have hts := atoms_spec (ws := w_A_begin) B.pre
  have hown : s.vm.findClass R_A = some m.cls := findClass_of_methodNamed B.named
  have hlocks := B.notSynchronized
  subst hsz
  have hD := hD0.self (sz := s.heap.size)
  generalize hAe : va_A [(ha, .inr (0, [.ref hm, .ref hi, .ref qa, .ref qg, .int xl, .int xo, .int xs, .int xv, .int xp])), (hm, .inr (1, [.ref qc, .int mw, .int mf, .int mz])), (qc, .inl (cI, 149, .inl mc)), (hi, .inr (2, [.ref qb, .int ic])), (qb, .inl (cI, 24, .inl ib)), (qa, .inl (cI, 16, .inl xa)), (qg, .inl (cI, 4, .inl xg))] s.heap.size = A at hD ⊢
  have hA : ∀ q : Nat, s.heap.size ≤ q → A q := fun q h => by rw [← hAe]; exact Or.inr h
  have hS : va_S A s.heap s.heap [] := va_S.rf
  have hP : va_P (dC, dI) vwCl [(ha, .inr (0, [.ref hm, .ref hi, .ref qa, .ref qg, .int xl, .int xo, .int xs, .int xv, .int xp])), (hm, .inr (1, [.ref qc, .int mw, .int mf, .int mz])), (qc, .inl (cI, 149, .inl mc)), (hi, .inr (2, [.ref qb, .int ic])), (qb, .inl (cI, 24, .inl ib)), (qa, .inl (cI, 16, .inl xa)), (qg, .inl (cI, 4, .inl xg))] s.heap := hP
  have hl := lv_entry ([.ref ha]) (n := 1) (Nat.le_of_ble_eq_true rfl)
  rw [lg_entry_eq]
  generalize (lg_sl ([.ref ha]) ++ List.replicate (1 - (lg_sl ([.ref ha])).length) Slot.unset).toArray = ls at hl ⊢
  have hl : lv_has ls 1 [(0, .ref ha)] := hl
  have inA : ∀ w ∈ u_ws R_A F_A 9, w ∈ w_A_begin := fun w h => List.mem_cons_of_mem _ (in_A w h)
  have kc59 := hts _ (List.mem_cons_of_mem _ wq182)
  have kf110 := hts _ (List.mem_cons_of_mem _ wq99)
  rw [fA_begin] at hf
  refine lv_aload_n hx hb d_A_begin_0 rfl (lv_at hl 0 rfl) ?_
  refine va_get (D := (dC, dI)) (ci := 0) (v := .int xp) (C := R_A) (T := F_A) (N := 9) hx hb hts inA hown hK hP 0 rfl rfl 8 (by decide) kf110 (fun _ h9 => h9) rfl d_A_begin_1 ?_
  refine lv_if_eq (tgt := 11) hx hb d_A_begin_4 rfl (fun hc1 => ?_) (fun hc1 => ?_)
  · have hf := ift hf hc1
    refine lv_aload_n hx hb d_A_begin_11 rfl (lv_at hl 0 rfl) ?_
    refine lv_iconst (v := 1) hx hb d_A_begin_12 (by decide) ?_
    refine va_put (D := (dC, dI)) (ci := 0) (v := .int 1) (ty := .boolean) (C := R_A) (T := F_A) (N := 9) hx hb hts inA t_A t_A_ok n_A hown hK hP hD hS 0 rfl rfl 8 (by decide) kf110 (fun _ h9 => h9) rfl (by decide +kernel) rfl rfl (Nat.le_of_ble_eq_true rfl) d_A_begin_13 (fun H locs hP hD hS => ?_)
    have hP : va_P (dC, dI) vwCl [(ha, .inr (0, [.ref hm, .ref hi, .ref qa, .ref qg, .int xl, .int xo, .int xs, .int xv, .int 1])), (hm, .inr (1, [.ref qc, .int mw, .int mf, .int mz])), (qc, .inl (cI, 149, .inl mc)), (hi, .inr (2, [.ref qb, .int ic])), (qb, .inl (cI, 24, .inl ib)), (qa, .inl (cI, 16, .inl xa)), (qg, .inl (cI, 4, .inl xg))] H := hP
    have hD : va_D A [(ha, .inr (0, [.ref hm, .ref hi, .ref qa, .ref qg, .int xl, .int xo, .int xs, .int xv, .int 1])), (hm, .inr (1, [.ref qc, .int mw, .int mf, .int mz])), (qc, .inl (cI, 149, .inl mc)), (hi, .inr (2, [.ref qb, .int ic])), (qb, .inl (cI, 24, .inl ib)), (qa, .inl (cI, 16, .inl xa)), (qg, .inl (cI, 4, .inl xg))] := hD
    refine lv_ldc (v := 36864) hx hb hown kc59 d_A_begin_16 ?_
    obtain ⟨e1_, e2_, e3_, e4_, e5_, e6_, e7_, e8_, e9_, e10_, e11_, e12_, e13_, e14_⟩ := lf14 hf
    subst e1_; subst e2_; subst e3_; subst e4_; subst e5_; subst e6_; subst e7_; subst e8_; subst e9_; subst e10_; subst e11_; subst e12_; subst e13_; subst e14_
    have hP9 := hP.sub (ws' := [(ha, .inr (0, [.ref hm, .ref hi, .ref qa, .ref qg, .int xl, .int xo, .int xs, .int xv, .int 1])), (hm, .inr (1, [.ref qc, .int mw, .int mf, .int mz])), (qc, .inl (cI, 149, .inl mc)), (hi, .inr (2, [.ref qb, .int ic])), (qb, .inl (cI, 24, .inl ib)), (qa, .inl (cI, 16, .inl xa)), (qg, .inl (cI, 4, .inl xg))]) [0, 1, 2, 3, 4, 5, 6] rfl
    have hD9 := hD.sub (ws' := [(ha, .inr (0, [.ref hm, .ref hi, .ref qa, .ref qg, .int xl, .int xo, .int xs, .int xv, .int 1])), (hm, .inr (1, [.ref qc, .int mw, .int mf, .int mz])), (qc, .inl (cI, 149, .inl mc)), (hi, .inr (2, [.ref qb, .int ic])), (qb, .inl (cI, 24, .inl ib)), (qa, .inl (cI, 16, .inl xa)), (qg, .inl (cI, 4, .inl xg))]) [0, 1, 2, 3, 4, 5, 6] (by decide) rfl
    exact W.iret (v := 36864) hx hb hr (fun t ht hW => ⟨⟨36864, (), rfl, rfl, by rw [ht]; exact hP9, va_K.moved hW.alike hK, hD9⟩, hS.F ht⟩) hS.2.2 d_A_begin_18
  have hf := ifn hf hc1
  refine lv_sipush (v := 27013) hx hb d_A_begin_7 (by decide) ?_
  obtain ⟨e1_, e2_, e3_, e4_, e5_, e6_, e7_, e8_, e9_, e10_, e11_, e12_, e13_, e14_⟩ := lf14 hf
  subst e1_; subst e2_; subst e3_; subst e4_; subst e5_; subst e6_; subst e7_; subst e8_; subst e9_; subst e10_; subst e11_; subst e12_; subst e13_; subst e14_
  have hP9 := hP.sub (ws' := [(ha, .inr (0, [.ref hm, .ref hi, .ref qa, .ref qg, .int xl, .int xo, .int xs, .int xv, .int xp])), (hm, .inr (1, [.ref qc, .int mw, .int mf, .int mz])), (qc, .inl (cI, 149, .inl mc)), (hi, .inr (2, [.ref qb, .int ic])), (qb, .inl (cI, 24, .inl ib)), (qa, .inl (cI, 16, .inl xa)), (qg, .inl (cI, 4, .inl xg))]) [0, 1, 2, 3, 4, 5, 6] rfl
  have hD9 := hD.sub (ws' := [(ha, .inr (0, [.ref hm, .ref hi, .ref qa, .ref qg, .int xl, .int xo, .int xs, .int xv, .int xp])), (hm, .inr (1, [.ref qc, .int mw, .int mf, .int mz])), (qc, .inl (cI, 149, .inl mc)), (hi, .inr (2, [.ref qb, .int ic])), (qb, .inl (cI, 24, .inl ib)), (qa, .inl (cI, 16, .inl xa)), (qg, .inl (cI, 4, .inl xg))]) [0, 1, 2, 3, 4, 5, 6] (by decide) rfl
  exact W.iret (v := 27013) hx hb hr (fun t ht hW => ⟨⟨27013, (), rfl, rfl, by rw [ht]; exact hP9, va_K.moved hW.alike hK, hD9⟩, hS.F ht⟩) hS.2.2 d_A_begin_10
theorem d_A_end_0 : decode b_A_end 0 = .ok (.aload_n 0, 1) := by decide +kernel
theorem d_A_end_1 : decode b_A_end 1 = .ok (.getfield 110, 3) := by decide +kernel
theorem d_A_end_4 : decode b_A_end 4 = .ok (.ifCond .ne 7, 3) := by decide +kernel
theorem d_A_end_7 : decode b_A_end 7 = .ok (.sipush 27013, 3) := by decide +kernel
theorem d_A_end_10 : decode b_A_end 10 = .ok (.ireturn, 1) := by decide +kernel
theorem d_A_end_11 : decode b_A_end 11 = .ok (.aload_n 0, 1) := by decide +kernel
theorem d_A_end_12 : decode b_A_end 12 = .ok (.getfield 19, 3) := by decide +kernel
theorem d_A_end_15 : decode b_A_end 15 = .ok (.invokevirtual 130, 3) := by decide +kernel
theorem d_A_end_18 : decode b_A_end 18 = .ok (.ifCond .ne 13, 3) := by decide +kernel
theorem d_A_end_21 : decode b_A_end 21 = .ok (.aload_n 0, 1) := by decide +kernel
theorem d_A_end_22 : decode b_A_end 22 = .ok (.getfield 10, 3) := by decide +kernel
theorem d_A_end_25 : decode b_A_end 25 = .ok (.invokevirtual 211, 3) := by decide +kernel
theorem d_A_end_28 : decode b_A_end 28 = .ok (.goto 10, 3) := by decide +kernel
theorem d_A_end_31 : decode b_A_end 31 = .ok (.aload_n 0, 1) := by decide +kernel
theorem d_A_end_32 : decode b_A_end 32 = .ok (.getfield 10, 3) := by decide +kernel
theorem d_A_end_35 : decode b_A_end 35 = .ok (.invokevirtual 82, 3) := by decide +kernel
theorem d_A_end_38 : decode b_A_end 38 = .ok (.istore_n 1, 1) := by decide +kernel
theorem d_A_end_39 : decode b_A_end 39 = .ok (.aload_n 0, 1) := by decide +kernel
theorem d_A_end_40 : decode b_A_end 40 = .ok (.iconst 0, 1) := by decide +kernel
theorem d_A_end_41 : decode b_A_end 41 = .ok (.putfield 110, 3) := by decide +kernel
theorem d_A_end_44 : decode b_A_end 44 = .ok (.iload_n 1, 1) := by decide +kernel
theorem d_A_end_45 : decode b_A_end 45 = .ok (.invokestatic 204, 3) := by decide +kernel
theorem d_A_end_48 : decode b_A_end 48 = .ok (.ireturn, 1) := by decide +kernel
def fA_end (σ : StX) : Option (Int32 × StX) := match σ with | (mc, mw, mf, mz, ib, ic, xa, xg, xl, xo, xs, xv, xp) => if xp = 0 then (some (27013, mc, mw, mf, mz, ib, ic, xa, xg, xl, xo, xs, xv, xp)) else (bd1 (fI_p1 (ib, ic)) fun r2 => if r2 = 0 then (bd5 (fM_settle (mc, mw, mf, mz)) fun r6 mc6 mw6 mf6 mz6 => bd1 (fA_doneIf r6) fun r7 => some (r7, mc6, mw6, mf6, mz6, ib, ic, xa, xg, xl, xo, xs, xv, 0)) else (bd5 (fM_undo (mc, mw, mf, mz)) fun r4 mc4 mw4 mf4 mz4 => bd1 (fA_doneIf r4) fun r5 => some (r5, mc4, mw4, mf4, mz4, ib, ic, xa, xg, xl, xo, xs, xv, 0)))
set_option maxHeartbeats 4000000 in
set_option maxRecDepth 100000 in
theorem ctA_end (l : Launch) (dC : Nat → ClassId) (dI : Nat → Nat → Nat) (cI : ClassId) (ha hm qc hi qb qa qg : Nat) (mc : Nat → Int32) (mw : Int32) (mf : Int32) (mz : Int32) (ib : Nat → Int32) (ic : Int32) (xa : Nat → Int32) (xg : Nat → Int32) (xl : Int32) (xo : Int32) (xs : Int32) (xv : Int32) (xp : Int32) (r : Int32) (mc' : Nat → Int32) (mw' : Int32) (mf' : Int32) (mz' : Int32) (ib' : Nat → Int32) (ic' : Int32) (xa' : Nat → Int32) (xg' : Nat → Int32) (xl' : Int32) (xo' : Int32) (xs' : Int32) (xv' : Int32) (xp' : Int32) (hf : fA_end (mc, mw, mf, mz, ib, ic, xa, xg, xl, xo, xs, xv, xp) = some (r, mc', mw', mf', mz', ib', ic', xa', xg', xl', xo', xs', xv', xp')) : CtI l y_A_end w_A_end ({ frames := 3, cells := 0, slots := 0, locals := 64 }) (dC, dI) [(cI, .int)] [.ref ha] [(ha, .inr (0, [.ref hm, .ref hi, .ref qa, .ref qg, .int xl, .int xo, .int xs, .int xv, .int xp])), (hm, .inr (1, [.ref qc, .int mw, .int mf, .int mz])), (qc, .inl (cI, 149, .inl mc)), (hi, .inr (2, [.ref qb, .int ic])), (qb, .inl (cI, 24, .inl ib)), (qa, .inl (cI, 16, .inl xa)), (qg, .inl (cI, 4, .inl xg))] [(ha, .inr (0, [.ref hm, .ref hi, .ref qa, .ref qg, .int xl', .int xo', .int xs', .int xv', .int xp'])), (hm, .inr (1, [.ref qc, .int mw', .int mf', .int mz'])), (qc, .inl (cI, 149, .inl mc')), (hi, .inr (2, [.ref qb, .int ic'])), (qb, .inl (cI, 24, .inl ib')), (qa, .inl (cI, 16, .inl xa')), (qg, .inl (cI, 4, .inl xg'))] r := by
  intro sz
  refine Met.ofW (cc := b_A_end) (maxL := 2) (ret := some .int) (by decide) rfl ?_
  intro p e s m args below meth c s₁ B hml hv
  obtain ⟨rfl, hsz, hP, hK, hD0⟩ := hv
  have hx := B.exec
  have hb := B.bytes
  have hr := B.returns
  have hts := atoms_spec (ws := w_A_end) B.pre
  have hown : s.vm.findClass R_A = some m.cls := findClass_of_methodNamed B.named
  have hlocks := B.notSynchronized
  subst hsz
  have hD := hD0.self (sz := s.heap.size)
  generalize hAe : va_A [(ha, .inr (0, [.ref hm, .ref hi, .ref qa, .ref qg, .int xl, .int xo, .int xs, .int xv, .int xp])), (hm, .inr (1, [.ref qc, .int mw, .int mf, .int mz])), (qc, .inl (cI, 149, .inl mc)), (hi, .inr (2, [.ref qb, .int ic])), (qb, .inl (cI, 24, .inl ib)), (qa, .inl (cI, 16, .inl xa)), (qg, .inl (cI, 4, .inl xg))] s.heap.size = A at hD ⊢
  have hA : ∀ q : Nat, s.heap.size ≤ q → A q := fun q h => by rw [← hAe]; exact Or.inr h
  have hS : va_S A s.heap s.heap [] := va_S.rf
  have hP : va_P (dC, dI) vwCl [(ha, .inr (0, [.ref hm, .ref hi, .ref qa, .ref qg, .int xl, .int xo, .int xs, .int xv, .int xp])), (hm, .inr (1, [.ref qc, .int mw, .int mf, .int mz])), (qc, .inl (cI, 149, .inl mc)), (hi, .inr (2, [.ref qb, .int ic])), (qb, .inl (cI, 24, .inl ib)), (qa, .inl (cI, 16, .inl xa)), (qg, .inl (cI, 4, .inl xg))] s.heap := hP
  have hl := lv_entry ([.ref ha]) (n := 2) (Nat.le_of_ble_eq_true rfl)
  rw [lg_entry_eq]
  generalize (lg_sl ([.ref ha]) ++ List.replicate (2 - (lg_sl ([.ref ha])).length) Slot.unset).toArray = ls at hl ⊢
  have hl : lv_has ls 2 [(0, .ref ha)] := hl
  have inA : ∀ w ∈ u_ws R_A F_A 9, w ∈ w_A_end := fun w h => List.mem_cons_of_mem _ (in_A w h)
  have kf10 := hts _ (List.mem_cons_of_mem _ wq91)
  have kf110 := hts _ (List.mem_cons_of_mem _ wq99)
  have kf19 := hts _ (List.mem_cons_of_mem _ wq92)
  rw [fA_end] at hf
  refine lv_aload_n hx hb d_A_end_0 rfl (lv_at hl 0 rfl) ?_
  refine va_get (D := (dC, dI)) (ci := 0) (v := .int xp) (C := R_A) (T := F_A) (N := 9) hx hb hts inA hown hK hP 0 rfl rfl 8 (by decide) kf110 (fun _ h9 => h9) rfl d_A_end_1 ?_
  refine lv_if_ne (tgt := 11) hx hb d_A_end_4 rfl (fun hc1 => ?_) (fun hc1 => ?_)
  · have hf := ifn hf hc1
    refine lv_aload_n hx hb d_A_end_11 rfl (lv_at hl 0 rfl) ?_
    refine va_get (D := (dC, dI)) (ci := 0) (v := .ref hi) (C := R_A) (T := F_A) (N := 9) hx hb hts inA hown hK hP 0 rfl rfl 1 (by decide) kf19 (fun _ h9 => h9) rfl d_A_end_12 ?_
    obtain ⟨r2, hg, hf⟩ := bd1_some hf
    refine xci (wr := [(ha, .inr (0, [.ref hm, .ref hi, .ref qa, .ref qg, .int xl, .int xo, .int xs, .int xv, .int xp])), (hm, .inr (1, [.ref qc, .int mw, .int mf, .int mz])), (qc, .inl (cI, 149, .inl mc)), (qa, .inl (cI, 16, .inl xa)), (qg, .inl (cI, 4, .inl xg))]) (ctI_p1 l dC dI cI hi qb ib ic r2 hg) ⟨hx, hb, hml, hown, hts⟩ (cwV (C := R_I) 0 hts (gV wq164 wq165 wq166 wq45 wq167) rfl rfl rfl (by decide +kernel) ⟨Nat.le_of_ble_eq_true rfl, Nat.le_of_ble_eq_true rfl⟩) hK hP hD hS hA [3, 4] [0, 1, 2, 5, 6] rfl rfl rfl rfl (by decide) (ci := 2) (q0 := 3) rfl rfl rfl rfl hl.1 rfl (Nat.le_of_ble_eq_true rfl) d_A_end_15 ⟨Nat.zero_le _, Nat.zero_le _⟩ (fun H locs hP hD hS => ?_)
    have hP : va_P (dC, dI) vwCl [(ha, .inr (0, [.ref hm, .ref hi, .ref qa, .ref qg, .int xl, .int xo, .int xs, .int xv, .int xp])), (hm, .inr (1, [.ref qc, .int mw, .int mf, .int mz])), (qc, .inl (cI, 149, .inl mc)), (qa, .inl (cI, 16, .inl xa)), (qg, .inl (cI, 4, .inl xg)), (hi, .inr (2, [.ref qb, .int ic])), (qb, .inl (cI, 24, .inl ib))] H := hP
    have hD : va_D A [(ha, .inr (0, [.ref hm, .ref hi, .ref qa, .ref qg, .int xl, .int xo, .int xs, .int xv, .int xp])), (hm, .inr (1, [.ref qc, .int mw, .int mf, .int mz])), (qc, .inl (cI, 149, .inl mc)), (qa, .inl (cI, 16, .inl xa)), (qg, .inl (cI, 4, .inl xg)), (hi, .inr (2, [.ref qb, .int ic])), (qb, .inl (cI, 24, .inl ib))] := hD
    refine lv_if_ne (tgt := 31) hx hb d_A_end_18 rfl (fun hc3 => ?_) (fun hc3 => ?_)
    · have hf := ifn hf hc3
      refine lv_aload_n hx hb d_A_end_31 rfl (lv_at hl 0 rfl) ?_
      refine va_get (D := (dC, dI)) (ci := 0) (v := .ref hm) (C := R_A) (T := F_A) (N := 9) hx hb hts inA hown hK hP 0 rfl rfl 0 (by decide) kf10 (fun _ h9 => h9) rfl d_A_end_32 ?_
      obtain ⟨r4, mc4, mw4, mf4, mz4, hg, hf⟩ := bd5_some hf
      refine xcz (wr := [(ha, .inr (0, [.ref hm, .ref hi, .ref qa, .ref qg, .int xl, .int xo, .int xs, .int xv, .int xp])), (qa, .inl (cI, 16, .inl xa)), (qg, .inl (cI, 4, .inl xg)), (hi, .inr (2, [.ref qb, .int ic])), (qb, .inl (cI, 24, .inl ib))]) (ctM_undo l dC dI cI hm qc mc mw mf mz r4 mc4 mw4 mf4 mz4 hg) ⟨hx, hb, hml, hown, hts⟩ (cwV (C := R_M) 0 hts (gV wq206 wq207 wq208 wq44 wq209) rfl rfl rfl (by decide +kernel) ⟨Nat.le_of_ble_eq_true rfl, Nat.le_of_ble_eq_true rfl⟩) hK hP hD hS hA [1, 2] [0, 3, 4, 5, 6] rfl rfl rfl rfl (by decide) (ci := 1) (q0 := 1) rfl rfl rfl rfl hl.1 rfl (Nat.le_of_ble_eq_true rfl) d_A_end_35 ⟨Nat.zero_le _, Nat.zero_le _⟩ (fun H locs hn4 hP hD hS => ?_)
      have hP : va_P (dC, dI) vwCl [(ha, .inr (0, [.ref hm, .ref hi, .ref qa, .ref qg, .int xl, .int xo, .int xs, .int xv, .int xp])), (qa, .inl (cI, 16, .inl xa)), (qg, .inl (cI, 4, .inl xg)), (hi, .inr (2, [.ref qb, .int ic])), (qb, .inl (cI, 24, .inl ib)), (hm, .inr (1, [.ref qc, .int mw4, .int mf4, .int mz4])), (qc, .inl (cI, 149, .inl mc4))] H := hP
      have hD : va_D A [(ha, .inr (0, [.ref hm, .ref hi, .ref qa, .ref qg, .int xl, .int xo, .int xs, .int xv, .int xp])), (qa, .inl (cI, 16, .inl xa)), (qg, .inl (cI, 4, .inl xg)), (hi, .inr (2, [.ref qb, .int ic])), (qb, .inl (cI, 24, .inl ib)), (hm, .inr (1, [.ref qc, .int mw4, .int mf4, .int mz4])), (qc, .inl (cI, 149, .inl mc4))] := hD
      refine lv_istore_n hx hb d_A_end_38 rfl hl (by decide) rfl (fun ls hl => ?_)
      have hl : lv_has ls 2 [(1, .int r4), (0, .ref ha)] := hl
      refine lv_aload_n hx hb d_A_end_39 rfl (lv_at hl 1 rfl) ?_
      refine lv_iconst (v := 0) hx hb d_A_end_40 (by decide) ?_
      refine va_put (D := (dC, dI)) (ci := 0) (v := .int 0) (ty := .boolean) (C := R_A) (T := F_A) (N := 9) hx hb hts inA t_A t_A_ok n_A hown hK hP hD hS 0 rfl rfl 8 (by decide) kf110 (fun _ h9 => h9) rfl (by decide +kernel) rfl rfl (Nat.le_of_ble_eq_true rfl) d_A_end_41 (fun H locs hP hD hS => ?_)
      have hP : va_P (dC, dI) vwCl [(ha, .inr (0, [.ref hm, .ref hi, .ref qa, .ref qg, .int xl, .int xo, .int xs, .int xv, .int 0])), (qa, .inl (cI, 16, .inl xa)), (qg, .inl (cI, 4, .inl xg)), (hi, .inr (2, [.ref qb, .int ic])), (qb, .inl (cI, 24, .inl ib)), (hm, .inr (1, [.ref qc, .int mw4, .int mf4, .int mz4])), (qc, .inl (cI, 149, .inl mc4))] H := hP
      have hD : va_D A [(ha, .inr (0, [.ref hm, .ref hi, .ref qa, .ref qg, .int xl, .int xo, .int xs, .int xv, .int 0])), (qa, .inl (cI, 16, .inl xa)), (qg, .inl (cI, 4, .inl xg)), (hi, .inr (2, [.ref qb, .int ic])), (qb, .inl (cI, 24, .inl ib)), (hm, .inr (1, [.ref qc, .int mw4, .int mf4, .int mz4])), (qc, .inl (cI, 149, .inl mc4))] := hD
      refine lv_iload_n hx hb d_A_end_44 rfl (lv_at hl 0 rfl) ?_
      obtain ⟨r5, hg, hf⟩ := bd1_some hf
      refine xsi (ctA_doneIf l dC dI cI r4 r5 hg) ⟨hx, hb, hml, hown, hts⟩ (va_cwS 1 hts (gS wq263 wq264 wq43 wq265) rfl rfl rfl (by decide +kernel) ⟨Nat.le_of_ble_eq_true rfl, Nat.le_of_ble_eq_true rfl⟩) hK hP hD hS hA rfl hl.1 rfl (Nat.le_of_ble_eq_true rfl) d_A_end_45 ⟨Nat.zero_le _, Nat.zero_le _⟩ (fun H locs hP hD hS => ?_)
      obtain ⟨e1_, e2_, e3_, e4_, e5_, e6_, e7_, e8_, e9_, e10_, e11_, e12_, e13_, e14_⟩ := lf14 hf
      subst e1_; subst e2_; subst e3_; subst e4_; subst e5_; subst e6_; subst e7_; subst e8_; subst e9_; subst e10_; subst e11_; subst e12_; subst e13_; subst e14_
      have hP9 := hP.sub (ws' := [(ha, .inr (0, [.ref hm, .ref hi, .ref qa, .ref qg, .int xl, .int xo, .int xs, .int xv, .int 0])), (hm, .inr (1, [.ref qc, .int mw4, .int mf4, .int mz4])), (qc, .inl (cI, 149, .inl mc4)), (hi, .inr (2, [.ref qb, .int ic])), (qb, .inl (cI, 24, .inl ib)), (qa, .inl (cI, 16, .inl xa)), (qg, .inl (cI, 4, .inl xg))]) [0, 5, 6, 3, 4, 1, 2] rfl
      have hD9 := hD.sub (ws' := [(ha, .inr (0, [.ref hm, .ref hi, .ref qa, .ref qg, .int xl, .int xo, .int xs, .int xv, .int 0])), (hm, .inr (1, [.ref qc, .int mw4, .int mf4, .int mz4])), (qc, .inl (cI, 149, .inl mc4)), (hi, .inr (2, [.ref qb, .int ic])), (qb, .inl (cI, 24, .inl ib)), (qa, .inl (cI, 16, .inl xa)), (qg, .inl (cI, 4, .inl xg))]) [0, 5, 6, 3, 4, 1, 2] (by decide) rfl
      exact W.iret (v := r5) hx hb hr (fun t ht hW => ⟨⟨r5, (), rfl, rfl, by rw [ht]; exact hP9, va_K.moved hW.alike hK, hD9⟩, hS.F ht⟩) hS.2.2 d_A_end_48
    have hf := ift hf hc3
    refine lv_aload_n hx hb d_A_end_21 rfl (lv_at hl 0 rfl) ?_
    refine va_get (D := (dC, dI)) (ci := 0) (v := .ref hm) (C := R_A) (T := F_A) (N := 9) hx hb hts inA hown hK hP 0 rfl rfl 0 (by decide) kf10 (fun _ h9 => h9) rfl d_A_end_22 ?_
    obtain ⟨r6, mc6, mw6, mf6, mz6, hg, hf⟩ := bd5_some hf
    refine xcz (wr := [(ha, .inr (0, [.ref hm, .ref hi, .ref qa, .ref qg, .int xl, .int xo, .int xs, .int xv, .int xp])), (qa, .inl (cI, 16, .inl xa)), (qg, .inl (cI, 4, .inl xg)), (hi, .inr (2, [.ref qb, .int ic])), (qb, .inl (cI, 24, .inl ib))]) (ctM_settle l dC dI cI hm qc mc mw mf mz r6 mc6 mw6 mf6 mz6 hg) ⟨hx, hb, hml, hown, hts⟩ (cwV (C := R_M) 0 hts (gV wq262 wq219 wq220 wq44 wq221) rfl rfl rfl (by decide +kernel) ⟨Nat.le_of_ble_eq_true rfl, Nat.le_of_ble_eq_true rfl⟩) hK hP hD hS hA [1, 2] [0, 3, 4, 5, 6] rfl rfl rfl rfl (by decide) (ci := 1) (q0 := 1) rfl rfl rfl rfl hl.1 rfl (Nat.le_of_ble_eq_true rfl) d_A_end_25 ⟨Nat.zero_le _, Nat.zero_le _⟩ (fun H locs hn6 hP hD hS => ?_)
    have hP : va_P (dC, dI) vwCl [(ha, .inr (0, [.ref hm, .ref hi, .ref qa, .ref qg, .int xl, .int xo, .int xs, .int xv, .int xp])), (qa, .inl (cI, 16, .inl xa)), (qg, .inl (cI, 4, .inl xg)), (hi, .inr (2, [.ref qb, .int ic])), (qb, .inl (cI, 24, .inl ib)), (hm, .inr (1, [.ref qc, .int mw6, .int mf6, .int mz6])), (qc, .inl (cI, 149, .inl mc6))] H := hP
    have hD : va_D A [(ha, .inr (0, [.ref hm, .ref hi, .ref qa, .ref qg, .int xl, .int xo, .int xs, .int xv, .int xp])), (qa, .inl (cI, 16, .inl xa)), (qg, .inl (cI, 4, .inl xg)), (hi, .inr (2, [.ref qb, .int ic])), (qb, .inl (cI, 24, .inl ib)), (hm, .inr (1, [.ref qc, .int mw6, .int mf6, .int mz6])), (qc, .inl (cI, 149, .inl mc6))] := hD
    refine lv_goto (tgt := 38) hx hb d_A_end_28 rfl ?_
    refine lv_istore_n hx hb d_A_end_38 rfl hl (by decide) rfl (fun ls hl => ?_)
    have hl : lv_has ls 2 [(1, .int r6), (0, .ref ha)] := hl
    refine lv_aload_n hx hb d_A_end_39 rfl (lv_at hl 1 rfl) ?_
    refine lv_iconst (v := 0) hx hb d_A_end_40 (by decide) ?_
    refine va_put (D := (dC, dI)) (ci := 0) (v := .int 0) (ty := .boolean) (C := R_A) (T := F_A) (N := 9) hx hb hts inA t_A t_A_ok n_A hown hK hP hD hS 0 rfl rfl 8 (by decide) kf110 (fun _ h9 => h9) rfl (by decide +kernel) rfl rfl (Nat.le_of_ble_eq_true rfl) d_A_end_41 (fun H locs hP hD hS => ?_)
    have hP : va_P (dC, dI) vwCl [(ha, .inr (0, [.ref hm, .ref hi, .ref qa, .ref qg, .int xl, .int xo, .int xs, .int xv, .int 0])), (qa, .inl (cI, 16, .inl xa)), (qg, .inl (cI, 4, .inl xg)), (hi, .inr (2, [.ref qb, .int ic])), (qb, .inl (cI, 24, .inl ib)), (hm, .inr (1, [.ref qc, .int mw6, .int mf6, .int mz6])), (qc, .inl (cI, 149, .inl mc6))] H := hP
    have hD : va_D A [(ha, .inr (0, [.ref hm, .ref hi, .ref qa, .ref qg, .int xl, .int xo, .int xs, .int xv, .int 0])), (qa, .inl (cI, 16, .inl xa)), (qg, .inl (cI, 4, .inl xg)), (hi, .inr (2, [.ref qb, .int ic])), (qb, .inl (cI, 24, .inl ib)), (hm, .inr (1, [.ref qc, .int mw6, .int mf6, .int mz6])), (qc, .inl (cI, 149, .inl mc6))] := hD
    refine lv_iload_n hx hb d_A_end_44 rfl (lv_at hl 0 rfl) ?_
    obtain ⟨r7, hg, hf⟩ := bd1_some hf
    refine xsi (ctA_doneIf l dC dI cI r6 r7 hg) ⟨hx, hb, hml, hown, hts⟩ (va_cwS 1 hts (gS wq263 wq264 wq43 wq265) rfl rfl rfl (by decide +kernel) ⟨Nat.le_of_ble_eq_true rfl, Nat.le_of_ble_eq_true rfl⟩) hK hP hD hS hA rfl hl.1 rfl (Nat.le_of_ble_eq_true rfl) d_A_end_45 ⟨Nat.zero_le _, Nat.zero_le _⟩ (fun H locs hP hD hS => ?_)
    obtain ⟨e1_, e2_, e3_, e4_, e5_, e6_, e7_, e8_, e9_, e10_, e11_, e12_, e13_, e14_⟩ := lf14 hf
    subst e1_; subst e2_; subst e3_; subst e4_; subst e5_; subst e6_; subst e7_; subst e8_; subst e9_; subst e10_; subst e11_; subst e12_; subst e13_; subst e14_
    have hP9 := hP.sub (ws' := [(ha, .inr (0, [.ref hm, .ref hi, .ref qa, .ref qg, .int xl, .int xo, .int xs, .int xv, .int 0])), (hm, .inr (1, [.ref qc, .int mw6, .int mf6, .int mz6])), (qc, .inl (cI, 149, .inl mc6)), (hi, .inr (2, [.ref qb, .int ic])), (qb, .inl (cI, 24, .inl ib)), (qa, .inl (cI, 16, .inl xa)), (qg, .inl (cI, 4, .inl xg))]) [0, 5, 6, 3, 4, 1, 2] rfl
    have hD9 := hD.sub (ws' := [(ha, .inr (0, [.ref hm, .ref hi, .ref qa, .ref qg, .int xl, .int xo, .int xs, .int xv, .int 0])), (hm, .inr (1, [.ref qc, .int mw6, .int mf6, .int mz6])), (qc, .inl (cI, 149, .inl mc6)), (hi, .inr (2, [.ref qb, .int ic])), (qb, .inl (cI, 24, .inl ib)), (qa, .inl (cI, 16, .inl xa)), (qg, .inl (cI, 4, .inl xg))]) [0, 5, 6, 3, 4, 1, 2] (by decide) rfl
    exact W.iret (v := r7) hx hb hr (fun t ht hW => ⟨⟨r7, (), rfl, rfl, by rw [ht]; exact hP9, va_K.moved hW.alike hK, hD9⟩, hS.F ht⟩) hS.2.2 d_A_end_48
  have hf := ift hf hc1
  refine lv_sipush (v := 27013) hx hb d_A_end_7 (by decide) ?_
  obtain ⟨e1_, e2_, e3_, e4_, e5_, e6_, e7_, e8_, e9_, e10_, e11_, e12_, e13_, e14_⟩ := lf14 hf
  subst e1_; subst e2_; subst e3_; subst e4_; subst e5_; subst e6_; subst e7_; subst e8_; subst e9_; subst e10_; subst e11_; subst e12_; subst e13_; subst e14_
  have hP9 := hP.sub (ws' := [(ha, .inr (0, [.ref hm, .ref hi, .ref qa, .ref qg, .int xl, .int xo, .int xs, .int xv, .int xp])), (hm, .inr (1, [.ref qc, .int mw, .int mf, .int mz])), (qc, .inl (cI, 149, .inl mc)), (hi, .inr (2, [.ref qb, .int ic])), (qb, .inl (cI, 24, .inl ib)), (qa, .inl (cI, 16, .inl xa)), (qg, .inl (cI, 4, .inl xg))]) [0, 1, 2, 3, 4, 5, 6] rfl
  have hD9 := hD.sub (ws' := [(ha, .inr (0, [.ref hm, .ref hi, .ref qa, .ref qg, .int xl, .int xo, .int xs, .int xv, .int xp])), (hm, .inr (1, [.ref qc, .int mw, .int mf, .int mz])), (qc, .inl (cI, 149, .inl mc)), (hi, .inr (2, [.ref qb, .int ic])), (qb, .inl (cI, 24, .inl ib)), (qa, .inl (cI, 16, .inl xa)), (qg, .inl (cI, 4, .inl xg))]) [0, 1, 2, 3, 4, 5, 6] (by decide) rfl
  exact W.iret (v := 27013) hx hb hr (fun t ht hW => ⟨⟨27013, (), rfl, rfl, by rw [ht]; exact hP9, va_K.moved hW.alike hK, hD9⟩, hS.F ht⟩) hS.2.2 d_A_end_10
theorem d_A_grant_0 : decode b_A_grant 0 = .ok (.aload_n 0, 1) := by decide +kernel
theorem d_A_grant_1 : decode b_A_grant 1 = .ok (.getfield 19, 3) := by decide +kernel
theorem d_A_grant_4 : decode b_A_grant 4 = .ok (.iconst 0, 1) := by decide +kernel
theorem d_A_grant_5 : decode b_A_grant 5 = .ok (.invokevirtual 192, 3) := by decide +kernel
theorem d_A_grant_8 : decode b_A_grant 8 = .ok (.istore_n 1, 1) := by decide +kernel
theorem d_A_grant_9 : decode b_A_grant 9 = .ok (.aload_n 0, 1) := by decide +kernel
theorem d_A_grant_10 : decode b_A_grant 10 = .ok (.getfield 19, 3) := by decide +kernel
theorem d_A_grant_13 : decode b_A_grant 13 = .ok (.iconst 1, 1) := by decide +kernel
theorem d_A_grant_14 : decode b_A_grant 14 = .ok (.invokevirtual 192, 3) := by decide +kernel
theorem d_A_grant_17 : decode b_A_grant 17 = .ok (.istore_n 2, 1) := by decide +kernel
theorem d_A_grant_18 : decode b_A_grant 18 = .ok (.aload_n 0, 1) := by decide +kernel
theorem d_A_grant_19 : decode b_A_grant 19 = .ok (.getfield 19, 3) := by decide +kernel
theorem d_A_grant_22 : decode b_A_grant 22 = .ok (.iconst 2, 1) := by decide +kernel
theorem d_A_grant_23 : decode b_A_grant 23 = .ok (.invokevirtual 192, 3) := by decide +kernel
theorem d_A_grant_26 : decode b_A_grant 26 = .ok (.istore_n 3, 1) := by decide +kernel
theorem d_A_grant_27 : decode b_A_grant 27 = .ok (.aload_n 0, 1) := by decide +kernel
theorem d_A_grant_28 : decode b_A_grant 28 = .ok (.getfield 19, 3) := by decide +kernel
theorem d_A_grant_31 : decode b_A_grant 31 = .ok (.iconst 3, 1) := by decide +kernel
theorem d_A_grant_32 : decode b_A_grant 32 = .ok (.invokevirtual 192, 3) := by decide +kernel
theorem d_A_grant_35 : decode b_A_grant 35 = .ok (.istore 4, 2) := by decide +kernel
theorem d_A_grant_37 : decode b_A_grant 37 = .ok (.iload_n 1, 1) := by decide +kernel
theorem d_A_grant_38 : decode b_A_grant 38 = .ok (.invokestatic 89, 3) := by decide +kernel
theorem d_A_grant_41 : decode b_A_grant 41 = .ok (.ifCond .eq 11, 3) := by decide +kernel
theorem d_A_grant_44 : decode b_A_grant 44 = .ok (.iload_n 1, 1) := by decide +kernel
theorem d_A_grant_45 : decode b_A_grant 45 = .ok (.aload_n 0, 1) := by decide +kernel
theorem d_A_grant_46 : decode b_A_grant 46 = .ok (.getfield 30, 3) := by decide +kernel
theorem d_A_grant_49 : decode b_A_grant 49 = .ok (.if_icmp .ne 7, 3) := by decide +kernel
theorem d_A_grant_52 : decode b_A_grant 52 = .ok (.sipush 27264, 3) := by decide +kernel
theorem d_A_grant_55 : decode b_A_grant 55 = .ok (.ireturn, 1) := by decide +kernel
theorem d_A_grant_56 : decode b_A_grant 56 = .ok (.iload_n 3, 1) := by decide +kernel
theorem d_A_grant_57 : decode b_A_grant 57 = .ok (.ifCond .eq 17, 3) := by decide +kernel
theorem d_A_grant_60 : decode b_A_grant 60 = .ok (.iload_n 2, 1) := by decide +kernel
theorem d_A_grant_61 : decode b_A_grant 61 = .ok (.iload_n 3, 1) := by decide +kernel
theorem d_A_grant_62 : decode b_A_grant 62 = .ok (.iadd, 1) := by decide +kernel
theorem d_A_grant_63 : decode b_A_grant 63 = .ok (.bipush 16, 2) := by decide +kernel
theorem d_A_grant_65 : decode b_A_grant 65 = .ok (.if_icmp .gt 9, 3) := by decide +kernel
theorem d_A_grant_68 : decode b_A_grant 68 = .ok (.iload 4, 2) := by decide +kernel
theorem d_A_grant_70 : decode b_A_grant 70 = .ok (.iconst 1, 1) := by decide +kernel
theorem d_A_grant_71 : decode b_A_grant 71 = .ok (.if_icmp .le 7, 3) := by decide +kernel
theorem d_A_grant_74 : decode b_A_grant 74 = .ok (.sipush 27264, 3) := by decide +kernel
theorem d_A_grant_77 : decode b_A_grant 77 = .ok (.ireturn, 1) := by decide +kernel
theorem d_A_grant_78 : decode b_A_grant 78 = .ok (.aload_n 0, 1) := by decide +kernel
theorem d_A_grant_79 : decode b_A_grant 79 = .ok (.getfield 19, 3) := by decide +kernel
theorem d_A_grant_82 : decode b_A_grant 82 = .ok (.invokevirtual 130, 3) := by decide +kernel
theorem d_A_grant_85 : decode b_A_grant 85 = .ok (.istore 5, 2) := by decide +kernel
theorem d_A_grant_87 : decode b_A_grant 87 = .ok (.aload_n 0, 1) := by decide +kernel
theorem d_A_grant_88 : decode b_A_grant 88 = .ok (.iload 5, 2) := by decide +kernel
theorem d_A_grant_90 : decode b_A_grant 90 = .ok (.invokevirtual 214, 3) := by decide +kernel
theorem d_A_grant_93 : decode b_A_grant 93 = .ok (.bipush (-2), 2) := by decide +kernel
theorem d_A_grant_95 : decode b_A_grant 95 = .ok (.if_icmp .eq 7, 3) := by decide +kernel
theorem d_A_grant_98 : decode b_A_grant 98 = .ok (.sipush 27273, 3) := by decide +kernel
theorem d_A_grant_101 : decode b_A_grant 101 = .ok (.ireturn, 1) := by decide +kernel
theorem d_A_grant_102 : decode b_A_grant 102 = .ok (.aload_n 0, 1) := by decide +kernel
theorem d_A_grant_103 : decode b_A_grant 103 = .ok (.getfield 27, 3) := by decide +kernel
theorem d_A_grant_106 : decode b_A_grant 106 = .ok (.iconst 0, 1) := by decide +kernel
theorem d_A_grant_107 : decode b_A_grant 107 = .ok (.iconst 1, 1) := by decide +kernel
theorem d_A_grant_108 : decode b_A_grant 108 = .ok (.iconst 4, 1) := by decide +kernel
theorem d_A_grant_109 : decode b_A_grant 109 = .ok (.aload_n 0, 1) := by decide +kernel
theorem d_A_grant_110 : decode b_A_grant 110 = .ok (.getfield 30, 3) := by decide +kernel
theorem d_A_grant_113 : decode b_A_grant 113 = .ok (.imul, 1) := by decide +kernel
theorem d_A_grant_114 : decode b_A_grant 114 = .ok (.iadd, 1) := by decide +kernel
theorem d_A_grant_115 : decode b_A_grant 115 = .ok (.iload_n 1, 1) := by decide +kernel
theorem d_A_grant_116 : decode b_A_grant 116 = .ok (.iadd, 1) := by decide +kernel
theorem d_A_grant_117 : decode b_A_grant 117 = .ok (.iastore, 1) := by decide +kernel
theorem d_A_grant_118 : decode b_A_grant 118 = .ok (.aload_n 0, 1) := by decide +kernel
theorem d_A_grant_119 : decode b_A_grant 119 = .ok (.getfield 27, 3) := by decide +kernel
theorem d_A_grant_122 : decode b_A_grant 122 = .ok (.iconst 1, 1) := by decide +kernel
theorem d_A_grant_123 : decode b_A_grant 123 = .ok (.iload_n 2, 1) := by decide +kernel
theorem d_A_grant_124 : decode b_A_grant 124 = .ok (.iastore, 1) := by decide +kernel
theorem d_A_grant_125 : decode b_A_grant 125 = .ok (.aload_n 0, 1) := by decide +kernel
theorem d_A_grant_126 : decode b_A_grant 126 = .ok (.getfield 27, 3) := by decide +kernel
theorem d_A_grant_129 : decode b_A_grant 129 = .ok (.iconst 2, 1) := by decide +kernel
theorem d_A_grant_130 : decode b_A_grant 130 = .ok (.iload_n 3, 1) := by decide +kernel
theorem d_A_grant_131 : decode b_A_grant 131 = .ok (.iastore, 1) := by decide +kernel
theorem d_A_grant_132 : decode b_A_grant 132 = .ok (.aload_n 0, 1) := by decide +kernel
theorem d_A_grant_133 : decode b_A_grant 133 = .ok (.getfield 27, 3) := by decide +kernel
theorem d_A_grant_136 : decode b_A_grant 136 = .ok (.iconst 3, 1) := by decide +kernel
theorem d_A_grant_137 : decode b_A_grant 137 = .ok (.iload 4, 2) := by decide +kernel
theorem d_A_grant_139 : decode b_A_grant 139 = .ok (.iastore, 1) := by decide +kernel
theorem d_A_grant_140 : decode b_A_grant 140 = .ok (.aload_n 0, 1) := by decide +kernel
theorem d_A_grant_141 : decode b_A_grant 141 = .ok (.iload 5, 2) := by decide +kernel
theorem d_A_grant_143 : decode b_A_grant 143 = .ok (.invokestatic 217, 3) := by decide +kernel
theorem d_A_grant_146 : decode b_A_grant 146 = .ok (.aload_n 0, 1) := by decide +kernel
theorem d_A_grant_147 : decode b_A_grant 147 = .ok (.getfield 27, 3) := by decide +kernel
theorem d_A_grant_150 : decode b_A_grant 150 = .ok (.iconst 0, 1) := by decide +kernel
theorem d_A_grant_151 : decode b_A_grant 151 = .ok (.iconst 4, 1) := by decide +kernel
theorem d_A_grant_152 : decode b_A_grant 152 = .ok (.invokevirtual 220, 3) := by decide +kernel
theorem d_A_grant_155 : decode b_A_grant 155 = .ok (.ireturn, 1) := by decide +kernel
def fA_grant (σ : StX) : Option (Int32 × StX) := match σ with | (mc, mw, mf, mz, ib, ic, xa, xg, xl, xo, xs, xv, xp) => bd1 (fI_payload (ib, ic) 0) fun r1 => bd1 (fI_payload (ib, ic) 1) fun r2 => bd1 (fI_payload (ib, ic) 2) fun r3 => bd1 (fI_payload (ib, ic) 3) fun r4 => bd1 (fA_isApplet r1) fun r5 => if r5 = 0 then (some (27264, mc, mw, mf, mz, ib, ic, xa, xg, xl, xo, xs, xv, xp)) else (if r1 = xs then (some (27264, mc, mw, mf, mz, ib, ic, xa, xg, xl, xo, xs, xv, xp)) else (if r3 = 0 then (some (27264, mc, mw, mf, mz, ib, ic, xa, xg, xl, xo, xs, xv, xp)) else (if 16 < (r2 + r3) then (some (27264, mc, mw, mf, mz, ib, ic, xa, xg, xl, xo, xs, xv, xp)) else (if r4 ≤ 1 then (bd1 (fI_p1 (ib, ic)) fun r11 => bd1 (fA_ownerOf (mc, mw, mf, mz, ib, ic, xa, xg, xl, xo, xs, xv, xp) r11) fun r12 => if r12 = (-2) then (ix 0 4 fun j14 => ix 1 4 fun j15 => ix 2 4 fun j16 => ix 3 4 fun j17 => bd1 (fA_sharePlace r11) fun r18 => bd14 (fA_store_qg (mc, mw, mf, mz, ib, ic, xa, upd (upd (upd (upd xg j14 ((1 + (4 * xs)) + r1)) j15 r2) j16 r3) j17 r4, xl, xo, xs, xv, xp) r18 0 4) fun r19 mc19 mw19 mf19 mz19 ib19 ic19 xa19 xg19 xl19 xo19 xs19 xv19 xp19 => some (r19, mc19, mw19, mf19, mz19, ib19, ic19, xa19, xg19, xl19, xo19, xs19, xv19, xp19)) else (some (27273, mc, mw, mf, mz, ib, ic, xa, xg, xl, xo, xs, xv, xp))) else (some (27264, mc, mw, mf, mz, ib, ic, xa, xg, xl, xo, xs, xv, xp))))))
set_option maxHeartbeats 4000000 in
set_option maxRecDepth 100000 in
theorem ctA_grant (l : Launch) (dC : Nat → ClassId) (dI : Nat → Nat → Nat) (cI : ClassId) (ha hm qc hi qb qa qg : Nat) (mc : Nat → Int32) (mw : Int32) (mf : Int32) (mz : Int32) (ib : Nat → Int32) (ic : Int32) (xa : Nat → Int32) (xg : Nat → Int32) (xl : Int32) (xo : Int32) (xs : Int32) (xv : Int32) (xp : Int32) (r : Int32) (mc' : Nat → Int32) (mw' : Int32) (mf' : Int32) (mz' : Int32) (ib' : Nat → Int32) (ic' : Int32) (xa' : Nat → Int32) (xg' : Nat → Int32) (xl' : Int32) (xo' : Int32) (xs' : Int32) (xv' : Int32) (xp' : Int32) (hf : fA_grant (mc, mw, mf, mz, ib, ic, xa, xg, xl, xo, xs, xv, xp) = some (r, mc', mw', mf', mz', ib', ic', xa', xg', xl', xo', xs', xv', xp')) : CtI l y_A_grant w_A_grant ({ frames := 3, cells := 0, slots := 0, locals := 70 }) (dC, dI) [(cI, .int)] [.ref ha] [(ha, .inr (0, [.ref hm, .ref hi, .ref qa, .ref qg, .int xl, .int xo, .int xs, .int xv, .int xp])), (hm, .inr (1, [.ref qc, .int mw, .int mf, .int mz])), (qc, .inl (cI, 149, .inl mc)), (hi, .inr (2, [.ref qb, .int ic])), (qb, .inl (cI, 24, .inl ib)), (qa, .inl (cI, 16, .inl xa)), (qg, .inl (cI, 4, .inl xg))] [(ha, .inr (0, [.ref hm, .ref hi, .ref qa, .ref qg, .int xl', .int xo', .int xs', .int xv', .int xp'])), (hm, .inr (1, [.ref qc, .int mw', .int mf', .int mz'])), (qc, .inl (cI, 149, .inl mc')), (hi, .inr (2, [.ref qb, .int ic'])), (qb, .inl (cI, 24, .inl ib')), (qa, .inl (cI, 16, .inl xa')), (qg, .inl (cI, 4, .inl xg'))] r := by
  intro sz
  refine Met.ofW (cc := b_A_grant) (maxL := 6) (ret := some .int) (by decide) rfl ?_
  intro p e s m args below meth c s₁ B hml hv
  obtain ⟨rfl, hsz, hP, hK, hD0⟩ := hv
  have hx := B.exec
  have hb := B.bytes
  have hr := B.returns
  have hts := atoms_spec (ws := w_A_grant) B.pre
  have hown : s.vm.findClass R_A = some m.cls := findClass_of_methodNamed B.named
  have hlocks := B.notSynchronized
  subst hsz
  have hD := hD0.self (sz := s.heap.size)
  generalize hAe : va_A [(ha, .inr (0, [.ref hm, .ref hi, .ref qa, .ref qg, .int xl, .int xo, .int xs, .int xv, .int xp])), (hm, .inr (1, [.ref qc, .int mw, .int mf, .int mz])), (qc, .inl (cI, 149, .inl mc)), (hi, .inr (2, [.ref qb, .int ic])), (qb, .inl (cI, 24, .inl ib)), (qa, .inl (cI, 16, .inl xa)), (qg, .inl (cI, 4, .inl xg))] s.heap.size = A at hD ⊢
  have hA : ∀ q : Nat, s.heap.size ≤ q → A q := fun q h => by rw [← hAe]; exact Or.inr h
  have hS : va_S A s.heap s.heap [] := va_S.rf
  have hP : va_P (dC, dI) vwCl [(ha, .inr (0, [.ref hm, .ref hi, .ref qa, .ref qg, .int xl, .int xo, .int xs, .int xv, .int xp])), (hm, .inr (1, [.ref qc, .int mw, .int mf, .int mz])), (qc, .inl (cI, 149, .inl mc)), (hi, .inr (2, [.ref qb, .int ic])), (qb, .inl (cI, 24, .inl ib)), (qa, .inl (cI, 16, .inl xa)), (qg, .inl (cI, 4, .inl xg))] s.heap := hP
  have hl := lv_entry ([.ref ha]) (n := 6) (Nat.le_of_ble_eq_true rfl)
  rw [lg_entry_eq]
  generalize (lg_sl ([.ref ha]) ++ List.replicate (6 - (lg_sl ([.ref ha])).length) Slot.unset).toArray = ls at hl ⊢
  have hl : lv_has ls 6 [(0, .ref ha)] := hl
  have inA : ∀ w ∈ u_ws R_A F_A 9, w ∈ w_A_grant := fun w h => List.mem_cons_of_mem _ (in_A w h)
  have kf19 := hts _ (List.mem_cons_of_mem _ wq92)
  have kf27 := hts _ (List.mem_cons_of_mem _ wq94)
  have kf30 := hts _ (List.mem_cons_of_mem _ wq97)
  rw [fA_grant] at hf
  refine lv_aload_n hx hb d_A_grant_0 rfl (lv_at hl 0 rfl) ?_
  refine va_get (D := (dC, dI)) (ci := 0) (v := .ref hi) (C := R_A) (T := F_A) (N := 9) hx hb hts inA hown hK hP 0 rfl rfl 1 (by decide) kf19 (fun _ h9 => h9) rfl d_A_grant_1 ?_
  refine lv_iconst (v := 0) hx hb d_A_grant_4 (by decide) ?_
  obtain ⟨r1, hg, hf⟩ := bd1_some hf
  refine xci (wr := [(ha, .inr (0, [.ref hm, .ref hi, .ref qa, .ref qg, .int xl, .int xo, .int xs, .int xv, .int xp])), (hm, .inr (1, [.ref qc, .int mw, .int mf, .int mz])), (qc, .inl (cI, 149, .inl mc)), (qa, .inl (cI, 16, .inl xa)), (qg, .inl (cI, 4, .inl xg))]) (ctI_payload l dC dI cI hi qb ib ic 0 r1 hg) ⟨hx, hb, hml, hown, hts⟩ (cwV (C := R_I) 1 hts (gV wq199 wq200 wq201 wq45 wq202) rfl rfl rfl (by decide +kernel) ⟨Nat.le_of_ble_eq_true rfl, Nat.le_of_ble_eq_true rfl⟩) hK hP hD hS hA [3, 4] [0, 1, 2, 5, 6] rfl rfl rfl rfl (by decide) (ci := 2) (q0 := 3) rfl rfl rfl rfl hl.1 rfl (Nat.le_of_ble_eq_true rfl) d_A_grant_5 ⟨Nat.zero_le _, Nat.zero_le _⟩ (fun H locs hP hD hS => ?_)
  have hP : va_P (dC, dI) vwCl [(ha, .inr (0, [.ref hm, .ref hi, .ref qa, .ref qg, .int xl, .int xo, .int xs, .int xv, .int xp])), (hm, .inr (1, [.ref qc, .int mw, .int mf, .int mz])), (qc, .inl (cI, 149, .inl mc)), (qa, .inl (cI, 16, .inl xa)), (qg, .inl (cI, 4, .inl xg)), (hi, .inr (2, [.ref qb, .int ic])), (qb, .inl (cI, 24, .inl ib))] H := hP
  have hD : va_D A [(ha, .inr (0, [.ref hm, .ref hi, .ref qa, .ref qg, .int xl, .int xo, .int xs, .int xv, .int xp])), (hm, .inr (1, [.ref qc, .int mw, .int mf, .int mz])), (qc, .inl (cI, 149, .inl mc)), (qa, .inl (cI, 16, .inl xa)), (qg, .inl (cI, 4, .inl xg)), (hi, .inr (2, [.ref qb, .int ic])), (qb, .inl (cI, 24, .inl ib))] := hD
  refine lv_istore_n hx hb d_A_grant_8 rfl hl (by decide) rfl (fun ls hl => ?_)
  have hl : lv_has ls 6 [(1, .int r1), (0, .ref ha)] := hl
  refine lv_aload_n hx hb d_A_grant_9 rfl (lv_at hl 1 rfl) ?_
  refine va_get (D := (dC, dI)) (ci := 0) (v := .ref hi) (C := R_A) (T := F_A) (N := 9) hx hb hts inA hown hK hP 0 rfl rfl 1 (by decide) kf19 (fun _ h9 => h9) rfl d_A_grant_10 ?_
  refine lv_iconst (v := 1) hx hb d_A_grant_13 (by decide) ?_
  obtain ⟨r2, hg, hf⟩ := bd1_some hf
  refine xci (wr := [(ha, .inr (0, [.ref hm, .ref hi, .ref qa, .ref qg, .int xl, .int xo, .int xs, .int xv, .int xp])), (hm, .inr (1, [.ref qc, .int mw, .int mf, .int mz])), (qc, .inl (cI, 149, .inl mc)), (qa, .inl (cI, 16, .inl xa)), (qg, .inl (cI, 4, .inl xg))]) (ctI_payload l dC dI cI hi qb ib ic 1 r2 hg) ⟨hx, hb, hml, hown, hts⟩ (cwV (C := R_I) 1 hts (gV wq199 wq200 wq201 wq45 wq202) rfl rfl rfl (by decide +kernel) ⟨Nat.le_of_ble_eq_true rfl, Nat.le_of_ble_eq_true rfl⟩) hK hP hD hS hA [5, 6] [0, 1, 2, 3, 4] rfl rfl rfl rfl (by decide) (ci := 2) (q0 := 5) rfl rfl rfl rfl hl.1 rfl (Nat.le_of_ble_eq_true rfl) d_A_grant_14 ⟨Nat.zero_le _, Nat.zero_le _⟩ (fun H locs hP hD hS => ?_)
  have hP : va_P (dC, dI) vwCl [(ha, .inr (0, [.ref hm, .ref hi, .ref qa, .ref qg, .int xl, .int xo, .int xs, .int xv, .int xp])), (hm, .inr (1, [.ref qc, .int mw, .int mf, .int mz])), (qc, .inl (cI, 149, .inl mc)), (qa, .inl (cI, 16, .inl xa)), (qg, .inl (cI, 4, .inl xg)), (hi, .inr (2, [.ref qb, .int ic])), (qb, .inl (cI, 24, .inl ib))] H := hP
  have hD : va_D A [(ha, .inr (0, [.ref hm, .ref hi, .ref qa, .ref qg, .int xl, .int xo, .int xs, .int xv, .int xp])), (hm, .inr (1, [.ref qc, .int mw, .int mf, .int mz])), (qc, .inl (cI, 149, .inl mc)), (qa, .inl (cI, 16, .inl xa)), (qg, .inl (cI, 4, .inl xg)), (hi, .inr (2, [.ref qb, .int ic])), (qb, .inl (cI, 24, .inl ib))] := hD
  refine lv_istore_n hx hb d_A_grant_17 rfl hl (by decide) rfl (fun ls hl => ?_)
  have hl : lv_has ls 6 [(2, .int r2), (1, .int r1), (0, .ref ha)] := hl
  refine lv_aload_n hx hb d_A_grant_18 rfl (lv_at hl 2 rfl) ?_
  refine va_get (D := (dC, dI)) (ci := 0) (v := .ref hi) (C := R_A) (T := F_A) (N := 9) hx hb hts inA hown hK hP 0 rfl rfl 1 (by decide) kf19 (fun _ h9 => h9) rfl d_A_grant_19 ?_
  refine lv_iconst (v := 2) hx hb d_A_grant_22 (by decide) ?_
  obtain ⟨r3, hg, hf⟩ := bd1_some hf
  refine xci (wr := [(ha, .inr (0, [.ref hm, .ref hi, .ref qa, .ref qg, .int xl, .int xo, .int xs, .int xv, .int xp])), (hm, .inr (1, [.ref qc, .int mw, .int mf, .int mz])), (qc, .inl (cI, 149, .inl mc)), (qa, .inl (cI, 16, .inl xa)), (qg, .inl (cI, 4, .inl xg))]) (ctI_payload l dC dI cI hi qb ib ic 2 r3 hg) ⟨hx, hb, hml, hown, hts⟩ (cwV (C := R_I) 1 hts (gV wq199 wq200 wq201 wq45 wq202) rfl rfl rfl (by decide +kernel) ⟨Nat.le_of_ble_eq_true rfl, Nat.le_of_ble_eq_true rfl⟩) hK hP hD hS hA [5, 6] [0, 1, 2, 3, 4] rfl rfl rfl rfl (by decide) (ci := 2) (q0 := 5) rfl rfl rfl rfl hl.1 rfl (Nat.le_of_ble_eq_true rfl) d_A_grant_23 ⟨Nat.zero_le _, Nat.zero_le _⟩ (fun H locs hP hD hS => ?_)
  have hP : va_P (dC, dI) vwCl [(ha, .inr (0, [.ref hm, .ref hi, .ref qa, .ref qg, .int xl, .int xo, .int xs, .int xv, .int xp])), (hm, .inr (1, [.ref qc, .int mw, .int mf, .int mz])), (qc, .inl (cI, 149, .inl mc)), (qa, .inl (cI, 16, .inl xa)), (qg, .inl (cI, 4, .inl xg)), (hi, .inr (2, [.ref qb, .int ic])), (qb, .inl (cI, 24, .inl ib))] H := hP
  have hD : va_D A [(ha, .inr (0, [.ref hm, .ref hi, .ref qa, .ref qg, .int xl, .int xo, .int xs, .int xv, .int xp])), (hm, .inr (1, [.ref qc, .int mw, .int mf, .int mz])), (qc, .inl (cI, 149, .inl mc)), (qa, .inl (cI, 16, .inl xa)), (qg, .inl (cI, 4, .inl xg)), (hi, .inr (2, [.ref qb, .int ic])), (qb, .inl (cI, 24, .inl ib))] := hD
  refine lv_istore_n hx hb d_A_grant_26 rfl hl (by decide) rfl (fun ls hl => ?_)
  have hl : lv_has ls 6 [(3, .int r3), (2, .int r2), (1, .int r1), (0, .ref ha)] := hl
  refine lv_aload_n hx hb d_A_grant_27 rfl (lv_at hl 3 rfl) ?_
  refine va_get (D := (dC, dI)) (ci := 0) (v := .ref hi) (C := R_A) (T := F_A) (N := 9) hx hb hts inA hown hK hP 0 rfl rfl 1 (by decide) kf19 (fun _ h9 => h9) rfl d_A_grant_28 ?_
  refine lv_iconst (v := 3) hx hb d_A_grant_31 (by decide) ?_
  obtain ⟨r4, hg, hf⟩ := bd1_some hf
  refine xci (wr := [(ha, .inr (0, [.ref hm, .ref hi, .ref qa, .ref qg, .int xl, .int xo, .int xs, .int xv, .int xp])), (hm, .inr (1, [.ref qc, .int mw, .int mf, .int mz])), (qc, .inl (cI, 149, .inl mc)), (qa, .inl (cI, 16, .inl xa)), (qg, .inl (cI, 4, .inl xg))]) (ctI_payload l dC dI cI hi qb ib ic 3 r4 hg) ⟨hx, hb, hml, hown, hts⟩ (cwV (C := R_I) 1 hts (gV wq199 wq200 wq201 wq45 wq202) rfl rfl rfl (by decide +kernel) ⟨Nat.le_of_ble_eq_true rfl, Nat.le_of_ble_eq_true rfl⟩) hK hP hD hS hA [5, 6] [0, 1, 2, 3, 4] rfl rfl rfl rfl (by decide) (ci := 2) (q0 := 5) rfl rfl rfl rfl hl.1 rfl (Nat.le_of_ble_eq_true rfl) d_A_grant_32 ⟨Nat.zero_le _, Nat.zero_le _⟩ (fun H locs hP hD hS => ?_)
  have hP : va_P (dC, dI) vwCl [(ha, .inr (0, [.ref hm, .ref hi, .ref qa, .ref qg, .int xl, .int xo, .int xs, .int xv, .int xp])), (hm, .inr (1, [.ref qc, .int mw, .int mf, .int mz])), (qc, .inl (cI, 149, .inl mc)), (qa, .inl (cI, 16, .inl xa)), (qg, .inl (cI, 4, .inl xg)), (hi, .inr (2, [.ref qb, .int ic])), (qb, .inl (cI, 24, .inl ib))] H := hP
  have hD : va_D A [(ha, .inr (0, [.ref hm, .ref hi, .ref qa, .ref qg, .int xl, .int xo, .int xs, .int xv, .int xp])), (hm, .inr (1, [.ref qc, .int mw, .int mf, .int mz])), (qc, .inl (cI, 149, .inl mc)), (qa, .inl (cI, 16, .inl xa)), (qg, .inl (cI, 4, .inl xg)), (hi, .inr (2, [.ref qb, .int ic])), (qb, .inl (cI, 24, .inl ib))] := hD
  refine lv_istore hx hb d_A_grant_35 hl (by decide) rfl (fun ls hl => ?_)
  have hl : lv_has ls 6 [(4, .int r4), (3, .int r3), (2, .int r2), (1, .int r1), (0, .ref ha)] := hl
  refine lv_iload_n hx hb d_A_grant_37 rfl (lv_at hl 3 rfl) ?_
  obtain ⟨r5, hg, hf⟩ := bd1_some hf
  refine xsz (ctA_isApplet l dC dI cI r1 r5 hg) ⟨hx, hb, hml, hown, hts⟩ (va_cwS 1 hts (gS wq203 wq204 wq43 wq205) rfl rfl rfl (by decide +kernel) ⟨Nat.le_of_ble_eq_true rfl, Nat.le_of_ble_eq_true rfl⟩) hK hP hD hS hA rfl hl.1 rfl (Nat.le_of_ble_eq_true rfl) d_A_grant_38 ⟨Nat.zero_le _, Nat.zero_le _⟩ (fun H locs hn5 hP hD hS => ?_)
  refine lv_if_eq (tgt := 52) hx hb d_A_grant_41 rfl (fun hc6 => ?_) (fun hc6 => ?_)
  · have hf := ift hf hc6
    refine lv_sipush (v := 27264) hx hb d_A_grant_52 (by decide) ?_
    obtain ⟨e1_, e2_, e3_, e4_, e5_, e6_, e7_, e8_, e9_, e10_, e11_, e12_, e13_, e14_⟩ := lf14 hf
    subst e1_; subst e2_; subst e3_; subst e4_; subst e5_; subst e6_; subst e7_; subst e8_; subst e9_; subst e10_; subst e11_; subst e12_; subst e13_; subst e14_
    have hP9 := hP.sub (ws' := [(ha, .inr (0, [.ref hm, .ref hi, .ref qa, .ref qg, .int xl, .int xo, .int xs, .int xv, .int xp])), (hm, .inr (1, [.ref qc, .int mw, .int mf, .int mz])), (qc, .inl (cI, 149, .inl mc)), (hi, .inr (2, [.ref qb, .int ic])), (qb, .inl (cI, 24, .inl ib)), (qa, .inl (cI, 16, .inl xa)), (qg, .inl (cI, 4, .inl xg))]) [0, 1, 2, 5, 6, 3, 4] rfl
    have hD9 := hD.sub (ws' := [(ha, .inr (0, [.ref hm, .ref hi, .ref qa, .ref qg, .int xl, .int xo, .int xs, .int xv, .int xp])), (hm, .inr (1, [.ref qc, .int mw, .int mf, .int mz])), (qc, .inl (cI, 149, .inl mc)), (hi, .inr (2, [.ref qb, .int ic])), (qb, .inl (cI, 24, .inl ib)), (qa, .inl (cI, 16, .inl xa)), (qg, .inl (cI, 4, .inl xg))]) [0, 1, 2, 5, 6, 3, 4] (by decide) rfl
    exact W.iret (v := 27264) hx hb hr (fun t ht hW => ⟨⟨27264, (), rfl, rfl, by rw [ht]; exact hP9, va_K.moved hW.alike hK, hD9⟩, hS.F ht⟩) hS.2.2 d_A_grant_55
  have hf := ifn hf hc6
  refine lv_iload_n hx hb d_A_grant_44 rfl (lv_at hl 3 rfl) ?_
  refine lv_aload_n hx hb d_A_grant_45 rfl (lv_at hl 4 rfl) ?_
  refine va_get (D := (dC, dI)) (ci := 0) (v := .int xs) (C := R_A) (T := F_A) (N := 9) hx hb hts inA hown hK hP 0 rfl rfl 6 (by decide) kf30 (fun _ h9 => h9) rfl d_A_grant_46 ?_
  refine lv_icmp_ne (tgt := 56) hx hb d_A_grant_49 rfl (fun hc7 => ?_) (fun hc7 => ?_)
  · have hf := ifn hf hc7
    refine lv_iload_n hx hb d_A_grant_56 rfl (lv_at hl 1 rfl) ?_
    refine lv_if_eq (tgt := 74) hx hb d_A_grant_57 rfl (fun hc8 => ?_) (fun hc8 => ?_)
    · have hf := ift hf hc8
      refine lv_sipush (v := 27264) hx hb d_A_grant_74 (by decide) ?_
      obtain ⟨e1_, e2_, e3_, e4_, e5_, e6_, e7_, e8_, e9_, e10_, e11_, e12_, e13_, e14_⟩ := lf14 hf
      subst e1_; subst e2_; subst e3_; subst e4_; subst e5_; subst e6_; subst e7_; subst e8_; subst e9_; subst e10_; subst e11_; subst e12_; subst e13_; subst e14_
      have hP9 := hP.sub (ws' := [(ha, .inr (0, [.ref hm, .ref hi, .ref qa, .ref qg, .int xl, .int xo, .int xs, .int xv, .int xp])), (hm, .inr (1, [.ref qc, .int mw, .int mf, .int mz])), (qc, .inl (cI, 149, .inl mc)), (hi, .inr (2, [.ref qb, .int ic])), (qb, .inl (cI, 24, .inl ib)), (qa, .inl (cI, 16, .inl xa)), (qg, .inl (cI, 4, .inl xg))]) [0, 1, 2, 5, 6, 3, 4] rfl
      have hD9 := hD.sub (ws' := [(ha, .inr (0, [.ref hm, .ref hi, .ref qa, .ref qg, .int xl, .int xo, .int xs, .int xv, .int xp])), (hm, .inr (1, [.ref qc, .int mw, .int mf, .int mz])), (qc, .inl (cI, 149, .inl mc)), (hi, .inr (2, [.ref qb, .int ic])), (qb, .inl (cI, 24, .inl ib)), (qa, .inl (cI, 16, .inl xa)), (qg, .inl (cI, 4, .inl xg))]) [0, 1, 2, 5, 6, 3, 4] (by decide) rfl
      exact W.iret (v := 27264) hx hb hr (fun t ht hW => ⟨⟨27264, (), rfl, rfl, by rw [ht]; exact hP9, va_K.moved hW.alike hK, hD9⟩, hS.F ht⟩) hS.2.2 d_A_grant_77
    have hf := ifn hf hc8
    refine lv_iload_n hx hb d_A_grant_60 rfl (lv_at hl 2 rfl) ?_
    refine lv_iload_n hx hb d_A_grant_61 rfl (lv_at hl 1 rfl) ?_
    refine lv_iadd hx hb d_A_grant_62 ?_
    refine lv_bipush (v := 16) hx hb d_A_grant_63 (by decide) ?_
    refine lv_icmp_gt (tgt := 74) hx hb d_A_grant_65 rfl (fun hc9 => ?_) (fun hc9 => ?_)
    · have hf := ift hf hc9
      refine lv_sipush (v := 27264) hx hb d_A_grant_74 (by decide) ?_
      obtain ⟨e1_, e2_, e3_, e4_, e5_, e6_, e7_, e8_, e9_, e10_, e11_, e12_, e13_, e14_⟩ := lf14 hf
      subst e1_; subst e2_; subst e3_; subst e4_; subst e5_; subst e6_; subst e7_; subst e8_; subst e9_; subst e10_; subst e11_; subst e12_; subst e13_; subst e14_
      have hP9 := hP.sub (ws' := [(ha, .inr (0, [.ref hm, .ref hi, .ref qa, .ref qg, .int xl, .int xo, .int xs, .int xv, .int xp])), (hm, .inr (1, [.ref qc, .int mw, .int mf, .int mz])), (qc, .inl (cI, 149, .inl mc)), (hi, .inr (2, [.ref qb, .int ic])), (qb, .inl (cI, 24, .inl ib)), (qa, .inl (cI, 16, .inl xa)), (qg, .inl (cI, 4, .inl xg))]) [0, 1, 2, 5, 6, 3, 4] rfl
      have hD9 := hD.sub (ws' := [(ha, .inr (0, [.ref hm, .ref hi, .ref qa, .ref qg, .int xl, .int xo, .int xs, .int xv, .int xp])), (hm, .inr (1, [.ref qc, .int mw, .int mf, .int mz])), (qc, .inl (cI, 149, .inl mc)), (hi, .inr (2, [.ref qb, .int ic])), (qb, .inl (cI, 24, .inl ib)), (qa, .inl (cI, 16, .inl xa)), (qg, .inl (cI, 4, .inl xg))]) [0, 1, 2, 5, 6, 3, 4] (by decide) rfl
      exact W.iret (v := 27264) hx hb hr (fun t ht hW => ⟨⟨27264, (), rfl, rfl, by rw [ht]; exact hP9, va_K.moved hW.alike hK, hD9⟩, hS.F ht⟩) hS.2.2 d_A_grant_77
    have hf := ifn hf hc9
    refine lv_iload hx hb d_A_grant_68 (lv_at hl 0 rfl) ?_
    refine lv_iconst (v := 1) hx hb d_A_grant_70 (by decide) ?_
    refine lv_icmp_le (tgt := 78) hx hb d_A_grant_71 rfl (fun hc10 => ?_) (fun hc10 => ?_)
    · have hf := ift hf hc10
      refine lv_aload_n hx hb d_A_grant_78 rfl (lv_at hl 4 rfl) ?_
      refine va_get (D := (dC, dI)) (ci := 0) (v := .ref hi) (C := R_A) (T := F_A) (N := 9) hx hb hts inA hown hK hP 0 rfl rfl 1 (by decide) kf19 (fun _ h9 => h9) rfl d_A_grant_79 ?_
      obtain ⟨r11, hg, hf⟩ := bd1_some hf
      refine xci (wr := [(ha, .inr (0, [.ref hm, .ref hi, .ref qa, .ref qg, .int xl, .int xo, .int xs, .int xv, .int xp])), (hm, .inr (1, [.ref qc, .int mw, .int mf, .int mz])), (qc, .inl (cI, 149, .inl mc)), (qa, .inl (cI, 16, .inl xa)), (qg, .inl (cI, 4, .inl xg))]) (ctI_p1 l dC dI cI hi qb ib ic r11 hg) ⟨hx, hb, hml, hown, hts⟩ (cwV (C := R_I) 0 hts (gV wq164 wq165 wq166 wq45 wq167) rfl rfl rfl (by decide +kernel) ⟨Nat.le_of_ble_eq_true rfl, Nat.le_of_ble_eq_true rfl⟩) hK hP hD hS hA [5, 6] [0, 1, 2, 3, 4] rfl rfl rfl rfl (by decide) (ci := 2) (q0 := 5) rfl rfl rfl rfl hl.1 rfl (Nat.le_of_ble_eq_true rfl) d_A_grant_82 ⟨Nat.zero_le _, Nat.zero_le _⟩ (fun H locs hP hD hS => ?_)
      have hP : va_P (dC, dI) vwCl [(ha, .inr (0, [.ref hm, .ref hi, .ref qa, .ref qg, .int xl, .int xo, .int xs, .int xv, .int xp])), (hm, .inr (1, [.ref qc, .int mw, .int mf, .int mz])), (qc, .inl (cI, 149, .inl mc)), (qa, .inl (cI, 16, .inl xa)), (qg, .inl (cI, 4, .inl xg)), (hi, .inr (2, [.ref qb, .int ic])), (qb, .inl (cI, 24, .inl ib))] H := hP
      have hD : va_D A [(ha, .inr (0, [.ref hm, .ref hi, .ref qa, .ref qg, .int xl, .int xo, .int xs, .int xv, .int xp])), (hm, .inr (1, [.ref qc, .int mw, .int mf, .int mz])), (qc, .inl (cI, 149, .inl mc)), (qa, .inl (cI, 16, .inl xa)), (qg, .inl (cI, 4, .inl xg)), (hi, .inr (2, [.ref qb, .int ic])), (qb, .inl (cI, 24, .inl ib))] := hD
      refine lv_istore hx hb d_A_grant_85 hl (by decide) rfl (fun ls hl => ?_)
      have hl : lv_has ls 6 [(5, .int r11), (4, .int r4), (3, .int r3), (2, .int r2), (1, .int r1), (0, .ref ha)] := hl
      refine lv_aload_n hx hb d_A_grant_87 rfl (lv_at hl 5 rfl) ?_
      refine lv_iload hx hb d_A_grant_88 (lv_at hl 0 rfl) ?_
      obtain ⟨r12, hg, hf⟩ := bd1_some hf
      refine xci (wr := []) (ctA_ownerOf l dC dI cI ha hm qc hi qb qa qg mc mw mf mz ib ic xa xg xl xo xs xv xp r11 r12 hg) ⟨hx, hb, hml, hown, hts⟩ (cwV (C := R_A) 1 hts (gV wq297 wq299 wq14 wq43 wq300) rfl rfl rfl (by decide +kernel) ⟨Nat.le_of_ble_eq_true rfl, Nat.le_of_ble_eq_true rfl⟩) hK hP hD hS hA [0, 1, 2, 5, 6, 3, 4] [] rfl rfl rfl rfl (by decide) (ci := 0) (q0 := 0) rfl rfl rfl rfl hl.1 rfl (Nat.le_of_ble_eq_true rfl) d_A_grant_90 ⟨Nat.zero_le _, Nat.zero_le _⟩ (fun H locs hP hD hS => ?_)
      have hP : va_P (dC, dI) vwCl [(ha, .inr (0, [.ref hm, .ref hi, .ref qa, .ref qg, .int xl, .int xo, .int xs, .int xv, .int xp])), (hm, .inr (1, [.ref qc, .int mw, .int mf, .int mz])), (qc, .inl (cI, 149, .inl mc)), (hi, .inr (2, [.ref qb, .int ic])), (qb, .inl (cI, 24, .inl ib)), (qa, .inl (cI, 16, .inl xa)), (qg, .inl (cI, 4, .inl xg))] H := hP
      have hD : va_D A [(ha, .inr (0, [.ref hm, .ref hi, .ref qa, .ref qg, .int xl, .int xo, .int xs, .int xv, .int xp])), (hm, .inr (1, [.ref qc, .int mw, .int mf, .int mz])), (qc, .inl (cI, 149, .inl mc)), (hi, .inr (2, [.ref qb, .int ic])), (qb, .inl (cI, 24, .inl ib)), (qa, .inl (cI, 16, .inl xa)), (qg, .inl (cI, 4, .inl xg))] := hD
      refine lv_bipush (v := (-2)) hx hb d_A_grant_93 (by decide) ?_
      refine lv_icmp_eq (tgt := 102) hx hb d_A_grant_95 rfl (fun hc13 => ?_) (fun hc13 => ?_)
      · have hf := ift hf hc13
        refine lv_aload_n hx hb d_A_grant_102 rfl (lv_at hl 5 rfl) ?_
        refine va_get (D := (dC, dI)) (ci := 0) (v := .ref qg) (C := R_A) (T := F_A) (N := 9) hx hb hts inA hown hK hP 0 rfl rfl 3 (by decide) kf27 (fun _ h9 => h9) rfl d_A_grant_103 ?_
        refine lv_iconst (v := 0) hx hb d_A_grant_106 (by decide) ?_
        refine lv_iconst (v := 1) hx hb d_A_grant_107 (by decide) ?_
        refine lv_iconst (v := 4) hx hb d_A_grant_108 (by decide) ?_
        refine lv_aload_n hx hb d_A_grant_109 rfl (lv_at hl 5 rfl) ?_
        refine va_get (D := (dC, dI)) (ci := 0) (v := .int xs) (C := R_A) (T := F_A) (N := 9) hx hb hts inA hown hK hP 0 rfl rfl 6 (by decide) kf30 (fun _ h9 => h9) rfl d_A_grant_110 ?_
        refine lv_imul hx hb d_A_grant_113 ?_
        refine lv_iadd hx hb d_A_grant_114 ?_
        refine lv_iload_n hx hb d_A_grant_115 rfl (lv_at hl 4 rfl) ?_
        refine lv_iadd hx hb d_A_grant_116 ?_
        obtain ⟨hin_, hf⟩ := ix_some hf
        refine va_iast hx hb hK hP hD hS 6 0 rfl rfl hin_ d_A_grant_117 (fun H locs hP hD hS => ?_)
        have hP : va_P (dC, dI) vwCl [(ha, .inr (0, [.ref hm, .ref hi, .ref qa, .ref qg, .int xl, .int xo, .int xs, .int xv, .int xp])), (hm, .inr (1, [.ref qc, .int mw, .int mf, .int mz])), (qc, .inl (cI, 149, .inl mc)), (hi, .inr (2, [.ref qb, .int ic])), (qb, .inl (cI, 24, .inl ib)), (qa, .inl (cI, 16, .inl xa)), (qg, .inl (cI, 4, .inl (upd xg (0 : Int32).toNatClampNeg ((1 + (4 * xs)) + r1))))] H := hP
        have hD : va_D A [(ha, .inr (0, [.ref hm, .ref hi, .ref qa, .ref qg, .int xl, .int xo, .int xs, .int xv, .int xp])), (hm, .inr (1, [.ref qc, .int mw, .int mf, .int mz])), (qc, .inl (cI, 149, .inl mc)), (hi, .inr (2, [.ref qb, .int ic])), (qb, .inl (cI, 24, .inl ib)), (qa, .inl (cI, 16, .inl xa)), (qg, .inl (cI, 4, .inl (upd xg (0 : Int32).toNatClampNeg ((1 + (4 * xs)) + r1))))] := hD
        refine lv_aload_n hx hb d_A_grant_118 rfl (lv_at hl 5 rfl) ?_
        refine va_get (D := (dC, dI)) (ci := 0) (v := .ref qg) (C := R_A) (T := F_A) (N := 9) hx hb hts inA hown hK hP 0 rfl rfl 3 (by decide) kf27 (fun _ h9 => h9) rfl d_A_grant_119 ?_
        refine lv_iconst (v := 1) hx hb d_A_grant_122 (by decide) ?_
        refine lv_iload_n hx hb d_A_grant_123 rfl (lv_at hl 3 rfl) ?_
        obtain ⟨hin_, hf⟩ := ix_some hf
        refine va_iast hx hb hK hP hD hS 6 0 rfl rfl hin_ d_A_grant_124 (fun H locs hP hD hS => ?_)
        have hP : va_P (dC, dI) vwCl [(ha, .inr (0, [.ref hm, .ref hi, .ref qa, .ref qg, .int xl, .int xo, .int xs, .int xv, .int xp])), (hm, .inr (1, [.ref qc, .int mw, .int mf, .int mz])), (qc, .inl (cI, 149, .inl mc)), (hi, .inr (2, [.ref qb, .int ic])), (qb, .inl (cI, 24, .inl ib)), (qa, .inl (cI, 16, .inl xa)), (qg, .inl (cI, 4, .inl (upd (upd xg (0 : Int32).toNatClampNeg ((1 + (4 * xs)) + r1)) (1 : Int32).toNatClampNeg r2)))] H := hP
        have hD : va_D A [(ha, .inr (0, [.ref hm, .ref hi, .ref qa, .ref qg, .int xl, .int xo, .int xs, .int xv, .int xp])), (hm, .inr (1, [.ref qc, .int mw, .int mf, .int mz])), (qc, .inl (cI, 149, .inl mc)), (hi, .inr (2, [.ref qb, .int ic])), (qb, .inl (cI, 24, .inl ib)), (qa, .inl (cI, 16, .inl xa)), (qg, .inl (cI, 4, .inl (upd (upd xg (0 : Int32).toNatClampNeg ((1 + (4 * xs)) + r1)) (1 : Int32).toNatClampNeg r2)))] := hD
        refine lv_aload_n hx hb d_A_grant_125 rfl (lv_at hl 5 rfl) ?_
        refine va_get (D := (dC, dI)) (ci := 0) (v := .ref qg) (C := R_A) (T := F_A) (N := 9) hx hb hts inA hown hK hP 0 rfl rfl 3 (by decide) kf27 (fun _ h9 => h9) rfl d_A_grant_126 ?_
        refine lv_iconst (v := 2) hx hb d_A_grant_129 (by decide) ?_
        refine lv_iload_n hx hb d_A_grant_130 rfl (lv_at hl 2 rfl) ?_
        obtain ⟨hin_, hf⟩ := ix_some hf
        refine va_iast hx hb hK hP hD hS 6 0 rfl rfl hin_ d_A_grant_131 (fun H locs hP hD hS => ?_)
        have hP : va_P (dC, dI) vwCl [(ha, .inr (0, [.ref hm, .ref hi, .ref qa, .ref qg, .int xl, .int xo, .int xs, .int xv, .int xp])), (hm, .inr (1, [.ref qc, .int mw, .int mf, .int mz])), (qc, .inl (cI, 149, .inl mc)), (hi, .inr (2, [.ref qb, .int ic])), (qb, .inl (cI, 24, .inl ib)), (qa, .inl (cI, 16, .inl xa)), (qg, .inl (cI, 4, .inl (upd (upd (upd xg (0 : Int32).toNatClampNeg ((1 + (4 * xs)) + r1)) (1 : Int32).toNatClampNeg r2) (2 : Int32).toNatClampNeg r3)))] H := hP
        have hD : va_D A [(ha, .inr (0, [.ref hm, .ref hi, .ref qa, .ref qg, .int xl, .int xo, .int xs, .int xv, .int xp])), (hm, .inr (1, [.ref qc, .int mw, .int mf, .int mz])), (qc, .inl (cI, 149, .inl mc)), (hi, .inr (2, [.ref qb, .int ic])), (qb, .inl (cI, 24, .inl ib)), (qa, .inl (cI, 16, .inl xa)), (qg, .inl (cI, 4, .inl (upd (upd (upd xg (0 : Int32).toNatClampNeg ((1 + (4 * xs)) + r1)) (1 : Int32).toNatClampNeg r2) (2 : Int32).toNatClampNeg r3)))] := hD
        refine lv_aload_n hx hb d_A_grant_132 rfl (lv_at hl 5 rfl) ?_
        refine va_get (D := (dC, dI)) (ci := 0) (v := .ref qg) (C := R_A) (T := F_A) (N := 9) hx hb hts inA hown hK hP 0 rfl rfl 3 (by decide) kf27 (fun _ h9 => h9) rfl d_A_grant_133 ?_
        refine lv_iconst (v := 3) hx hb d_A_grant_136 (by decide) ?_
        refine lv_iload hx hb d_A_grant_137 (lv_at hl 1 rfl) ?_
        obtain ⟨hin_, hf⟩ := ix_some hf
        refine va_iast hx hb hK hP hD hS 6 0 rfl rfl hin_ d_A_grant_139 (fun H locs hP hD hS => ?_)
        have hP : va_P (dC, dI) vwCl [(ha, .inr (0, [.ref hm, .ref hi, .ref qa, .ref qg, .int xl, .int xo, .int xs, .int xv, .int xp])), (hm, .inr (1, [.ref qc, .int mw, .int mf, .int mz])), (qc, .inl (cI, 149, .inl mc)), (hi, .inr (2, [.ref qb, .int ic])), (qb, .inl (cI, 24, .inl ib)), (qa, .inl (cI, 16, .inl xa)), (qg, .inl (cI, 4, .inl (upd (upd (upd (upd xg (0 : Int32).toNatClampNeg ((1 + (4 * xs)) + r1)) (1 : Int32).toNatClampNeg r2) (2 : Int32).toNatClampNeg r3) (3 : Int32).toNatClampNeg r4)))] H := hP
        have hD : va_D A [(ha, .inr (0, [.ref hm, .ref hi, .ref qa, .ref qg, .int xl, .int xo, .int xs, .int xv, .int xp])), (hm, .inr (1, [.ref qc, .int mw, .int mf, .int mz])), (qc, .inl (cI, 149, .inl mc)), (hi, .inr (2, [.ref qb, .int ic])), (qb, .inl (cI, 24, .inl ib)), (qa, .inl (cI, 16, .inl xa)), (qg, .inl (cI, 4, .inl (upd (upd (upd (upd xg (0 : Int32).toNatClampNeg ((1 + (4 * xs)) + r1)) (1 : Int32).toNatClampNeg r2) (2 : Int32).toNatClampNeg r3) (3 : Int32).toNatClampNeg r4)))] := hD
        refine lv_aload_n hx hb d_A_grant_140 rfl (lv_at hl 5 rfl) ?_
        refine lv_iload hx hb d_A_grant_141 (lv_at hl 0 rfl) ?_
        obtain ⟨r18, hg, hf⟩ := bd1_some hf
        refine xsi (ctA_sharePlace l dC dI cI r11 r18 hg) ⟨hx, hb, hml, hown, hts⟩ (va_cwS 1 hts (gS wq305 wq306 wq43 wq307) rfl rfl rfl (by decide +kernel) ⟨Nat.le_of_ble_eq_true rfl, Nat.le_of_ble_eq_true rfl⟩) hK hP hD hS hA rfl hl.1 rfl (Nat.le_of_ble_eq_true rfl) d_A_grant_143 ⟨Nat.zero_le _, Nat.zero_le _⟩ (fun H locs hP hD hS => ?_)
        refine lv_aload_n hx hb d_A_grant_146 rfl (lv_at hl 5 rfl) ?_
        refine va_get (D := (dC, dI)) (ci := 0) (v := .ref qg) (C := R_A) (T := F_A) (N := 9) hx hb hts inA hown hK hP 0 rfl rfl 3 (by decide) kf27 (fun _ h9 => h9) rfl d_A_grant_147 ?_
        refine lv_iconst (v := 0) hx hb d_A_grant_150 (by decide) ?_
        refine lv_iconst (v := 4) hx hb d_A_grant_151 (by decide) ?_
        obtain ⟨r19, mc19, mw19, mf19, mz19, ib19, ic19, xa19, xg19, xl19, xo19, xs19, xv19, xp19, hg, hf⟩ := bd14_some hf
        refine xci (wr := []) (ctA_store_qg l dC dI cI ha hm qc hi qb qa qg mc mw mf mz ib ic xa (upd (upd (upd (upd xg (0 : Int32).toNatClampNeg ((1 + (4 * xs)) + r1)) (1 : Int32).toNatClampNeg r2) (2 : Int32).toNatClampNeg r3) (3 : Int32).toNatClampNeg r4) xl xo xs xv xp r18 0 4 r19 mc19 mw19 mf19 mz19 ib19 ic19 xa19 xg19 xl19 xo19 xs19 xv19 xp19 hg) ⟨hx, hb, hml, hown, hts⟩ (cwV (C := R_A) 4 hts (gV wq253 wq255 wq7 wq43 wq256) rfl rfl rfl (by decide +kernel) ⟨Nat.le_of_ble_eq_true rfl, Nat.le_of_ble_eq_true rfl⟩) hK hP hD hS hA [0, 1, 2, 3, 4, 5, 6] [] rfl rfl rfl rfl (by decide) (ci := 0) (q0 := 0) rfl rfl rfl rfl hl.1 rfl (Nat.le_of_ble_eq_true rfl) d_A_grant_152 ⟨Nat.zero_le _, Nat.zero_le _⟩ (fun H locs hP hD hS => ?_)
        have hP : va_P (dC, dI) vwCl [(ha, .inr (0, [.ref hm, .ref hi, .ref qa, .ref qg, .int xl19, .int xo19, .int xs19, .int xv19, .int xp19])), (hm, .inr (1, [.ref qc, .int mw19, .int mf19, .int mz19])), (qc, .inl (cI, 149, .inl mc19)), (hi, .inr (2, [.ref qb, .int ic19])), (qb, .inl (cI, 24, .inl ib19)), (qa, .inl (cI, 16, .inl xa19)), (qg, .inl (cI, 4, .inl xg19))] H := hP
        have hD : va_D A [(ha, .inr (0, [.ref hm, .ref hi, .ref qa, .ref qg, .int xl19, .int xo19, .int xs19, .int xv19, .int xp19])), (hm, .inr (1, [.ref qc, .int mw19, .int mf19, .int mz19])), (qc, .inl (cI, 149, .inl mc19)), (hi, .inr (2, [.ref qb, .int ic19])), (qb, .inl (cI, 24, .inl ib19)), (qa, .inl (cI, 16, .inl xa19)), (qg, .inl (cI, 4, .inl xg19))] := hD
        obtain ⟨e1_, e2_, e3_, e4_, e5_, e6_, e7_, e8_, e9_, e10_, e11_, e12_, e13_, e14_⟩ := lf14 hf
        subst e1_; subst e2_; subst e3_; subst e4_; subst e5_; subst e6_; subst e7_; subst e8_; subst e9_; subst e10_; subst e11_; subst e12_; subst e13_; subst e14_
        have hP9 := hP.sub (ws' := [(ha, .inr (0, [.ref hm, .ref hi, .ref qa, .ref qg, .int xl19, .int xo19, .int xs19, .int xv19, .int xp19])), (hm, .inr (1, [.ref qc, .int mw19, .int mf19, .int mz19])), (qc, .inl (cI, 149, .inl mc19)), (hi, .inr (2, [.ref qb, .int ic19])), (qb, .inl (cI, 24, .inl ib19)), (qa, .inl (cI, 16, .inl xa19)), (qg, .inl (cI, 4, .inl xg19))]) [0, 1, 2, 3, 4, 5, 6] rfl
        have hD9 := hD.sub (ws' := [(ha, .inr (0, [.ref hm, .ref hi, .ref qa, .ref qg, .int xl19, .int xo19, .int xs19, .int xv19, .int xp19])), (hm, .inr (1, [.ref qc, .int mw19, .int mf19, .int mz19])), (qc, .inl (cI, 149, .inl mc19)), (hi, .inr (2, [.ref qb, .int ic19])), (qb, .inl (cI, 24, .inl ib19)), (qa, .inl (cI, 16, .inl xa19)), (qg, .inl (cI, 4, .inl xg19))]) [0, 1, 2, 3, 4, 5, 6] (by decide) rfl
        exact W.iret (v := r19) hx hb hr (fun t ht hW => ⟨⟨r19, (), rfl, rfl, by rw [ht]; exact hP9, va_K.moved hW.alike hK, hD9⟩, hS.F ht⟩) hS.2.2 d_A_grant_155
      have hf := ifn hf hc13
      refine lv_sipush (v := 27273) hx hb d_A_grant_98 (by decide) ?_
      obtain ⟨e1_, e2_, e3_, e4_, e5_, e6_, e7_, e8_, e9_, e10_, e11_, e12_, e13_, e14_⟩ := lf14 hf
      subst e1_; subst e2_; subst e3_; subst e4_; subst e5_; subst e6_; subst e7_; subst e8_; subst e9_; subst e10_; subst e11_; subst e12_; subst e13_; subst e14_
      have hP9 := hP.sub (ws' := [(ha, .inr (0, [.ref hm, .ref hi, .ref qa, .ref qg, .int xl, .int xo, .int xs, .int xv, .int xp])), (hm, .inr (1, [.ref qc, .int mw, .int mf, .int mz])), (qc, .inl (cI, 149, .inl mc)), (hi, .inr (2, [.ref qb, .int ic])), (qb, .inl (cI, 24, .inl ib)), (qa, .inl (cI, 16, .inl xa)), (qg, .inl (cI, 4, .inl xg))]) [0, 1, 2, 3, 4, 5, 6] rfl
      have hD9 := hD.sub (ws' := [(ha, .inr (0, [.ref hm, .ref hi, .ref qa, .ref qg, .int xl, .int xo, .int xs, .int xv, .int xp])), (hm, .inr (1, [.ref qc, .int mw, .int mf, .int mz])), (qc, .inl (cI, 149, .inl mc)), (hi, .inr (2, [.ref qb, .int ic])), (qb, .inl (cI, 24, .inl ib)), (qa, .inl (cI, 16, .inl xa)), (qg, .inl (cI, 4, .inl xg))]) [0, 1, 2, 3, 4, 5, 6] (by decide) rfl
      exact W.iret (v := 27273) hx hb hr (fun t ht hW => ⟨⟨27273, (), rfl, rfl, by rw [ht]; exact hP9, va_K.moved hW.alike hK, hD9⟩, hS.F ht⟩) hS.2.2 d_A_grant_101
    have hf := ifn hf hc10
    refine lv_sipush (v := 27264) hx hb d_A_grant_74 (by decide) ?_
    obtain ⟨e1_, e2_, e3_, e4_, e5_, e6_, e7_, e8_, e9_, e10_, e11_, e12_, e13_, e14_⟩ := lf14 hf
    subst e1_; subst e2_; subst e3_; subst e4_; subst e5_; subst e6_; subst e7_; subst e8_; subst e9_; subst e10_; subst e11_; subst e12_; subst e13_; subst e14_
    have hP9 := hP.sub (ws' := [(ha, .inr (0, [.ref hm, .ref hi, .ref qa, .ref qg, .int xl, .int xo, .int xs, .int xv, .int xp])), (hm, .inr (1, [.ref qc, .int mw, .int mf, .int mz])), (qc, .inl (cI, 149, .inl mc)), (hi, .inr (2, [.ref qb, .int ic])), (qb, .inl (cI, 24, .inl ib)), (qa, .inl (cI, 16, .inl xa)), (qg, .inl (cI, 4, .inl xg))]) [0, 1, 2, 5, 6, 3, 4] rfl
    have hD9 := hD.sub (ws' := [(ha, .inr (0, [.ref hm, .ref hi, .ref qa, .ref qg, .int xl, .int xo, .int xs, .int xv, .int xp])), (hm, .inr (1, [.ref qc, .int mw, .int mf, .int mz])), (qc, .inl (cI, 149, .inl mc)), (hi, .inr (2, [.ref qb, .int ic])), (qb, .inl (cI, 24, .inl ib)), (qa, .inl (cI, 16, .inl xa)), (qg, .inl (cI, 4, .inl xg))]) [0, 1, 2, 5, 6, 3, 4] (by decide) rfl
    exact W.iret (v := 27264) hx hb hr (fun t ht hW => ⟨⟨27264, (), rfl, rfl, by rw [ht]; exact hP9, va_K.moved hW.alike hK, hD9⟩, hS.F ht⟩) hS.2.2 d_A_grant_77
  have hf := ift hf hc7
  refine lv_sipush (v := 27264) hx hb d_A_grant_52 (by decide) ?_
  obtain ⟨e1_, e2_, e3_, e4_, e5_, e6_, e7_, e8_, e9_, e10_, e11_, e12_, e13_, e14_⟩ := lf14 hf
  subst e1_; subst e2_; subst e3_; subst e4_; subst e5_; subst e6_; subst e7_; subst e8_; subst e9_; subst e10_; subst e11_; subst e12_; subst e13_; subst e14_
  have hP9 := hP.sub (ws' := [(ha, .inr (0, [.ref hm, .ref hi, .ref qa, .ref qg, .int xl, .int xo, .int xs, .int xv, .int xp])), (hm, .inr (1, [.ref qc, .int mw, .int mf, .int mz])), (qc, .inl (cI, 149, .inl mc)), (hi, .inr (2, [.ref qb, .int ic])), (qb, .inl (cI, 24, .inl ib)), (qa, .inl (cI, 16, .inl xa)), (qg, .inl (cI, 4, .inl xg))]) [0, 1, 2, 5, 6, 3, 4] rfl
  have hD9 := hD.sub (ws' := [(ha, .inr (0, [.ref hm, .ref hi, .ref qa, .ref qg, .int xl, .int xo, .int xs, .int xv, .int xp])), (hm, .inr (1, [.ref qc, .int mw, .int mf, .int mz])), (qc, .inl (cI, 149, .inl mc)), (hi, .inr (2, [.ref qb, .int ic])), (qb, .inl (cI, 24, .inl ib)), (qa, .inl (cI, 16, .inl xa)), (qg, .inl (cI, 4, .inl xg))]) [0, 1, 2, 5, 6, 3, 4] (by decide) rfl
  exact W.iret (v := 27264) hx hb hr (fun t ht hW => ⟨⟨27264, (), rfl, rfl, by rw [ht]; exact hP9, va_K.moved hW.alike hK, hD9⟩, hS.F ht⟩) hS.2.2 d_A_grant_55
theorem d_A_revoke_0 : decode b_A_revoke 0 = .ok (.aload_n 0, 1) := by decide +kernel
theorem d_A_revoke_1 : decode b_A_revoke 1 = .ok (.getfield 19, 3) := by decide +kernel
theorem d_A_revoke_4 : decode b_A_revoke 4 = .ok (.invokevirtual 130, 3) := by decide +kernel
theorem d_A_revoke_7 : decode b_A_revoke 7 = .ok (.istore_n 1, 1) := by decide +kernel
theorem d_A_revoke_8 : decode b_A_revoke 8 = .ok (.aload_n 0, 1) := by decide +kernel
theorem d_A_revoke_9 : decode b_A_revoke 9 = .ok (.iload_n 1, 1) := by decide +kernel
theorem d_A_revoke_10 : decode b_A_revoke 10 = .ok (.invokevirtual 214, 3) := by decide +kernel
theorem d_A_revoke_13 : decode b_A_revoke 13 = .ok (.aload_n 0, 1) := by decide +kernel
theorem d_A_revoke_14 : decode b_A_revoke 14 = .ok (.getfield 30, 3) := by decide +kernel
theorem d_A_revoke_17 : decode b_A_revoke 17 = .ok (.if_icmp .eq 7, 3) := by decide +kernel
theorem d_A_revoke_20 : decode b_A_revoke 20 = .ok (.sipush 27272, 3) := by decide +kernel
theorem d_A_revoke_23 : decode b_A_revoke 23 = .ok (.ireturn, 1) := by decide +kernel
theorem d_A_revoke_24 : decode b_A_revoke 24 = .ok (.aload_n 0, 1) := by decide +kernel
theorem d_A_revoke_25 : decode b_A_revoke 25 = .ok (.getfield 27, 3) := by decide +kernel
theorem d_A_revoke_28 : decode b_A_revoke 28 = .ok (.iconst 0, 1) := by decide +kernel
theorem d_A_revoke_29 : decode b_A_revoke 29 = .ok (.iconst 0, 1) := by decide +kernel
theorem d_A_revoke_30 : decode b_A_revoke 30 = .ok (.iastore, 1) := by decide +kernel
theorem d_A_revoke_31 : decode b_A_revoke 31 = .ok (.aload_n 0, 1) := by decide +kernel
theorem d_A_revoke_32 : decode b_A_revoke 32 = .ok (.iload_n 1, 1) := by decide +kernel
theorem d_A_revoke_33 : decode b_A_revoke 33 = .ok (.invokestatic 217, 3) := by decide +kernel
theorem d_A_revoke_36 : decode b_A_revoke 36 = .ok (.aload_n 0, 1) := by decide +kernel
theorem d_A_revoke_37 : decode b_A_revoke 37 = .ok (.getfield 27, 3) := by decide +kernel
theorem d_A_revoke_40 : decode b_A_revoke 40 = .ok (.iconst 0, 1) := by decide +kernel
theorem d_A_revoke_41 : decode b_A_revoke 41 = .ok (.iconst 1, 1) := by decide +kernel
theorem d_A_revoke_42 : decode b_A_revoke 42 = .ok (.invokevirtual 220, 3) := by decide +kernel
theorem d_A_revoke_45 : decode b_A_revoke 45 = .ok (.ireturn, 1) := by decide +kernel
def fA_revoke (σ : StX) : Option (Int32 × StX) := match σ with | (mc, mw, mf, mz, ib, ic, xa, xg, xl, xo, xs, xv, xp) => bd1 (fI_p1 (ib, ic)) fun r1 => bd1 (fA_ownerOf (mc, mw, mf, mz, ib, ic, xa, xg, xl, xo, xs, xv, xp) r1) fun r2 => if r2 = xs then (ix 0 4 fun j4 => bd1 (fA_sharePlace r1) fun r5 => bd14 (fA_store_qg (mc, mw, mf, mz, ib, ic, xa, upd xg j4 0, xl, xo, xs, xv, xp) r5 0 1) fun r6 mc6 mw6 mf6 mz6 ib6 ic6 xa6 xg6 xl6 xo6 xs6 xv6 xp6 => some (r6, mc6, mw6, mf6, mz6, ib6, ic6, xa6, xg6, xl6, xo6, xs6, xv6, xp6)) else (some (27272, mc, mw, mf, mz, ib, ic, xa, xg, xl, xo, xs, xv, xp))
set_option maxHeartbeats 4000000 in
set_option maxRecDepth 100000 in
theorem ctA_revoke (l : Launch) (dC : Nat → ClassId) (dI : Nat → Nat → Nat) (cI : ClassId) (ha hm qc hi qb qa qg : Nat) (mc : Nat → Int32) (mw : Int32) (mf : Int32) (mz : Int32) (ib : Nat → Int32) (ic : Int32) (xa : Nat → Int32) (xg : Nat → Int32) (xl : Int32) (xo : Int32) (xs : Int32) (xv : Int32) (xp : Int32) (r : Int32) (mc' : Nat → Int32) (mw' : Int32) (mf' : Int32) (mz' : Int32) (ib' : Nat → Int32) (ic' : Int32) (xa' : Nat → Int32) (xg' : Nat → Int32) (xl' : Int32) (xo' : Int32) (xs' : Int32) (xv' : Int32) (xp' : Int32) (hf : fA_revoke (mc, mw, mf, mz, ib, ic, xa, xg, xl, xo, xs, xv, xp) = some (r, mc', mw', mf', mz', ib', ic', xa', xg', xl', xo', xs', xv', xp')) : CtI l y_A_revoke w_A_revoke ({ frames := 3, cells := 0, slots := 0, locals := 70 }) (dC, dI) [(cI, .int)] [.ref ha] [(ha, .inr (0, [.ref hm, .ref hi, .ref qa, .ref qg, .int xl, .int xo, .int xs, .int xv, .int xp])), (hm, .inr (1, [.ref qc, .int mw, .int mf, .int mz])), (qc, .inl (cI, 149, .inl mc)), (hi, .inr (2, [.ref qb, .int ic])), (qb, .inl (cI, 24, .inl ib)), (qa, .inl (cI, 16, .inl xa)), (qg, .inl (cI, 4, .inl xg))] [(ha, .inr (0, [.ref hm, .ref hi, .ref qa, .ref qg, .int xl', .int xo', .int xs', .int xv', .int xp'])), (hm, .inr (1, [.ref qc, .int mw', .int mf', .int mz'])), (qc, .inl (cI, 149, .inl mc')), (hi, .inr (2, [.ref qb, .int ic'])), (qb, .inl (cI, 24, .inl ib')), (qa, .inl (cI, 16, .inl xa')), (qg, .inl (cI, 4, .inl xg'))] r := by
  intro sz
  refine Met.ofW (cc := b_A_revoke) (maxL := 2) (ret := some .int) (by decide) rfl ?_
  intro p e s m args below meth c s₁ B hml hv
  obtain ⟨rfl, hsz, hP, hK, hD0⟩ := hv
  have hx := B.exec
  have hb := B.bytes
  have hr := B.returns
  have hts := atoms_spec (ws := w_A_revoke) B.pre
  have hown : s.vm.findClass R_A = some m.cls := findClass_of_methodNamed B.named
  have hlocks := B.notSynchronized
  subst hsz
  have hD := hD0.self (sz := s.heap.size)
  generalize hAe : va_A [(ha, .inr (0, [.ref hm, .ref hi, .ref qa, .ref qg, .int xl, .int xo, .int xs, .int xv, .int xp])), (hm, .inr (1, [.ref qc, .int mw, .int mf, .int mz])), (qc, .inl (cI, 149, .inl mc)), (hi, .inr (2, [.ref qb, .int ic])), (qb, .inl (cI, 24, .inl ib)), (qa, .inl (cI, 16, .inl xa)), (qg, .inl (cI, 4, .inl xg))] s.heap.size = A at hD ⊢
  have hA : ∀ q : Nat, s.heap.size ≤ q → A q := fun q h => by rw [← hAe]; exact Or.inr h
  have hS : va_S A s.heap s.heap [] := va_S.rf
  have hP : va_P (dC, dI) vwCl [(ha, .inr (0, [.ref hm, .ref hi, .ref qa, .ref qg, .int xl, .int xo, .int xs, .int xv, .int xp])), (hm, .inr (1, [.ref qc, .int mw, .int mf, .int mz])), (qc, .inl (cI, 149, .inl mc)), (hi, .inr (2, [.ref qb, .int ic])), (qb, .inl (cI, 24, .inl ib)), (qa, .inl (cI, 16, .inl xa)), (qg, .inl (cI, 4, .inl xg))] s.heap := hP
  have hl := lv_entry ([.ref ha]) (n := 2) (Nat.le_of_ble_eq_true rfl)
  rw [lg_entry_eq]
  generalize (lg_sl ([.ref ha]) ++ List.replicate (2 - (lg_sl ([.ref ha])).length) Slot.unset).toArray = ls at hl ⊢
  have hl : lv_has ls 2 [(0, .ref ha)] := hl
  have inA : ∀ w ∈ u_ws R_A F_A 9, w ∈ w_A_revoke := fun w h => List.mem_cons_of_mem _ (in_A w h)
  have kf19 := hts _ (List.mem_cons_of_mem _ wq92)
  have kf27 := hts _ (List.mem_cons_of_mem _ wq94)
  have kf30 := hts _ (List.mem_cons_of_mem _ wq97)
  rw [fA_revoke] at hf
  refine lv_aload_n hx hb d_A_revoke_0 rfl (lv_at hl 0 rfl) ?_
  refine va_get (D := (dC, dI)) (ci := 0) (v := .ref hi) (C := R_A) (T := F_A) (N := 9) hx hb hts inA hown hK hP 0 rfl rfl 1 (by decide) kf19 (fun _ h9 => h9) rfl d_A_revoke_1 ?_
  obtain ⟨r1, hg, hf⟩ := bd1_some hf
  refine xci (wr := [(ha, .inr (0, [.ref hm, .ref hi, .ref qa, .ref qg, .int xl, .int xo, .int xs, .int xv, .int xp])), (hm, .inr (1, [.ref qc, .int mw, .int mf, .int mz])), (qc, .inl (cI, 149, .inl mc)), (qa, .inl (cI, 16, .inl xa)), (qg, .inl (cI, 4, .inl xg))]) (ctI_p1 l dC dI cI hi qb ib ic r1 hg) ⟨hx, hb, hml, hown, hts⟩ (cwV (C := R_I) 0 hts (gV wq164 wq165 wq166 wq45 wq167) rfl rfl rfl (by decide +kernel) ⟨Nat.le_of_ble_eq_true rfl, Nat.le_of_ble_eq_true rfl⟩) hK hP hD hS hA [3, 4] [0, 1, 2, 5, 6] rfl rfl rfl rfl (by decide) (ci := 2) (q0 := 3) rfl rfl rfl rfl hl.1 rfl (Nat.le_of_ble_eq_true rfl) d_A_revoke_4 ⟨Nat.zero_le _, Nat.zero_le _⟩ (fun H locs hP hD hS => ?_)
  have hP : va_P (dC, dI) vwCl [(ha, .inr (0, [.ref hm, .ref hi, .ref qa, .ref qg, .int xl, .int xo, .int xs, .int xv, .int xp])), (hm, .inr (1, [.ref qc, .int mw, .int mf, .int mz])), (qc, .inl (cI, 149, .inl mc)), (qa, .inl (cI, 16, .inl xa)), (qg, .inl (cI, 4, .inl xg)), (hi, .inr (2, [.ref qb, .int ic])), (qb, .inl (cI, 24, .inl ib))] H := hP
  have hD : va_D A [(ha, .inr (0, [.ref hm, .ref hi, .ref qa, .ref qg, .int xl, .int xo, .int xs, .int xv, .int xp])), (hm, .inr (1, [.ref qc, .int mw, .int mf, .int mz])), (qc, .inl (cI, 149, .inl mc)), (qa, .inl (cI, 16, .inl xa)), (qg, .inl (cI, 4, .inl xg)), (hi, .inr (2, [.ref qb, .int ic])), (qb, .inl (cI, 24, .inl ib))] := hD
  refine lv_istore_n hx hb d_A_revoke_7 rfl hl (by decide) rfl (fun ls hl => ?_)
  have hl : lv_has ls 2 [(1, .int r1), (0, .ref ha)] := hl
  refine lv_aload_n hx hb d_A_revoke_8 rfl (lv_at hl 1 rfl) ?_
  refine lv_iload_n hx hb d_A_revoke_9 rfl (lv_at hl 0 rfl) ?_
  obtain ⟨r2, hg, hf⟩ := bd1_some hf
  refine xci (wr := []) (ctA_ownerOf l dC dI cI ha hm qc hi qb qa qg mc mw mf mz ib ic xa xg xl xo xs xv xp r1 r2 hg) ⟨hx, hb, hml, hown, hts⟩ (cwV (C := R_A) 1 hts (gV wq297 wq299 wq14 wq43 wq300) rfl rfl rfl (by decide +kernel) ⟨Nat.le_of_ble_eq_true rfl, Nat.le_of_ble_eq_true rfl⟩) hK hP hD hS hA [0, 1, 2, 5, 6, 3, 4] [] rfl rfl rfl rfl (by decide) (ci := 0) (q0 := 0) rfl rfl rfl rfl hl.1 rfl (Nat.le_of_ble_eq_true rfl) d_A_revoke_10 ⟨Nat.zero_le _, Nat.zero_le _⟩ (fun H locs hP hD hS => ?_)
  have hP : va_P (dC, dI) vwCl [(ha, .inr (0, [.ref hm, .ref hi, .ref qa, .ref qg, .int xl, .int xo, .int xs, .int xv, .int xp])), (hm, .inr (1, [.ref qc, .int mw, .int mf, .int mz])), (qc, .inl (cI, 149, .inl mc)), (hi, .inr (2, [.ref qb, .int ic])), (qb, .inl (cI, 24, .inl ib)), (qa, .inl (cI, 16, .inl xa)), (qg, .inl (cI, 4, .inl xg))] H := hP
  have hD : va_D A [(ha, .inr (0, [.ref hm, .ref hi, .ref qa, .ref qg, .int xl, .int xo, .int xs, .int xv, .int xp])), (hm, .inr (1, [.ref qc, .int mw, .int mf, .int mz])), (qc, .inl (cI, 149, .inl mc)), (hi, .inr (2, [.ref qb, .int ic])), (qb, .inl (cI, 24, .inl ib)), (qa, .inl (cI, 16, .inl xa)), (qg, .inl (cI, 4, .inl xg))] := hD
  refine lv_aload_n hx hb d_A_revoke_13 rfl (lv_at hl 1 rfl) ?_
  refine va_get (D := (dC, dI)) (ci := 0) (v := .int xs) (C := R_A) (T := F_A) (N := 9) hx hb hts inA hown hK hP 0 rfl rfl 6 (by decide) kf30 (fun _ h9 => h9) rfl d_A_revoke_14 ?_
  refine lv_icmp_eq (tgt := 24) hx hb d_A_revoke_17 rfl (fun hc3 => ?_) (fun hc3 => ?_)
  · have hf := ift hf hc3
    refine lv_aload_n hx hb d_A_revoke_24 rfl (lv_at hl 1 rfl) ?_
    refine va_get (D := (dC, dI)) (ci := 0) (v := .ref qg) (C := R_A) (T := F_A) (N := 9) hx hb hts inA hown hK hP 0 rfl rfl 3 (by decide) kf27 (fun _ h9 => h9) rfl d_A_revoke_25 ?_
    refine lv_iconst (v := 0) hx hb d_A_revoke_28 (by decide) ?_
    refine lv_iconst (v := 0) hx hb d_A_revoke_29 (by decide) ?_
    obtain ⟨hin_, hf⟩ := ix_some hf
    refine va_iast hx hb hK hP hD hS 6 0 rfl rfl hin_ d_A_revoke_30 (fun H locs hP hD hS => ?_)
    have hP : va_P (dC, dI) vwCl [(ha, .inr (0, [.ref hm, .ref hi, .ref qa, .ref qg, .int xl, .int xo, .int xs, .int xv, .int xp])), (hm, .inr (1, [.ref qc, .int mw, .int mf, .int mz])), (qc, .inl (cI, 149, .inl mc)), (hi, .inr (2, [.ref qb, .int ic])), (qb, .inl (cI, 24, .inl ib)), (qa, .inl (cI, 16, .inl xa)), (qg, .inl (cI, 4, .inl (upd xg (0 : Int32).toNatClampNeg 0)))] H := hP
    have hD : va_D A [(ha, .inr (0, [.ref hm, .ref hi, .ref qa, .ref qg, .int xl, .int xo, .int xs, .int xv, .int xp])), (hm, .inr (1, [.ref qc, .int mw, .int mf, .int mz])), (qc, .inl (cI, 149, .inl mc)), (hi, .inr (2, [.ref qb, .int ic])), (qb, .inl (cI, 24, .inl ib)), (qa, .inl (cI, 16, .inl xa)), (qg, .inl (cI, 4, .inl (upd xg (0 : Int32).toNatClampNeg 0)))] := hD
    refine lv_aload_n hx hb d_A_revoke_31 rfl (lv_at hl 1 rfl) ?_
    refine lv_iload_n hx hb d_A_revoke_32 rfl (lv_at hl 0 rfl) ?_
    obtain ⟨r5, hg, hf⟩ := bd1_some hf
    refine xsi (ctA_sharePlace l dC dI cI r1 r5 hg) ⟨hx, hb, hml, hown, hts⟩ (va_cwS 1 hts (gS wq305 wq306 wq43 wq307) rfl rfl rfl (by decide +kernel) ⟨Nat.le_of_ble_eq_true rfl, Nat.le_of_ble_eq_true rfl⟩) hK hP hD hS hA rfl hl.1 rfl (Nat.le_of_ble_eq_true rfl) d_A_revoke_33 ⟨Nat.zero_le _, Nat.zero_le _⟩ (fun H locs hP hD hS => ?_)
    refine lv_aload_n hx hb d_A_revoke_36 rfl (lv_at hl 1 rfl) ?_
    refine va_get (D := (dC, dI)) (ci := 0) (v := .ref qg) (C := R_A) (T := F_A) (N := 9) hx hb hts inA hown hK hP 0 rfl rfl 3 (by decide) kf27 (fun _ h9 => h9) rfl d_A_revoke_37 ?_
    refine lv_iconst (v := 0) hx hb d_A_revoke_40 (by decide) ?_
    refine lv_iconst (v := 1) hx hb d_A_revoke_41 (by decide) ?_
    obtain ⟨r6, mc6, mw6, mf6, mz6, ib6, ic6, xa6, xg6, xl6, xo6, xs6, xv6, xp6, hg, hf⟩ := bd14_some hf
    refine xci (wr := []) (ctA_store_qg l dC dI cI ha hm qc hi qb qa qg mc mw mf mz ib ic xa (upd xg (0 : Int32).toNatClampNeg 0) xl xo xs xv xp r5 0 1 r6 mc6 mw6 mf6 mz6 ib6 ic6 xa6 xg6 xl6 xo6 xs6 xv6 xp6 hg) ⟨hx, hb, hml, hown, hts⟩ (cwV (C := R_A) 4 hts (gV wq253 wq255 wq7 wq43 wq256) rfl rfl rfl (by decide +kernel) ⟨Nat.le_of_ble_eq_true rfl, Nat.le_of_ble_eq_true rfl⟩) hK hP hD hS hA [0, 1, 2, 3, 4, 5, 6] [] rfl rfl rfl rfl (by decide) (ci := 0) (q0 := 0) rfl rfl rfl rfl hl.1 rfl (Nat.le_of_ble_eq_true rfl) d_A_revoke_42 ⟨Nat.zero_le _, Nat.zero_le _⟩ (fun H locs hP hD hS => ?_)
    have hP : va_P (dC, dI) vwCl [(ha, .inr (0, [.ref hm, .ref hi, .ref qa, .ref qg, .int xl6, .int xo6, .int xs6, .int xv6, .int xp6])), (hm, .inr (1, [.ref qc, .int mw6, .int mf6, .int mz6])), (qc, .inl (cI, 149, .inl mc6)), (hi, .inr (2, [.ref qb, .int ic6])), (qb, .inl (cI, 24, .inl ib6)), (qa, .inl (cI, 16, .inl xa6)), (qg, .inl (cI, 4, .inl xg6))] H := hP
    have hD : va_D A [(ha, .inr (0, [.ref hm, .ref hi, .ref qa, .ref qg, .int xl6, .int xo6, .int xs6, .int xv6, .int xp6])), (hm, .inr (1, [.ref qc, .int mw6, .int mf6, .int mz6])), (qc, .inl (cI, 149, .inl mc6)), (hi, .inr (2, [.ref qb, .int ic6])), (qb, .inl (cI, 24, .inl ib6)), (qa, .inl (cI, 16, .inl xa6)), (qg, .inl (cI, 4, .inl xg6))] := hD
    obtain ⟨e1_, e2_, e3_, e4_, e5_, e6_, e7_, e8_, e9_, e10_, e11_, e12_, e13_, e14_⟩ := lf14 hf
    subst e1_; subst e2_; subst e3_; subst e4_; subst e5_; subst e6_; subst e7_; subst e8_; subst e9_; subst e10_; subst e11_; subst e12_; subst e13_; subst e14_
    have hP9 := hP.sub (ws' := [(ha, .inr (0, [.ref hm, .ref hi, .ref qa, .ref qg, .int xl6, .int xo6, .int xs6, .int xv6, .int xp6])), (hm, .inr (1, [.ref qc, .int mw6, .int mf6, .int mz6])), (qc, .inl (cI, 149, .inl mc6)), (hi, .inr (2, [.ref qb, .int ic6])), (qb, .inl (cI, 24, .inl ib6)), (qa, .inl (cI, 16, .inl xa6)), (qg, .inl (cI, 4, .inl xg6))]) [0, 1, 2, 3, 4, 5, 6] rfl
    have hD9 := hD.sub (ws' := [(ha, .inr (0, [.ref hm, .ref hi, .ref qa, .ref qg, .int xl6, .int xo6, .int xs6, .int xv6, .int xp6])), (hm, .inr (1, [.ref qc, .int mw6, .int mf6, .int mz6])), (qc, .inl (cI, 149, .inl mc6)), (hi, .inr (2, [.ref qb, .int ic6])), (qb, .inl (cI, 24, .inl ib6)), (qa, .inl (cI, 16, .inl xa6)), (qg, .inl (cI, 4, .inl xg6))]) [0, 1, 2, 3, 4, 5, 6] (by decide) rfl
    exact W.iret (v := r6) hx hb hr (fun t ht hW => ⟨⟨r6, (), rfl, rfl, by rw [ht]; exact hP9, va_K.moved hW.alike hK, hD9⟩, hS.F ht⟩) hS.2.2 d_A_revoke_45
  have hf := ifn hf hc3
  refine lv_sipush (v := 27272) hx hb d_A_revoke_20 (by decide) ?_
  obtain ⟨e1_, e2_, e3_, e4_, e5_, e6_, e7_, e8_, e9_, e10_, e11_, e12_, e13_, e14_⟩ := lf14 hf
  subst e1_; subst e2_; subst e3_; subst e4_; subst e5_; subst e6_; subst e7_; subst e8_; subst e9_; subst e10_; subst e11_; subst e12_; subst e13_; subst e14_
  have hP9 := hP.sub (ws' := [(ha, .inr (0, [.ref hm, .ref hi, .ref qa, .ref qg, .int xl, .int xo, .int xs, .int xv, .int xp])), (hm, .inr (1, [.ref qc, .int mw, .int mf, .int mz])), (qc, .inl (cI, 149, .inl mc)), (hi, .inr (2, [.ref qb, .int ic])), (qb, .inl (cI, 24, .inl ib)), (qa, .inl (cI, 16, .inl xa)), (qg, .inl (cI, 4, .inl xg))]) [0, 1, 2, 3, 4, 5, 6] rfl
  have hD9 := hD.sub (ws' := [(ha, .inr (0, [.ref hm, .ref hi, .ref qa, .ref qg, .int xl, .int xo, .int xs, .int xv, .int xp])), (hm, .inr (1, [.ref qc, .int mw, .int mf, .int mz])), (qc, .inl (cI, 149, .inl mc)), (hi, .inr (2, [.ref qb, .int ic])), (qb, .inl (cI, 24, .inl ib)), (qa, .inl (cI, 16, .inl xa)), (qg, .inl (cI, 4, .inl xg))]) [0, 1, 2, 3, 4, 5, 6] (by decide) rfl
  exact W.iret (v := 27272) hx hb hr (fun t ht hW => ⟨⟨27272, (), rfl, rfl, by rw [ht]; exact hP9, va_K.moved hW.alike hK, hD9⟩, hS.F ht⟩) hS.2.2 d_A_revoke_23
theorem d_A_readShared_0 : decode b_A_readShared 0 = .ok (.aload_n 0, 1) := by decide +kernel
theorem d_A_readShared_1 : decode b_A_readShared 1 = .ok (.getfield 19, 3) := by decide +kernel
theorem d_A_readShared_4 : decode b_A_readShared 4 = .ok (.invokevirtual 130, 3) := by decide +kernel
theorem d_A_readShared_7 : decode b_A_readShared 7 = .ok (.istore_n 1, 1) := by decide +kernel
theorem d_A_readShared_8 : decode b_A_readShared 8 = .ok (.aload_n 0, 1) := by decide +kernel
theorem d_A_readShared_9 : decode b_A_readShared 9 = .ok (.iload_n 1, 1) := by decide +kernel
theorem d_A_readShared_10 : decode b_A_readShared 10 = .ok (.invokevirtual 224, 3) := by decide +kernel
theorem d_A_readShared_13 : decode b_A_readShared 13 = .ok (.aload_n 0, 1) := by decide +kernel
theorem d_A_readShared_14 : decode b_A_readShared 14 = .ok (.getfield 30, 3) := by decide +kernel
theorem d_A_readShared_17 : decode b_A_readShared 17 = .ok (.if_icmp .eq 7, 3) := by decide +kernel
theorem d_A_readShared_20 : decode b_A_readShared 20 = .ok (.sipush 27272, 3) := by decide +kernel
theorem d_A_readShared_23 : decode b_A_readShared 23 = .ok (.ireturn, 1) := by decide +kernel
theorem d_A_readShared_24 : decode b_A_readShared 24 = .ok (.aload_n 0, 1) := by decide +kernel
theorem d_A_readShared_25 : decode b_A_readShared 25 = .ok (.getfield 19, 3) := by decide +kernel
theorem d_A_readShared_28 : decode b_A_readShared 28 = .ok (.invokevirtual 133, 3) := by decide +kernel
theorem d_A_readShared_31 : decode b_A_readShared 31 = .ok (.aload_n 0, 1) := by decide +kernel
theorem d_A_readShared_32 : decode b_A_readShared 32 = .ok (.getfield 19, 3) := by decide +kernel
theorem d_A_readShared_35 : decode b_A_readShared 35 = .ok (.invokevirtual 208, 3) := by decide +kernel
theorem d_A_readShared_38 : decode b_A_readShared 38 = .ok (.iadd, 1) := by decide +kernel
theorem d_A_readShared_39 : decode b_A_readShared 39 = .ok (.aload_n 0, 1) := by decide +kernel
theorem d_A_readShared_40 : decode b_A_readShared 40 = .ok (.iload_n 1, 1) := by decide +kernel
theorem d_A_readShared_41 : decode b_A_readShared 41 = .ok (.iconst 2, 1) := by decide +kernel
theorem d_A_readShared_42 : decode b_A_readShared 42 = .ok (.invokevirtual 104, 3) := by decide +kernel
theorem d_A_readShared_45 : decode b_A_readShared 45 = .ok (.if_icmp .le 7, 3) := by decide +kernel
theorem d_A_readShared_48 : decode b_A_readShared 48 = .ok (.sipush 27392, 3) := by decide +kernel
theorem d_A_readShared_51 : decode b_A_readShared 51 = .ok (.ireturn, 1) := by decide +kernel
theorem d_A_readShared_52 : decode b_A_readShared 52 = .ok (.aload_n 0, 1) := by decide +kernel
theorem d_A_readShared_53 : decode b_A_readShared 53 = .ok (.aload_n 0, 1) := by decide +kernel
theorem d_A_readShared_54 : decode b_A_readShared 54 = .ok (.iload_n 1, 1) := by decide +kernel
theorem d_A_readShared_55 : decode b_A_readShared 55 = .ok (.aload_n 0, 1) := by decide +kernel
theorem d_A_readShared_56 : decode b_A_readShared 56 = .ok (.getfield 19, 3) := by decide +kernel
theorem d_A_readShared_59 : decode b_A_readShared 59 = .ok (.invokevirtual 133, 3) := by decide +kernel
theorem d_A_readShared_62 : decode b_A_readShared 62 = .ok (.invokevirtual 227, 3) := by decide +kernel
theorem d_A_readShared_65 : decode b_A_readShared 65 = .ok (.aload_n 0, 1) := by decide +kernel
theorem d_A_readShared_66 : decode b_A_readShared 66 = .ok (.getfield 19, 3) := by decide +kernel
theorem d_A_readShared_69 : decode b_A_readShared 69 = .ok (.invokevirtual 208, 3) := by decide +kernel
theorem d_A_readShared_72 : decode b_A_readShared 72 = .ok (.invokevirtual 195, 3) := by decide +kernel
theorem d_A_readShared_75 : decode b_A_readShared 75 = .ok (.ireturn, 1) := by decide +kernel
def fA_readShared (σ : StX) : Option (Int32 × StX) := match σ with | (mc, mw, mf, mz, ib, ic, xa, xg, xl, xo, xs, xv, xp) => bd1 (fI_p1 (ib, ic)) fun r1 => bd1 (fA_clientOf (mc, mw, mf, mz, ib, ic, xa, xg, xl, xo, xs, xv, xp) r1) fun r2 => if r2 = xs then (bd1 (fI_p2 (ib, ic)) fun r4 => bd1 (fI_le (ib, ic)) fun r5 => bd1 (fA_shareByte (mc, mw, mf, mz, ib, ic, xa, xg, xl, xo, xs, xv, xp) r1 2) fun r6 => if (r4 + r5) ≤ r6 then (bd1 (fI_p2 (ib, ic)) fun r8 => bd1 (fA_sharedPlace (mc, mw, mf, mz, ib, ic, xa, xg, xl, xo, xs, xv, xp) r1 r8) fun r9 => bd1 (fI_le (ib, ic)) fun r10 => bd14 (fA_respond (mc, mw, mf, mz, ib, ic, xa, xg, xl, xo, xs, xv, xp) r9 r10) fun r11 mc11 mw11 mf11 mz11 ib11 ic11 xa11 xg11 xl11 xo11 xs11 xv11 xp11 => some (r11, mc11, mw11, mf11, mz11, ib11, ic11, xa11, xg11, xl11, xo11, xs11, xv11, xp11)) else (some (27392, mc, mw, mf, mz, ib, ic, xa, xg, xl, xo, xs, xv, xp))) else (some (27272, mc, mw, mf, mz, ib, ic, xa, xg, xl, xo, xs, xv, xp))
set_option maxHeartbeats 4000000 in
set_option maxRecDepth 100000 in
theorem ctA_readShared (l : Launch) (dC : Nat → ClassId) (dI : Nat → Nat → Nat) (cI : ClassId) (ha hm qc hi qb qa qg : Nat) (mc : Nat → Int32) (mw : Int32) (mf : Int32) (mz : Int32) (ib : Nat → Int32) (ic : Int32) (xa : Nat → Int32) (xg : Nat → Int32) (xl : Int32) (xo : Int32) (xs : Int32) (xv : Int32) (xp : Int32) (r : Int32) (mc' : Nat → Int32) (mw' : Int32) (mf' : Int32) (mz' : Int32) (ib' : Nat → Int32) (ic' : Int32) (xa' : Nat → Int32) (xg' : Nat → Int32) (xl' : Int32) (xo' : Int32) (xs' : Int32) (xv' : Int32) (xp' : Int32) (hf : fA_readShared (mc, mw, mf, mz, ib, ic, xa, xg, xl, xo, xs, xv, xp) = some (r, mc', mw', mf', mz', ib', ic', xa', xg', xl', xo', xs', xv', xp')) : CtI l y_A_readShared w_A_readShared ({ frames := 4, cells := 0, slots := 0, locals := 87 }) (dC, dI) [(cI, .int)] [.ref ha] [(ha, .inr (0, [.ref hm, .ref hi, .ref qa, .ref qg, .int xl, .int xo, .int xs, .int xv, .int xp])), (hm, .inr (1, [.ref qc, .int mw, .int mf, .int mz])), (qc, .inl (cI, 149, .inl mc)), (hi, .inr (2, [.ref qb, .int ic])), (qb, .inl (cI, 24, .inl ib)), (qa, .inl (cI, 16, .inl xa)), (qg, .inl (cI, 4, .inl xg))] [(ha, .inr (0, [.ref hm, .ref hi, .ref qa, .ref qg, .int xl', .int xo', .int xs', .int xv', .int xp'])), (hm, .inr (1, [.ref qc, .int mw', .int mf', .int mz'])), (qc, .inl (cI, 149, .inl mc')), (hi, .inr (2, [.ref qb, .int ic'])), (qb, .inl (cI, 24, .inl ib')), (qa, .inl (cI, 16, .inl xa')), (qg, .inl (cI, 4, .inl xg'))] r := by
  intro sz
  refine Met.ofW (cc := b_A_readShared) (maxL := 2) (ret := some .int) (by decide) rfl ?_
  intro p e s m args below meth c s₁ B hml hv
  obtain ⟨rfl, hsz, hP, hK, hD0⟩ := hv
  have hx := B.exec
  have hb := B.bytes
  have hr := B.returns
  have hts := atoms_spec (ws := w_A_readShared) B.pre
  have hown : s.vm.findClass R_A = some m.cls := findClass_of_methodNamed B.named
  have hlocks := B.notSynchronized
  subst hsz
  have hD := hD0.self (sz := s.heap.size)
  generalize hAe : va_A [(ha, .inr (0, [.ref hm, .ref hi, .ref qa, .ref qg, .int xl, .int xo, .int xs, .int xv, .int xp])), (hm, .inr (1, [.ref qc, .int mw, .int mf, .int mz])), (qc, .inl (cI, 149, .inl mc)), (hi, .inr (2, [.ref qb, .int ic])), (qb, .inl (cI, 24, .inl ib)), (qa, .inl (cI, 16, .inl xa)), (qg, .inl (cI, 4, .inl xg))] s.heap.size = A at hD ⊢
  have hA : ∀ q : Nat, s.heap.size ≤ q → A q := fun q h => by rw [← hAe]; exact Or.inr h
  have hS : va_S A s.heap s.heap [] := va_S.rf
  have hP : va_P (dC, dI) vwCl [(ha, .inr (0, [.ref hm, .ref hi, .ref qa, .ref qg, .int xl, .int xo, .int xs, .int xv, .int xp])), (hm, .inr (1, [.ref qc, .int mw, .int mf, .int mz])), (qc, .inl (cI, 149, .inl mc)), (hi, .inr (2, [.ref qb, .int ic])), (qb, .inl (cI, 24, .inl ib)), (qa, .inl (cI, 16, .inl xa)), (qg, .inl (cI, 4, .inl xg))] s.heap := hP
  have hl := lv_entry ([.ref ha]) (n := 2) (Nat.le_of_ble_eq_true rfl)
  rw [lg_entry_eq]
  generalize (lg_sl ([.ref ha]) ++ List.replicate (2 - (lg_sl ([.ref ha])).length) Slot.unset).toArray = ls at hl ⊢
  have hl : lv_has ls 2 [(0, .ref ha)] := hl
  have inA : ∀ w ∈ u_ws R_A F_A 9, w ∈ w_A_readShared := fun w h => List.mem_cons_of_mem _ (in_A w h)
  have kf19 := hts _ (List.mem_cons_of_mem _ wq92)
  have kf30 := hts _ (List.mem_cons_of_mem _ wq97)
  rw [fA_readShared] at hf
  refine lv_aload_n hx hb d_A_readShared_0 rfl (lv_at hl 0 rfl) ?_
  refine va_get (D := (dC, dI)) (ci := 0) (v := .ref hi) (C := R_A) (T := F_A) (N := 9) hx hb hts inA hown hK hP 0 rfl rfl 1 (by decide) kf19 (fun _ h9 => h9) rfl d_A_readShared_1 ?_
  obtain ⟨r1, hg, hf⟩ := bd1_some hf
  refine xci (wr := [(ha, .inr (0, [.ref hm, .ref hi, .ref qa, .ref qg, .int xl, .int xo, .int xs, .int xv, .int xp])), (hm, .inr (1, [.ref qc, .int mw, .int mf, .int mz])), (qc, .inl (cI, 149, .inl mc)), (qa, .inl (cI, 16, .inl xa)), (qg, .inl (cI, 4, .inl xg))]) (ctI_p1 l dC dI cI hi qb ib ic r1 hg) ⟨hx, hb, hml, hown, hts⟩ (cwV (C := R_I) 0 hts (gV wq164 wq165 wq166 wq45 wq167) rfl rfl rfl (by decide +kernel) ⟨Nat.le_of_ble_eq_true rfl, Nat.le_of_ble_eq_true rfl⟩) hK hP hD hS hA [3, 4] [0, 1, 2, 5, 6] rfl rfl rfl rfl (by decide) (ci := 2) (q0 := 3) rfl rfl rfl rfl hl.1 rfl (Nat.le_of_ble_eq_true rfl) d_A_readShared_4 ⟨Nat.zero_le _, Nat.zero_le _⟩ (fun H locs hP hD hS => ?_)
  have hP : va_P (dC, dI) vwCl [(ha, .inr (0, [.ref hm, .ref hi, .ref qa, .ref qg, .int xl, .int xo, .int xs, .int xv, .int xp])), (hm, .inr (1, [.ref qc, .int mw, .int mf, .int mz])), (qc, .inl (cI, 149, .inl mc)), (qa, .inl (cI, 16, .inl xa)), (qg, .inl (cI, 4, .inl xg)), (hi, .inr (2, [.ref qb, .int ic])), (qb, .inl (cI, 24, .inl ib))] H := hP
  have hD : va_D A [(ha, .inr (0, [.ref hm, .ref hi, .ref qa, .ref qg, .int xl, .int xo, .int xs, .int xv, .int xp])), (hm, .inr (1, [.ref qc, .int mw, .int mf, .int mz])), (qc, .inl (cI, 149, .inl mc)), (qa, .inl (cI, 16, .inl xa)), (qg, .inl (cI, 4, .inl xg)), (hi, .inr (2, [.ref qb, .int ic])), (qb, .inl (cI, 24, .inl ib))] := hD
  refine lv_istore_n hx hb d_A_readShared_7 rfl hl (by decide) rfl (fun ls hl => ?_)
  have hl : lv_has ls 2 [(1, .int r1), (0, .ref ha)] := hl
  refine lv_aload_n hx hb d_A_readShared_8 rfl (lv_at hl 1 rfl) ?_
  refine lv_iload_n hx hb d_A_readShared_9 rfl (lv_at hl 0 rfl) ?_
  obtain ⟨r2, hg, hf⟩ := bd1_some hf
  refine xci (wr := []) (ctA_clientOf l dC dI cI ha hm qc hi qb qa qg mc mw mf mz ib ic xa xg xl xo xs xv xp r1 r2 hg) ⟨hx, hb, hml, hown, hts⟩ (cwV (C := R_A) 1 hts (gV wq316 wq318 wq18 wq43 wq319) rfl rfl rfl (by decide +kernel) ⟨Nat.le_of_ble_eq_true rfl, Nat.le_of_ble_eq_true rfl⟩) hK hP hD hS hA [0, 1, 2, 5, 6, 3, 4] [] rfl rfl rfl rfl (by decide) (ci := 0) (q0 := 0) rfl rfl rfl rfl hl.1 rfl (Nat.le_of_ble_eq_true rfl) d_A_readShared_10 ⟨Nat.zero_le _, Nat.zero_le _⟩ (fun H locs hP hD hS => ?_)
  have hP : va_P (dC, dI) vwCl [(ha, .inr (0, [.ref hm, .ref hi, .ref qa, .ref qg, .int xl, .int xo, .int xs, .int xv, .int xp])), (hm, .inr (1, [.ref qc, .int mw, .int mf, .int mz])), (qc, .inl (cI, 149, .inl mc)), (hi, .inr (2, [.ref qb, .int ic])), (qb, .inl (cI, 24, .inl ib)), (qa, .inl (cI, 16, .inl xa)), (qg, .inl (cI, 4, .inl xg))] H := hP
  have hD : va_D A [(ha, .inr (0, [.ref hm, .ref hi, .ref qa, .ref qg, .int xl, .int xo, .int xs, .int xv, .int xp])), (hm, .inr (1, [.ref qc, .int mw, .int mf, .int mz])), (qc, .inl (cI, 149, .inl mc)), (hi, .inr (2, [.ref qb, .int ic])), (qb, .inl (cI, 24, .inl ib)), (qa, .inl (cI, 16, .inl xa)), (qg, .inl (cI, 4, .inl xg))] := hD
  refine lv_aload_n hx hb d_A_readShared_13 rfl (lv_at hl 1 rfl) ?_
  refine va_get (D := (dC, dI)) (ci := 0) (v := .int xs) (C := R_A) (T := F_A) (N := 9) hx hb hts inA hown hK hP 0 rfl rfl 6 (by decide) kf30 (fun _ h9 => h9) rfl d_A_readShared_14 ?_
  refine lv_icmp_eq (tgt := 24) hx hb d_A_readShared_17 rfl (fun hc3 => ?_) (fun hc3 => ?_)
  · have hf := ift hf hc3
    refine lv_aload_n hx hb d_A_readShared_24 rfl (lv_at hl 1 rfl) ?_
    refine va_get (D := (dC, dI)) (ci := 0) (v := .ref hi) (C := R_A) (T := F_A) (N := 9) hx hb hts inA hown hK hP 0 rfl rfl 1 (by decide) kf19 (fun _ h9 => h9) rfl d_A_readShared_25 ?_
    obtain ⟨r4, hg, hf⟩ := bd1_some hf
    refine xci (wr := [(ha, .inr (0, [.ref hm, .ref hi, .ref qa, .ref qg, .int xl, .int xo, .int xs, .int xv, .int xp])), (hm, .inr (1, [.ref qc, .int mw, .int mf, .int mz])), (qc, .inl (cI, 149, .inl mc)), (qa, .inl (cI, 16, .inl xa)), (qg, .inl (cI, 4, .inl xg))]) (ctI_p2 l dC dI cI hi qb ib ic r4 hg) ⟨hx, hb, hml, hown, hts⟩ (cwV (C := R_I) 0 hts (gV wq168 wq169 wq170 wq45 wq171) rfl rfl rfl (by decide +kernel) ⟨Nat.le_of_ble_eq_true rfl, Nat.le_of_ble_eq_true rfl⟩) hK hP hD hS hA [3, 4] [0, 1, 2, 5, 6] rfl rfl rfl rfl (by decide) (ci := 2) (q0 := 3) rfl rfl rfl rfl hl.1 rfl (Nat.le_of_ble_eq_true rfl) d_A_readShared_28 ⟨Nat.zero_le _, Nat.zero_le _⟩ (fun H locs hP hD hS => ?_)
    have hP : va_P (dC, dI) vwCl [(ha, .inr (0, [.ref hm, .ref hi, .ref qa, .ref qg, .int xl, .int xo, .int xs, .int xv, .int xp])), (hm, .inr (1, [.ref qc, .int mw, .int mf, .int mz])), (qc, .inl (cI, 149, .inl mc)), (qa, .inl (cI, 16, .inl xa)), (qg, .inl (cI, 4, .inl xg)), (hi, .inr (2, [.ref qb, .int ic])), (qb, .inl (cI, 24, .inl ib))] H := hP
    have hD : va_D A [(ha, .inr (0, [.ref hm, .ref hi, .ref qa, .ref qg, .int xl, .int xo, .int xs, .int xv, .int xp])), (hm, .inr (1, [.ref qc, .int mw, .int mf, .int mz])), (qc, .inl (cI, 149, .inl mc)), (qa, .inl (cI, 16, .inl xa)), (qg, .inl (cI, 4, .inl xg)), (hi, .inr (2, [.ref qb, .int ic])), (qb, .inl (cI, 24, .inl ib))] := hD
    refine lv_aload_n hx hb d_A_readShared_31 rfl (lv_at hl 1 rfl) ?_
    refine va_get (D := (dC, dI)) (ci := 0) (v := .ref hi) (C := R_A) (T := F_A) (N := 9) hx hb hts inA hown hK hP 0 rfl rfl 1 (by decide) kf19 (fun _ h9 => h9) rfl d_A_readShared_32 ?_
    obtain ⟨r5, hg, hf⟩ := bd1_some hf
    refine xci (wr := [(ha, .inr (0, [.ref hm, .ref hi, .ref qa, .ref qg, .int xl, .int xo, .int xs, .int xv, .int xp])), (hm, .inr (1, [.ref qc, .int mw, .int mf, .int mz])), (qc, .inl (cI, 149, .inl mc)), (qa, .inl (cI, 16, .inl xa)), (qg, .inl (cI, 4, .inl xg))]) (ctI_le l dC dI cI hi qb ib ic r5 hg) ⟨hx, hb, hml, hown, hts⟩ (cwV (C := R_I) 0 hts (gV wq274 wq275 wq276 wq45 wq277) rfl rfl rfl (by decide +kernel) ⟨Nat.le_of_ble_eq_true rfl, Nat.le_of_ble_eq_true rfl⟩) hK hP hD hS hA [5, 6] [0, 1, 2, 3, 4] rfl rfl rfl rfl (by decide) (ci := 2) (q0 := 5) rfl rfl rfl rfl hl.1 rfl (Nat.le_of_ble_eq_true rfl) d_A_readShared_35 ⟨Nat.zero_le _, Nat.zero_le _⟩ (fun H locs hP hD hS => ?_)
    have hP : va_P (dC, dI) vwCl [(ha, .inr (0, [.ref hm, .ref hi, .ref qa, .ref qg, .int xl, .int xo, .int xs, .int xv, .int xp])), (hm, .inr (1, [.ref qc, .int mw, .int mf, .int mz])), (qc, .inl (cI, 149, .inl mc)), (qa, .inl (cI, 16, .inl xa)), (qg, .inl (cI, 4, .inl xg)), (hi, .inr (2, [.ref qb, .int ic])), (qb, .inl (cI, 24, .inl ib))] H := hP
    have hD : va_D A [(ha, .inr (0, [.ref hm, .ref hi, .ref qa, .ref qg, .int xl, .int xo, .int xs, .int xv, .int xp])), (hm, .inr (1, [.ref qc, .int mw, .int mf, .int mz])), (qc, .inl (cI, 149, .inl mc)), (qa, .inl (cI, 16, .inl xa)), (qg, .inl (cI, 4, .inl xg)), (hi, .inr (2, [.ref qb, .int ic])), (qb, .inl (cI, 24, .inl ib))] := hD
    refine lv_iadd hx hb d_A_readShared_38 ?_
    refine lv_aload_n hx hb d_A_readShared_39 rfl (lv_at hl 1 rfl) ?_
    refine lv_iload_n hx hb d_A_readShared_40 rfl (lv_at hl 0 rfl) ?_
    refine lv_iconst (v := 2) hx hb d_A_readShared_41 (by decide) ?_
    obtain ⟨r6, hg, hf⟩ := bd1_some hf
    refine xci (wr := []) (ctA_shareByte l dC dI cI ha hm qc hi qb qa qg mc mw mf mz ib ic xa xg xl xo xs xv xp r1 2 r6 hg) ⟨hx, hb, hml, hown, hts⟩ (cwV (C := R_A) 2 hts (gV wq301 wq303 wq15 wq43 wq304) rfl rfl rfl (by decide +kernel) ⟨Nat.le_of_ble_eq_true rfl, Nat.le_of_ble_eq_true rfl⟩) hK hP hD hS hA [0, 1, 2, 5, 6, 3, 4] [] rfl rfl rfl rfl (by decide) (ci := 0) (q0 := 0) rfl rfl rfl rfl hl.1 rfl (Nat.le_of_ble_eq_true rfl) d_A_readShared_42 ⟨Nat.zero_le _, Nat.zero_le _⟩ (fun H locs hP hD hS => ?_)
    have hP : va_P (dC, dI) vwCl [(ha, .inr (0, [.ref hm, .ref hi, .ref qa, .ref qg, .int xl, .int xo, .int xs, .int xv, .int xp])), (hm, .inr (1, [.ref qc, .int mw, .int mf, .int mz])), (qc, .inl (cI, 149, .inl mc)), (hi, .inr (2, [.ref qb, .int ic])), (qb, .inl (cI, 24, .inl ib)), (qa, .inl (cI, 16, .inl xa)), (qg, .inl (cI, 4, .inl xg))] H := hP
    have hD : va_D A [(ha, .inr (0, [.ref hm, .ref hi, .ref qa, .ref qg, .int xl, .int xo, .int xs, .int xv, .int xp])), (hm, .inr (1, [.ref qc, .int mw, .int mf, .int mz])), (qc, .inl (cI, 149, .inl mc)), (hi, .inr (2, [.ref qb, .int ic])), (qb, .inl (cI, 24, .inl ib)), (qa, .inl (cI, 16, .inl xa)), (qg, .inl (cI, 4, .inl xg))] := hD
    refine lv_icmp_le (tgt := 52) hx hb d_A_readShared_45 rfl (fun hc7 => ?_) (fun hc7 => ?_)
    · have hf := ift hf hc7
      refine lv_aload_n hx hb d_A_readShared_52 rfl (lv_at hl 1 rfl) ?_
      refine lv_aload_n hx hb d_A_readShared_53 rfl (lv_at hl 1 rfl) ?_
      refine lv_iload_n hx hb d_A_readShared_54 rfl (lv_at hl 0 rfl) ?_
      refine lv_aload_n hx hb d_A_readShared_55 rfl (lv_at hl 1 rfl) ?_
      refine va_get (D := (dC, dI)) (ci := 0) (v := .ref hi) (C := R_A) (T := F_A) (N := 9) hx hb hts inA hown hK hP 0 rfl rfl 1 (by decide) kf19 (fun _ h9 => h9) rfl d_A_readShared_56 ?_
      obtain ⟨r8, hg, hf⟩ := bd1_some hf
      refine xci (wr := [(ha, .inr (0, [.ref hm, .ref hi, .ref qa, .ref qg, .int xl, .int xo, .int xs, .int xv, .int xp])), (hm, .inr (1, [.ref qc, .int mw, .int mf, .int mz])), (qc, .inl (cI, 149, .inl mc)), (qa, .inl (cI, 16, .inl xa)), (qg, .inl (cI, 4, .inl xg))]) (ctI_p2 l dC dI cI hi qb ib ic r8 hg) ⟨hx, hb, hml, hown, hts⟩ (cwV (C := R_I) 0 hts (gV wq168 wq169 wq170 wq45 wq171) rfl rfl rfl (by decide +kernel) ⟨Nat.le_of_ble_eq_true rfl, Nat.le_of_ble_eq_true rfl⟩) hK hP hD hS hA [3, 4] [0, 1, 2, 5, 6] rfl rfl rfl rfl (by decide) (ci := 2) (q0 := 3) rfl rfl rfl rfl hl.1 rfl (Nat.le_of_ble_eq_true rfl) d_A_readShared_59 ⟨Nat.zero_le _, Nat.zero_le _⟩ (fun H locs hP hD hS => ?_)
      have hP : va_P (dC, dI) vwCl [(ha, .inr (0, [.ref hm, .ref hi, .ref qa, .ref qg, .int xl, .int xo, .int xs, .int xv, .int xp])), (hm, .inr (1, [.ref qc, .int mw, .int mf, .int mz])), (qc, .inl (cI, 149, .inl mc)), (qa, .inl (cI, 16, .inl xa)), (qg, .inl (cI, 4, .inl xg)), (hi, .inr (2, [.ref qb, .int ic])), (qb, .inl (cI, 24, .inl ib))] H := hP
      have hD : va_D A [(ha, .inr (0, [.ref hm, .ref hi, .ref qa, .ref qg, .int xl, .int xo, .int xs, .int xv, .int xp])), (hm, .inr (1, [.ref qc, .int mw, .int mf, .int mz])), (qc, .inl (cI, 149, .inl mc)), (qa, .inl (cI, 16, .inl xa)), (qg, .inl (cI, 4, .inl xg)), (hi, .inr (2, [.ref qb, .int ic])), (qb, .inl (cI, 24, .inl ib))] := hD
      obtain ⟨r9, hg, hf⟩ := bd1_some hf
      refine xci (wr := []) (ctA_sharedPlace l dC dI cI ha hm qc hi qb qa qg mc mw mf mz ib ic xa xg xl xo xs xv xp r1 r8 r9 hg) ⟨hx, hb, hml, hown, hts⟩ (cwV (C := R_A) 2 hts (gV wq320 wq322 wq19 wq43 wq323) rfl rfl rfl (by decide +kernel) ⟨Nat.le_of_ble_eq_true rfl, Nat.le_of_ble_eq_true rfl⟩) hK hP hD hS hA [0, 1, 2, 5, 6, 3, 4] [] rfl rfl rfl rfl (by decide) (ci := 0) (q0 := 0) rfl rfl rfl rfl hl.1 rfl (Nat.le_of_ble_eq_true rfl) d_A_readShared_62 ⟨Nat.zero_le _, Nat.zero_le _⟩ (fun H locs hP hD hS => ?_)
      have hP : va_P (dC, dI) vwCl [(ha, .inr (0, [.ref hm, .ref hi, .ref qa, .ref qg, .int xl, .int xo, .int xs, .int xv, .int xp])), (hm, .inr (1, [.ref qc, .int mw, .int mf, .int mz])), (qc, .inl (cI, 149, .inl mc)), (hi, .inr (2, [.ref qb, .int ic])), (qb, .inl (cI, 24, .inl ib)), (qa, .inl (cI, 16, .inl xa)), (qg, .inl (cI, 4, .inl xg))] H := hP
      have hD : va_D A [(ha, .inr (0, [.ref hm, .ref hi, .ref qa, .ref qg, .int xl, .int xo, .int xs, .int xv, .int xp])), (hm, .inr (1, [.ref qc, .int mw, .int mf, .int mz])), (qc, .inl (cI, 149, .inl mc)), (hi, .inr (2, [.ref qb, .int ic])), (qb, .inl (cI, 24, .inl ib)), (qa, .inl (cI, 16, .inl xa)), (qg, .inl (cI, 4, .inl xg))] := hD
      refine lv_aload_n hx hb d_A_readShared_65 rfl (lv_at hl 1 rfl) ?_
      refine va_get (D := (dC, dI)) (ci := 0) (v := .ref hi) (C := R_A) (T := F_A) (N := 9) hx hb hts inA hown hK hP 0 rfl rfl 1 (by decide) kf19 (fun _ h9 => h9) rfl d_A_readShared_66 ?_
      obtain ⟨r10, hg, hf⟩ := bd1_some hf
      refine xci (wr := [(ha, .inr (0, [.ref hm, .ref hi, .ref qa, .ref qg, .int xl, .int xo, .int xs, .int xv, .int xp])), (hm, .inr (1, [.ref qc, .int mw, .int mf, .int mz])), (qc, .inl (cI, 149, .inl mc)), (qa, .inl (cI, 16, .inl xa)), (qg, .inl (cI, 4, .inl xg))]) (ctI_le l dC dI cI hi qb ib ic r10 hg) ⟨hx, hb, hml, hown, hts⟩ (cwV (C := R_I) 0 hts (gV wq274 wq275 wq276 wq45 wq277) rfl rfl rfl (by decide +kernel) ⟨Nat.le_of_ble_eq_true rfl, Nat.le_of_ble_eq_true rfl⟩) hK hP hD hS hA [3, 4] [0, 1, 2, 5, 6] rfl rfl rfl rfl (by decide) (ci := 2) (q0 := 3) rfl rfl rfl rfl hl.1 rfl (Nat.le_of_ble_eq_true rfl) d_A_readShared_69 ⟨Nat.zero_le _, Nat.zero_le _⟩ (fun H locs hP hD hS => ?_)
      have hP : va_P (dC, dI) vwCl [(ha, .inr (0, [.ref hm, .ref hi, .ref qa, .ref qg, .int xl, .int xo, .int xs, .int xv, .int xp])), (hm, .inr (1, [.ref qc, .int mw, .int mf, .int mz])), (qc, .inl (cI, 149, .inl mc)), (qa, .inl (cI, 16, .inl xa)), (qg, .inl (cI, 4, .inl xg)), (hi, .inr (2, [.ref qb, .int ic])), (qb, .inl (cI, 24, .inl ib))] H := hP
      have hD : va_D A [(ha, .inr (0, [.ref hm, .ref hi, .ref qa, .ref qg, .int xl, .int xo, .int xs, .int xv, .int xp])), (hm, .inr (1, [.ref qc, .int mw, .int mf, .int mz])), (qc, .inl (cI, 149, .inl mc)), (qa, .inl (cI, 16, .inl xa)), (qg, .inl (cI, 4, .inl xg)), (hi, .inr (2, [.ref qb, .int ic])), (qb, .inl (cI, 24, .inl ib))] := hD
      obtain ⟨r11, mc11, mw11, mf11, mz11, ib11, ic11, xa11, xg11, xl11, xo11, xs11, xv11, xp11, hg, hf⟩ := bd14_some hf
      refine xci (wr := []) (ctA_respond l dC dI cI ha hm qc hi qb qa qg mc mw mf mz ib ic xa xg xl xo xs xv xp r9 r10 r11 mc11 mw11 mf11 mz11 ib11 ic11 xa11 xg11 xl11 xo11 xs11 xv11 xp11 hg) ⟨hx, hb, hml, hown, hts⟩ (cwV (C := R_A) 2 hts (gV wq225 wq227 wq3 wq43 wq228) rfl rfl rfl (by decide +kernel) ⟨Nat.le_of_ble_eq_true rfl, Nat.le_of_ble_eq_true rfl⟩) hK hP hD hS hA [0, 1, 2, 5, 6, 3, 4] [] rfl rfl rfl rfl (by decide) (ci := 0) (q0 := 0) rfl rfl rfl rfl hl.1 rfl (Nat.le_of_ble_eq_true rfl) d_A_readShared_72 ⟨Nat.zero_le _, Nat.zero_le _⟩ (fun H locs hP hD hS => ?_)
      have hP : va_P (dC, dI) vwCl [(ha, .inr (0, [.ref hm, .ref hi, .ref qa, .ref qg, .int xl11, .int xo11, .int xs11, .int xv11, .int xp11])), (hm, .inr (1, [.ref qc, .int mw11, .int mf11, .int mz11])), (qc, .inl (cI, 149, .inl mc11)), (hi, .inr (2, [.ref qb, .int ic11])), (qb, .inl (cI, 24, .inl ib11)), (qa, .inl (cI, 16, .inl xa11)), (qg, .inl (cI, 4, .inl xg11))] H := hP
      have hD : va_D A [(ha, .inr (0, [.ref hm, .ref hi, .ref qa, .ref qg, .int xl11, .int xo11, .int xs11, .int xv11, .int xp11])), (hm, .inr (1, [.ref qc, .int mw11, .int mf11, .int mz11])), (qc, .inl (cI, 149, .inl mc11)), (hi, .inr (2, [.ref qb, .int ic11])), (qb, .inl (cI, 24, .inl ib11)), (qa, .inl (cI, 16, .inl xa11)), (qg, .inl (cI, 4, .inl xg11))] := hD
      obtain ⟨e1_, e2_, e3_, e4_, e5_, e6_, e7_, e8_, e9_, e10_, e11_, e12_, e13_, e14_⟩ := lf14 hf
      subst e1_; subst e2_; subst e3_; subst e4_; subst e5_; subst e6_; subst e7_; subst e8_; subst e9_; subst e10_; subst e11_; subst e12_; subst e13_; subst e14_
      have hP9 := hP.sub (ws' := [(ha, .inr (0, [.ref hm, .ref hi, .ref qa, .ref qg, .int xl11, .int xo11, .int xs11, .int xv11, .int xp11])), (hm, .inr (1, [.ref qc, .int mw11, .int mf11, .int mz11])), (qc, .inl (cI, 149, .inl mc11)), (hi, .inr (2, [.ref qb, .int ic11])), (qb, .inl (cI, 24, .inl ib11)), (qa, .inl (cI, 16, .inl xa11)), (qg, .inl (cI, 4, .inl xg11))]) [0, 1, 2, 3, 4, 5, 6] rfl
      have hD9 := hD.sub (ws' := [(ha, .inr (0, [.ref hm, .ref hi, .ref qa, .ref qg, .int xl11, .int xo11, .int xs11, .int xv11, .int xp11])), (hm, .inr (1, [.ref qc, .int mw11, .int mf11, .int mz11])), (qc, .inl (cI, 149, .inl mc11)), (hi, .inr (2, [.ref qb, .int ic11])), (qb, .inl (cI, 24, .inl ib11)), (qa, .inl (cI, 16, .inl xa11)), (qg, .inl (cI, 4, .inl xg11))]) [0, 1, 2, 3, 4, 5, 6] (by decide) rfl
      exact W.iret (v := r11) hx hb hr (fun t ht hW => ⟨⟨r11, (), rfl, rfl, by rw [ht]; exact hP9, va_K.moved hW.alike hK, hD9⟩, hS.F ht⟩) hS.2.2 d_A_readShared_75
    have hf := ifn hf hc7
    refine lv_sipush (v := 27392) hx hb d_A_readShared_48 (by decide) ?_
    obtain ⟨e1_, e2_, e3_, e4_, e5_, e6_, e7_, e8_, e9_, e10_, e11_, e12_, e13_, e14_⟩ := lf14 hf
    subst e1_; subst e2_; subst e3_; subst e4_; subst e5_; subst e6_; subst e7_; subst e8_; subst e9_; subst e10_; subst e11_; subst e12_; subst e13_; subst e14_
    have hP9 := hP.sub (ws' := [(ha, .inr (0, [.ref hm, .ref hi, .ref qa, .ref qg, .int xl, .int xo, .int xs, .int xv, .int xp])), (hm, .inr (1, [.ref qc, .int mw, .int mf, .int mz])), (qc, .inl (cI, 149, .inl mc)), (hi, .inr (2, [.ref qb, .int ic])), (qb, .inl (cI, 24, .inl ib)), (qa, .inl (cI, 16, .inl xa)), (qg, .inl (cI, 4, .inl xg))]) [0, 1, 2, 3, 4, 5, 6] rfl
    have hD9 := hD.sub (ws' := [(ha, .inr (0, [.ref hm, .ref hi, .ref qa, .ref qg, .int xl, .int xo, .int xs, .int xv, .int xp])), (hm, .inr (1, [.ref qc, .int mw, .int mf, .int mz])), (qc, .inl (cI, 149, .inl mc)), (hi, .inr (2, [.ref qb, .int ic])), (qb, .inl (cI, 24, .inl ib)), (qa, .inl (cI, 16, .inl xa)), (qg, .inl (cI, 4, .inl xg))]) [0, 1, 2, 3, 4, 5, 6] (by decide) rfl
    exact W.iret (v := 27392) hx hb hr (fun t ht hW => ⟨⟨27392, (), rfl, rfl, by rw [ht]; exact hP9, va_K.moved hW.alike hK, hD9⟩, hS.F ht⟩) hS.2.2 d_A_readShared_51
  have hf := ifn hf hc3
  refine lv_sipush (v := 27272) hx hb d_A_readShared_20 (by decide) ?_
  obtain ⟨e1_, e2_, e3_, e4_, e5_, e6_, e7_, e8_, e9_, e10_, e11_, e12_, e13_, e14_⟩ := lf14 hf
  subst e1_; subst e2_; subst e3_; subst e4_; subst e5_; subst e6_; subst e7_; subst e8_; subst e9_; subst e10_; subst e11_; subst e12_; subst e13_; subst e14_
  have hP9 := hP.sub (ws' := [(ha, .inr (0, [.ref hm, .ref hi, .ref qa, .ref qg, .int xl, .int xo, .int xs, .int xv, .int xp])), (hm, .inr (1, [.ref qc, .int mw, .int mf, .int mz])), (qc, .inl (cI, 149, .inl mc)), (hi, .inr (2, [.ref qb, .int ic])), (qb, .inl (cI, 24, .inl ib)), (qa, .inl (cI, 16, .inl xa)), (qg, .inl (cI, 4, .inl xg))]) [0, 1, 2, 3, 4, 5, 6] rfl
  have hD9 := hD.sub (ws' := [(ha, .inr (0, [.ref hm, .ref hi, .ref qa, .ref qg, .int xl, .int xo, .int xs, .int xv, .int xp])), (hm, .inr (1, [.ref qc, .int mw, .int mf, .int mz])), (qc, .inl (cI, 149, .inl mc)), (hi, .inr (2, [.ref qb, .int ic])), (qb, .inl (cI, 24, .inl ib)), (qa, .inl (cI, 16, .inl xa)), (qg, .inl (cI, 4, .inl xg))]) [0, 1, 2, 3, 4, 5, 6] (by decide) rfl
  exact W.iret (v := 27272) hx hb hr (fun t ht hW => ⟨⟨27272, (), rfl, rfl, by rw [ht]; exact hP9, va_K.moved hW.alike hK, hD9⟩, hS.F ht⟩) hS.2.2 d_A_readShared_23
theorem d_A_updateShared_0 : decode b_A_updateShared 0 = .ok (.aload_n 0, 1) := by decide +kernel
theorem d_A_updateShared_1 : decode b_A_updateShared 1 = .ok (.getfield 19, 3) := by decide +kernel
theorem d_A_updateShared_4 : decode b_A_updateShared 4 = .ok (.invokevirtual 130, 3) := by decide +kernel
theorem d_A_updateShared_7 : decode b_A_updateShared 7 = .ok (.istore_n 1, 1) := by decide +kernel
theorem d_A_updateShared_8 : decode b_A_updateShared 8 = .ok (.aload_n 0, 1) := by decide +kernel
theorem d_A_updateShared_9 : decode b_A_updateShared 9 = .ok (.iload_n 1, 1) := by decide +kernel
theorem d_A_updateShared_10 : decode b_A_updateShared 10 = .ok (.invokevirtual 224, 3) := by decide +kernel
theorem d_A_updateShared_13 : decode b_A_updateShared 13 = .ok (.aload_n 0, 1) := by decide +kernel
theorem d_A_updateShared_14 : decode b_A_updateShared 14 = .ok (.getfield 30, 3) := by decide +kernel
theorem d_A_updateShared_17 : decode b_A_updateShared 17 = .ok (.if_icmp .eq 7, 3) := by decide +kernel
theorem d_A_updateShared_20 : decode b_A_updateShared 20 = .ok (.sipush 27272, 3) := by decide +kernel
theorem d_A_updateShared_23 : decode b_A_updateShared 23 = .ok (.ireturn, 1) := by decide +kernel
theorem d_A_updateShared_24 : decode b_A_updateShared 24 = .ok (.aload_n 0, 1) := by decide +kernel
theorem d_A_updateShared_25 : decode b_A_updateShared 25 = .ok (.iload_n 1, 1) := by decide +kernel
theorem d_A_updateShared_26 : decode b_A_updateShared 26 = .ok (.iconst 3, 1) := by decide +kernel
theorem d_A_updateShared_27 : decode b_A_updateShared 27 = .ok (.invokevirtual 104, 3) := by decide +kernel
theorem d_A_updateShared_30 : decode b_A_updateShared 30 = .ok (.ifCond .ne 7, 3) := by decide +kernel
theorem d_A_updateShared_33 : decode b_A_updateShared 33 = .ok (.sipush 27010, 3) := by decide +kernel
theorem d_A_updateShared_36 : decode b_A_updateShared 36 = .ok (.ireturn, 1) := by decide +kernel
theorem d_A_updateShared_37 : decode b_A_updateShared 37 = .ok (.aload_n 0, 1) := by decide +kernel
theorem d_A_updateShared_38 : decode b_A_updateShared 38 = .ok (.getfield 19, 3) := by decide +kernel
theorem d_A_updateShared_41 : decode b_A_updateShared 41 = .ok (.invokevirtual 133, 3) := by decide +kernel
theorem d_A_updateShared_44 : decode b_A_updateShared 44 = .ok (.aload_n 0, 1) := by decide +kernel
theorem d_A_updateShared_45 : decode b_A_updateShared 45 = .ok (.getfield 19, 3) := by decide +kernel
theorem d_A_updateShared_48 : decode b_A_updateShared 48 = .ok (.invokevirtual 123, 3) := by decide +kernel
theorem d_A_updateShared_51 : decode b_A_updateShared 51 = .ok (.iadd, 1) := by decide +kernel
theorem d_A_updateShared_52 : decode b_A_updateShared 52 = .ok (.aload_n 0, 1) := by decide +kernel
theorem d_A_updateShared_53 : decode b_A_updateShared 53 = .ok (.iload_n 1, 1) := by decide +kernel
theorem d_A_updateShared_54 : decode b_A_updateShared 54 = .ok (.iconst 2, 1) := by decide +kernel
theorem d_A_updateShared_55 : decode b_A_updateShared 55 = .ok (.invokevirtual 104, 3) := by decide +kernel
theorem d_A_updateShared_58 : decode b_A_updateShared 58 = .ok (.if_icmp .le 7, 3) := by decide +kernel
theorem d_A_updateShared_61 : decode b_A_updateShared 61 = .ok (.sipush 27392, 3) := by decide +kernel
theorem d_A_updateShared_64 : decode b_A_updateShared 64 = .ok (.ireturn, 1) := by decide +kernel
theorem d_A_updateShared_65 : decode b_A_updateShared 65 = .ok (.aload_n 0, 1) := by decide +kernel
theorem d_A_updateShared_66 : decode b_A_updateShared 66 = .ok (.aload_n 0, 1) := by decide +kernel
theorem d_A_updateShared_67 : decode b_A_updateShared 67 = .ok (.iload_n 1, 1) := by decide +kernel
theorem d_A_updateShared_68 : decode b_A_updateShared 68 = .ok (.aload_n 0, 1) := by decide +kernel
theorem d_A_updateShared_69 : decode b_A_updateShared 69 = .ok (.getfield 19, 3) := by decide +kernel
theorem d_A_updateShared_72 : decode b_A_updateShared 72 = .ok (.invokevirtual 133, 3) := by decide +kernel
theorem d_A_updateShared_75 : decode b_A_updateShared 75 = .ok (.invokevirtual 227, 3) := by decide +kernel
theorem d_A_updateShared_78 : decode b_A_updateShared 78 = .ok (.invokevirtual 162, 3) := by decide +kernel
theorem d_A_updateShared_81 : decode b_A_updateShared 81 = .ok (.ireturn, 1) := by decide +kernel
def fA_updateShared (σ : StX) : Option (Int32 × StX) := match σ with | (mc, mw, mf, mz, ib, ic, xa, xg, xl, xo, xs, xv, xp) => bd1 (fI_p1 (ib, ic)) fun r1 => bd1 (fA_clientOf (mc, mw, mf, mz, ib, ic, xa, xg, xl, xo, xs, xv, xp) r1) fun r2 => if r2 = xs then (bd1 (fA_shareByte (mc, mw, mf, mz, ib, ic, xa, xg, xl, xo, xs, xv, xp) r1 3) fun r4 => if r4 = 0 then (some (27010, mc, mw, mf, mz, ib, ic, xa, xg, xl, xo, xs, xv, xp)) else (bd1 (fI_p2 (ib, ic)) fun r6 => bd1 (fI_lc (ib, ic)) fun r7 => bd1 (fA_shareByte (mc, mw, mf, mz, ib, ic, xa, xg, xl, xo, xs, xv, xp) r1 2) fun r8 => if (r6 + r7) ≤ r8 then (bd1 (fI_p2 (ib, ic)) fun r10 => bd1 (fA_sharedPlace (mc, mw, mf, mz, ib, ic, xa, xg, xl, xo, xs, xv, xp) r1 r10) fun r11 => bd14 (fA_storePayload (mc, mw, mf, mz, ib, ic, xa, xg, xl, xo, xs, xv, xp) r11) fun r12 mc12 mw12 mf12 mz12 ib12 ic12 xa12 xg12 xl12 xo12 xs12 xv12 xp12 => some (r12, mc12, mw12, mf12, mz12, ib12, ic12, xa12, xg12, xl12, xo12, xs12, xv12, xp12)) else (some (27392, mc, mw, mf, mz, ib, ic, xa, xg, xl, xo, xs, xv, xp)))) else (some (27272, mc, mw, mf, mz, ib, ic, xa, xg, xl, xo, xs, xv, xp))
set_option maxHeartbeats 4000000 in
set_option maxRecDepth 100000 in
theorem ctA_updateShared (l : Launch) (dC : Nat → ClassId) (dI : Nat → Nat → Nat) (cI : ClassId) (ha hm qc hi qb qa qg : Nat) (mc : Nat → Int32) (mw : Int32) (mf : Int32) (mz : Int32) (ib : Nat → Int32) (ic : Int32) (xa : Nat → Int32) (xg : Nat → Int32) (xl : Int32) (xo : Int32) (xs : Int32) (xv : Int32) (xp : Int32) (r : Int32) (mc' : Nat → Int32) (mw' : Int32) (mf' : Int32) (mz' : Int32) (ib' : Nat → Int32) (ic' : Int32) (xa' : Nat → Int32) (xg' : Nat → Int32) (xl' : Int32) (xo' : Int32) (xs' : Int32) (xv' : Int32) (xp' : Int32) (hf : fA_updateShared (mc, mw, mf, mz, ib, ic, xa, xg, xl, xo, xs, xv, xp) = some (r, mc', mw', mf', mz', ib', ic', xa', xg', xl', xo', xs', xv', xp')) : CtI l y_A_updateShared w_A_updateShared ({ frames := 4, cells := 0, slots := 0, locals := 91 }) (dC, dI) [(cI, .int)] [.ref ha] [(ha, .inr (0, [.ref hm, .ref hi, .ref qa, .ref qg, .int xl, .int xo, .int xs, .int xv, .int xp])), (hm, .inr (1, [.ref qc, .int mw, .int mf, .int mz])), (qc, .inl (cI, 149, .inl mc)), (hi, .inr (2, [.ref qb, .int ic])), (qb, .inl (cI, 24, .inl ib)), (qa, .inl (cI, 16, .inl xa)), (qg, .inl (cI, 4, .inl xg))] [(ha, .inr (0, [.ref hm, .ref hi, .ref qa, .ref qg, .int xl', .int xo', .int xs', .int xv', .int xp'])), (hm, .inr (1, [.ref qc, .int mw', .int mf', .int mz'])), (qc, .inl (cI, 149, .inl mc')), (hi, .inr (2, [.ref qb, .int ic'])), (qb, .inl (cI, 24, .inl ib')), (qa, .inl (cI, 16, .inl xa')), (qg, .inl (cI, 4, .inl xg'))] r := by
  intro sz
  refine Met.ofW (cc := b_A_updateShared) (maxL := 2) (ret := some .int) (by decide) rfl ?_
  intro p e s m args below meth c s₁ B hml hv
  obtain ⟨rfl, hsz, hP, hK, hD0⟩ := hv
  have hx := B.exec
  have hb := B.bytes
  have hr := B.returns
  have hts := atoms_spec (ws := w_A_updateShared) B.pre
  have hown : s.vm.findClass R_A = some m.cls := findClass_of_methodNamed B.named
  have hlocks := B.notSynchronized
  subst hsz
  have hD := hD0.self (sz := s.heap.size)
  generalize hAe : va_A [(ha, .inr (0, [.ref hm, .ref hi, .ref qa, .ref qg, .int xl, .int xo, .int xs, .int xv, .int xp])), (hm, .inr (1, [.ref qc, .int mw, .int mf, .int mz])), (qc, .inl (cI, 149, .inl mc)), (hi, .inr (2, [.ref qb, .int ic])), (qb, .inl (cI, 24, .inl ib)), (qa, .inl (cI, 16, .inl xa)), (qg, .inl (cI, 4, .inl xg))] s.heap.size = A at hD ⊢
  have hA : ∀ q : Nat, s.heap.size ≤ q → A q := fun q h => by rw [← hAe]; exact Or.inr h
  have hS : va_S A s.heap s.heap [] := va_S.rf
  have hP : va_P (dC, dI) vwCl [(ha, .inr (0, [.ref hm, .ref hi, .ref qa, .ref qg, .int xl, .int xo, .int xs, .int xv, .int xp])), (hm, .inr (1, [.ref qc, .int mw, .int mf, .int mz])), (qc, .inl (cI, 149, .inl mc)), (hi, .inr (2, [.ref qb, .int ic])), (qb, .inl (cI, 24, .inl ib)), (qa, .inl (cI, 16, .inl xa)), (qg, .inl (cI, 4, .inl xg))] s.heap := hP
  have hl := lv_entry ([.ref ha]) (n := 2) (Nat.le_of_ble_eq_true rfl)
  rw [lg_entry_eq]
  generalize (lg_sl ([.ref ha]) ++ List.replicate (2 - (lg_sl ([.ref ha])).length) Slot.unset).toArray = ls at hl ⊢
  have hl : lv_has ls 2 [(0, .ref ha)] := hl
  have inA : ∀ w ∈ u_ws R_A F_A 9, w ∈ w_A_updateShared := fun w h => List.mem_cons_of_mem _ (in_A w h)
  have kf19 := hts _ (List.mem_cons_of_mem _ wq92)
  have kf30 := hts _ (List.mem_cons_of_mem _ wq97)
  rw [fA_updateShared] at hf
  refine lv_aload_n hx hb d_A_updateShared_0 rfl (lv_at hl 0 rfl) ?_
  refine va_get (D := (dC, dI)) (ci := 0) (v := .ref hi) (C := R_A) (T := F_A) (N := 9) hx hb hts inA hown hK hP 0 rfl rfl 1 (by decide) kf19 (fun _ h9 => h9) rfl d_A_updateShared_1 ?_
  obtain ⟨r1, hg, hf⟩ := bd1_some hf
  refine xci (wr := [(ha, .inr (0, [.ref hm, .ref hi, .ref qa, .ref qg, .int xl, .int xo, .int xs, .int xv, .int xp])), (hm, .inr (1, [.ref qc, .int mw, .int mf, .int mz])), (qc, .inl (cI, 149, .inl mc)), (qa, .inl (cI, 16, .inl xa)), (qg, .inl (cI, 4, .inl xg))]) (ctI_p1 l dC dI cI hi qb ib ic r1 hg) ⟨hx, hb, hml, hown, hts⟩ (cwV (C := R_I) 0 hts (gV wq164 wq165 wq166 wq45 wq167) rfl rfl rfl (by decide +kernel) ⟨Nat.le_of_ble_eq_true rfl, Nat.le_of_ble_eq_true rfl⟩) hK hP hD hS hA [3, 4] [0, 1, 2, 5, 6] rfl rfl rfl rfl (by decide) (ci := 2) (q0 := 3) rfl rfl rfl rfl hl.1 rfl (Nat.le_of_ble_eq_true rfl) d_A_updateShared_4 ⟨Nat.zero_le _, Nat.zero_le _⟩ (fun H locs hP hD hS => ?_)
  have hP : va_P (dC, dI) vwCl [(ha, .inr (0, [.ref hm, .ref hi, .ref qa, .ref qg, .int xl, .int xo, .int xs, .int xv, .int xp])), (hm, .inr (1, [.ref qc, .int mw, .int mf, .int mz])), (qc, .inl (cI, 149, .inl mc)), (qa, .inl (cI, 16, .inl xa)), (qg, .inl (cI, 4, .inl xg)), (hi, .inr (2, [.ref qb, .int ic])), (qb, .inl (cI, 24, .inl ib))] H := hP
  have hD : va_D A [(ha, .inr (0, [.ref hm, .ref hi, .ref qa, .ref qg, .int xl, .int xo, .int xs, .int xv, .int xp])), (hm, .inr (1, [.ref qc, .int mw, .int mf, .int mz])), (qc, .inl (cI, 149, .inl mc)), (qa, .inl (cI, 16, .inl xa)), (qg, .inl (cI, 4, .inl xg)), (hi, .inr (2, [.ref qb, .int ic])), (qb, .inl (cI, 24, .inl ib))] := hD
  refine lv_istore_n hx hb d_A_updateShared_7 rfl hl (by decide) rfl (fun ls hl => ?_)
  have hl : lv_has ls 2 [(1, .int r1), (0, .ref ha)] := hl
  refine lv_aload_n hx hb d_A_updateShared_8 rfl (lv_at hl 1 rfl) ?_
  refine lv_iload_n hx hb d_A_updateShared_9 rfl (lv_at hl 0 rfl) ?_
  obtain ⟨r2, hg, hf⟩ := bd1_some hf
  refine xci (wr := []) (ctA_clientOf l dC dI cI ha hm qc hi qb qa qg mc mw mf mz ib ic xa xg xl xo xs xv xp r1 r2 hg) ⟨hx, hb, hml, hown, hts⟩ (cwV (C := R_A) 1 hts (gV wq316 wq318 wq18 wq43 wq319) rfl rfl rfl (by decide +kernel) ⟨Nat.le_of_ble_eq_true rfl, Nat.le_of_ble_eq_true rfl⟩) hK hP hD hS hA [0, 1, 2, 5, 6, 3, 4] [] rfl rfl rfl rfl (by decide) (ci := 0) (q0 := 0) rfl rfl rfl rfl hl.1 rfl (Nat.le_of_ble_eq_true rfl) d_A_updateShared_10 ⟨Nat.zero_le _, Nat.zero_le _⟩ (fun H locs hP hD hS => ?_)
  have hP : va_P (dC, dI) vwCl [(ha, .inr (0, [.ref hm, .ref hi, .ref qa, .ref qg, .int xl, .int xo, .int xs, .int xv, .int xp])), (hm, .inr (1, [.ref qc, .int mw, .int mf, .int mz])), (qc, .inl (cI, 149, .inl mc)), (hi, .inr (2, [.ref qb, .int ic])), (qb, .inl (cI, 24, .inl ib)), (qa, .inl (cI, 16, .inl xa)), (qg, .inl (cI, 4, .inl xg))] H := hP
  have hD : va_D A [(ha, .inr (0, [.ref hm, .ref hi, .ref qa, .ref qg, .int xl, .int xo, .int xs, .int xv, .int xp])), (hm, .inr (1, [.ref qc, .int mw, .int mf, .int mz])), (qc, .inl (cI, 149, .inl mc)), (hi, .inr (2, [.ref qb, .int ic])), (qb, .inl (cI, 24, .inl ib)), (qa, .inl (cI, 16, .inl xa)), (qg, .inl (cI, 4, .inl xg))] := hD
  refine lv_aload_n hx hb d_A_updateShared_13 rfl (lv_at hl 1 rfl) ?_
  refine va_get (D := (dC, dI)) (ci := 0) (v := .int xs) (C := R_A) (T := F_A) (N := 9) hx hb hts inA hown hK hP 0 rfl rfl 6 (by decide) kf30 (fun _ h9 => h9) rfl d_A_updateShared_14 ?_
  refine lv_icmp_eq (tgt := 24) hx hb d_A_updateShared_17 rfl (fun hc3 => ?_) (fun hc3 => ?_)
  · have hf := ift hf hc3
    refine lv_aload_n hx hb d_A_updateShared_24 rfl (lv_at hl 1 rfl) ?_
    refine lv_iload_n hx hb d_A_updateShared_25 rfl (lv_at hl 0 rfl) ?_
    refine lv_iconst (v := 3) hx hb d_A_updateShared_26 (by decide) ?_
    obtain ⟨r4, hg, hf⟩ := bd1_some hf
    refine xci (wr := []) (ctA_shareByte l dC dI cI ha hm qc hi qb qa qg mc mw mf mz ib ic xa xg xl xo xs xv xp r1 3 r4 hg) ⟨hx, hb, hml, hown, hts⟩ (cwV (C := R_A) 2 hts (gV wq301 wq303 wq15 wq43 wq304) rfl rfl rfl (by decide +kernel) ⟨Nat.le_of_ble_eq_true rfl, Nat.le_of_ble_eq_true rfl⟩) hK hP hD hS hA [0, 1, 2, 3, 4, 5, 6] [] rfl rfl rfl rfl (by decide) (ci := 0) (q0 := 0) rfl rfl rfl rfl hl.1 rfl (Nat.le_of_ble_eq_true rfl) d_A_updateShared_27 ⟨Nat.zero_le _, Nat.zero_le _⟩ (fun H locs hP hD hS => ?_)
    have hP : va_P (dC, dI) vwCl [(ha, .inr (0, [.ref hm, .ref hi, .ref qa, .ref qg, .int xl, .int xo, .int xs, .int xv, .int xp])), (hm, .inr (1, [.ref qc, .int mw, .int mf, .int mz])), (qc, .inl (cI, 149, .inl mc)), (hi, .inr (2, [.ref qb, .int ic])), (qb, .inl (cI, 24, .inl ib)), (qa, .inl (cI, 16, .inl xa)), (qg, .inl (cI, 4, .inl xg))] H := hP
    have hD : va_D A [(ha, .inr (0, [.ref hm, .ref hi, .ref qa, .ref qg, .int xl, .int xo, .int xs, .int xv, .int xp])), (hm, .inr (1, [.ref qc, .int mw, .int mf, .int mz])), (qc, .inl (cI, 149, .inl mc)), (hi, .inr (2, [.ref qb, .int ic])), (qb, .inl (cI, 24, .inl ib)), (qa, .inl (cI, 16, .inl xa)), (qg, .inl (cI, 4, .inl xg))] := hD
    refine lv_if_ne (tgt := 37) hx hb d_A_updateShared_30 rfl (fun hc5 => ?_) (fun hc5 => ?_)
    · have hf := ifn hf hc5
      refine lv_aload_n hx hb d_A_updateShared_37 rfl (lv_at hl 1 rfl) ?_
      refine va_get (D := (dC, dI)) (ci := 0) (v := .ref hi) (C := R_A) (T := F_A) (N := 9) hx hb hts inA hown hK hP 0 rfl rfl 1 (by decide) kf19 (fun _ h9 => h9) rfl d_A_updateShared_38 ?_
      obtain ⟨r6, hg, hf⟩ := bd1_some hf
      refine xci (wr := [(ha, .inr (0, [.ref hm, .ref hi, .ref qa, .ref qg, .int xl, .int xo, .int xs, .int xv, .int xp])), (hm, .inr (1, [.ref qc, .int mw, .int mf, .int mz])), (qc, .inl (cI, 149, .inl mc)), (qa, .inl (cI, 16, .inl xa)), (qg, .inl (cI, 4, .inl xg))]) (ctI_p2 l dC dI cI hi qb ib ic r6 hg) ⟨hx, hb, hml, hown, hts⟩ (cwV (C := R_I) 0 hts (gV wq168 wq169 wq170 wq45 wq171) rfl rfl rfl (by decide +kernel) ⟨Nat.le_of_ble_eq_true rfl, Nat.le_of_ble_eq_true rfl⟩) hK hP hD hS hA [3, 4] [0, 1, 2, 5, 6] rfl rfl rfl rfl (by decide) (ci := 2) (q0 := 3) rfl rfl rfl rfl hl.1 rfl (Nat.le_of_ble_eq_true rfl) d_A_updateShared_41 ⟨Nat.zero_le _, Nat.zero_le _⟩ (fun H locs hP hD hS => ?_)
      have hP : va_P (dC, dI) vwCl [(ha, .inr (0, [.ref hm, .ref hi, .ref qa, .ref qg, .int xl, .int xo, .int xs, .int xv, .int xp])), (hm, .inr (1, [.ref qc, .int mw, .int mf, .int mz])), (qc, .inl (cI, 149, .inl mc)), (qa, .inl (cI, 16, .inl xa)), (qg, .inl (cI, 4, .inl xg)), (hi, .inr (2, [.ref qb, .int ic])), (qb, .inl (cI, 24, .inl ib))] H := hP
      have hD : va_D A [(ha, .inr (0, [.ref hm, .ref hi, .ref qa, .ref qg, .int xl, .int xo, .int xs, .int xv, .int xp])), (hm, .inr (1, [.ref qc, .int mw, .int mf, .int mz])), (qc, .inl (cI, 149, .inl mc)), (qa, .inl (cI, 16, .inl xa)), (qg, .inl (cI, 4, .inl xg)), (hi, .inr (2, [.ref qb, .int ic])), (qb, .inl (cI, 24, .inl ib))] := hD
      refine lv_aload_n hx hb d_A_updateShared_44 rfl (lv_at hl 1 rfl) ?_
      refine va_get (D := (dC, dI)) (ci := 0) (v := .ref hi) (C := R_A) (T := F_A) (N := 9) hx hb hts inA hown hK hP 0 rfl rfl 1 (by decide) kf19 (fun _ h9 => h9) rfl d_A_updateShared_45 ?_
      obtain ⟨r7, hg, hf⟩ := bd1_some hf
      refine xci (wr := [(ha, .inr (0, [.ref hm, .ref hi, .ref qa, .ref qg, .int xl, .int xo, .int xs, .int xv, .int xp])), (hm, .inr (1, [.ref qc, .int mw, .int mf, .int mz])), (qc, .inl (cI, 149, .inl mc)), (qa, .inl (cI, 16, .inl xa)), (qg, .inl (cI, 4, .inl xg))]) (ctI_lc l dC dI cI hi qb ib ic r7 hg) ⟨hx, hb, hml, hown, hts⟩ (cwV (C := R_I) 0 hts (gV wq159 wq151 wq152 wq45 wq153) rfl rfl rfl (by decide +kernel) ⟨Nat.le_of_ble_eq_true rfl, Nat.le_of_ble_eq_true rfl⟩) hK hP hD hS hA [5, 6] [0, 1, 2, 3, 4] rfl rfl rfl rfl (by decide) (ci := 2) (q0 := 5) rfl rfl rfl rfl hl.1 rfl (Nat.le_of_ble_eq_true rfl) d_A_updateShared_48 ⟨Nat.zero_le _, Nat.zero_le _⟩ (fun H locs hP hD hS => ?_)
      have hP : va_P (dC, dI) vwCl [(ha, .inr (0, [.ref hm, .ref hi, .ref qa, .ref qg, .int xl, .int xo, .int xs, .int xv, .int xp])), (hm, .inr (1, [.ref qc, .int mw, .int mf, .int mz])), (qc, .inl (cI, 149, .inl mc)), (qa, .inl (cI, 16, .inl xa)), (qg, .inl (cI, 4, .inl xg)), (hi, .inr (2, [.ref qb, .int ic])), (qb, .inl (cI, 24, .inl ib))] H := hP
      have hD : va_D A [(ha, .inr (0, [.ref hm, .ref hi, .ref qa, .ref qg, .int xl, .int xo, .int xs, .int xv, .int xp])), (hm, .inr (1, [.ref qc, .int mw, .int mf, .int mz])), (qc, .inl (cI, 149, .inl mc)), (qa, .inl (cI, 16, .inl xa)), (qg, .inl (cI, 4, .inl xg)), (hi, .inr (2, [.ref qb, .int ic])), (qb, .inl (cI, 24, .inl ib))] := hD
      refine lv_iadd hx hb d_A_updateShared_51 ?_
      refine lv_aload_n hx hb d_A_updateShared_52 rfl (lv_at hl 1 rfl) ?_
      refine lv_iload_n hx hb d_A_updateShared_53 rfl (lv_at hl 0 rfl) ?_
      refine lv_iconst (v := 2) hx hb d_A_updateShared_54 (by decide) ?_
      obtain ⟨r8, hg, hf⟩ := bd1_some hf
      refine xci (wr := []) (ctA_shareByte l dC dI cI ha hm qc hi qb qa qg mc mw mf mz ib ic xa xg xl xo xs xv xp r1 2 r8 hg) ⟨hx, hb, hml, hown, hts⟩ (cwV (C := R_A) 2 hts (gV wq301 wq303 wq15 wq43 wq304) rfl rfl rfl (by decide +kernel) ⟨Nat.le_of_ble_eq_true rfl, Nat.le_of_ble_eq_true rfl⟩) hK hP hD hS hA [0, 1, 2, 5, 6, 3, 4] [] rfl rfl rfl rfl (by decide) (ci := 0) (q0 := 0) rfl rfl rfl rfl hl.1 rfl (Nat.le_of_ble_eq_true rfl) d_A_updateShared_55 ⟨Nat.zero_le _, Nat.zero_le _⟩ (fun H locs hP hD hS => ?_)
      have hP : va_P (dC, dI) vwCl [(ha, .inr (0, [.ref hm, .ref hi, .ref qa, .ref qg, .int xl, .int xo, .int xs, .int xv, .int xp])), (hm, .inr (1, [.ref qc, .int mw, .int mf, .int mz])), (qc, .inl (cI, 149, .inl mc)), (hi, .inr (2, [.ref qb, .int ic])), (qb, .inl (cI, 24, .inl ib)), (qa, .inl (cI, 16, .inl xa)), (qg, .inl (cI, 4, .inl xg))] H := hP
      have hD : va_D A [(ha, .inr (0, [.ref hm, .ref hi, .ref qa, .ref qg, .int xl, .int xo, .int xs, .int xv, .int xp])), (hm, .inr (1, [.ref qc, .int mw, .int mf, .int mz])), (qc, .inl (cI, 149, .inl mc)), (hi, .inr (2, [.ref qb, .int ic])), (qb, .inl (cI, 24, .inl ib)), (qa, .inl (cI, 16, .inl xa)), (qg, .inl (cI, 4, .inl xg))] := hD
      refine lv_icmp_le (tgt := 65) hx hb d_A_updateShared_58 rfl (fun hc9 => ?_) (fun hc9 => ?_)
      · have hf := ift hf hc9
        refine lv_aload_n hx hb d_A_updateShared_65 rfl (lv_at hl 1 rfl) ?_
        refine lv_aload_n hx hb d_A_updateShared_66 rfl (lv_at hl 1 rfl) ?_
        refine lv_iload_n hx hb d_A_updateShared_67 rfl (lv_at hl 0 rfl) ?_
        refine lv_aload_n hx hb d_A_updateShared_68 rfl (lv_at hl 1 rfl) ?_
        refine va_get (D := (dC, dI)) (ci := 0) (v := .ref hi) (C := R_A) (T := F_A) (N := 9) hx hb hts inA hown hK hP 0 rfl rfl 1 (by decide) kf19 (fun _ h9 => h9) rfl d_A_updateShared_69 ?_
        obtain ⟨r10, hg, hf⟩ := bd1_some hf
        refine xci (wr := [(ha, .inr (0, [.ref hm, .ref hi, .ref qa, .ref qg, .int xl, .int xo, .int xs, .int xv, .int xp])), (hm, .inr (1, [.ref qc, .int mw, .int mf, .int mz])), (qc, .inl (cI, 149, .inl mc)), (qa, .inl (cI, 16, .inl xa)), (qg, .inl (cI, 4, .inl xg))]) (ctI_p2 l dC dI cI hi qb ib ic r10 hg) ⟨hx, hb, hml, hown, hts⟩ (cwV (C := R_I) 0 hts (gV wq168 wq169 wq170 wq45 wq171) rfl rfl rfl (by decide +kernel) ⟨Nat.le_of_ble_eq_true rfl, Nat.le_of_ble_eq_true rfl⟩) hK hP hD hS hA [3, 4] [0, 1, 2, 5, 6] rfl rfl rfl rfl (by decide) (ci := 2) (q0 := 3) rfl rfl rfl rfl hl.1 rfl (Nat.le_of_ble_eq_true rfl) d_A_updateShared_72 ⟨Nat.zero_le _, Nat.zero_le _⟩ (fun H locs hP hD hS => ?_)
        have hP : va_P (dC, dI) vwCl [(ha, .inr (0, [.ref hm, .ref hi, .ref qa, .ref qg, .int xl, .int xo, .int xs, .int xv, .int xp])), (hm, .inr (1, [.ref qc, .int mw, .int mf, .int mz])), (qc, .inl (cI, 149, .inl mc)), (qa, .inl (cI, 16, .inl xa)), (qg, .inl (cI, 4, .inl xg)), (hi, .inr (2, [.ref qb, .int ic])), (qb, .inl (cI, 24, .inl ib))] H := hP
        have hD : va_D A [(ha, .inr (0, [.ref hm, .ref hi, .ref qa, .ref qg, .int xl, .int xo, .int xs, .int xv, .int xp])), (hm, .inr (1, [.ref qc, .int mw, .int mf, .int mz])), (qc, .inl (cI, 149, .inl mc)), (qa, .inl (cI, 16, .inl xa)), (qg, .inl (cI, 4, .inl xg)), (hi, .inr (2, [.ref qb, .int ic])), (qb, .inl (cI, 24, .inl ib))] := hD
        obtain ⟨r11, hg, hf⟩ := bd1_some hf
        refine xci (wr := []) (ctA_sharedPlace l dC dI cI ha hm qc hi qb qa qg mc mw mf mz ib ic xa xg xl xo xs xv xp r1 r10 r11 hg) ⟨hx, hb, hml, hown, hts⟩ (cwV (C := R_A) 2 hts (gV wq320 wq322 wq19 wq43 wq323) rfl rfl rfl (by decide +kernel) ⟨Nat.le_of_ble_eq_true rfl, Nat.le_of_ble_eq_true rfl⟩) hK hP hD hS hA [0, 1, 2, 5, 6, 3, 4] [] rfl rfl rfl rfl (by decide) (ci := 0) (q0 := 0) rfl rfl rfl rfl hl.1 rfl (Nat.le_of_ble_eq_true rfl) d_A_updateShared_75 ⟨Nat.zero_le _, Nat.zero_le _⟩ (fun H locs hP hD hS => ?_)
        have hP : va_P (dC, dI) vwCl [(ha, .inr (0, [.ref hm, .ref hi, .ref qa, .ref qg, .int xl, .int xo, .int xs, .int xv, .int xp])), (hm, .inr (1, [.ref qc, .int mw, .int mf, .int mz])), (qc, .inl (cI, 149, .inl mc)), (hi, .inr (2, [.ref qb, .int ic])), (qb, .inl (cI, 24, .inl ib)), (qa, .inl (cI, 16, .inl xa)), (qg, .inl (cI, 4, .inl xg))] H := hP
        have hD : va_D A [(ha, .inr (0, [.ref hm, .ref hi, .ref qa, .ref qg, .int xl, .int xo, .int xs, .int xv, .int xp])), (hm, .inr (1, [.ref qc, .int mw, .int mf, .int mz])), (qc, .inl (cI, 149, .inl mc)), (hi, .inr (2, [.ref qb, .int ic])), (qb, .inl (cI, 24, .inl ib)), (qa, .inl (cI, 16, .inl xa)), (qg, .inl (cI, 4, .inl xg))] := hD
        obtain ⟨r12, mc12, mw12, mf12, mz12, ib12, ic12, xa12, xg12, xl12, xo12, xs12, xv12, xp12, hg, hf⟩ := bd14_some hf
        refine xci (wr := []) (ctA_storePayload l dC dI cI ha hm qc hi qb qa qg mc mw mf mz ib ic xa xg xl xo xs xv xp r11 r12 mc12 mw12 mf12 mz12 ib12 ic12 xa12 xg12 xl12 xo12 xs12 xv12 xp12 hg) ⟨hx, hb, hml, hown, hts⟩ (cwV (C := R_A) 1 hts (gV wq245 wq247 wq6 wq43 wq248) rfl rfl rfl (by decide +kernel) ⟨Nat.le_of_ble_eq_true rfl, Nat.le_of_ble_eq_true rfl⟩) hK hP hD hS hA [0, 1, 2, 3, 4, 5, 6] [] rfl rfl rfl rfl (by decide) (ci := 0) (q0 := 0) rfl rfl rfl rfl hl.1 rfl (Nat.le_of_ble_eq_true rfl) d_A_updateShared_78 ⟨Nat.zero_le _, Nat.zero_le _⟩ (fun H locs hP hD hS => ?_)
        have hP : va_P (dC, dI) vwCl [(ha, .inr (0, [.ref hm, .ref hi, .ref qa, .ref qg, .int xl12, .int xo12, .int xs12, .int xv12, .int xp12])), (hm, .inr (1, [.ref qc, .int mw12, .int mf12, .int mz12])), (qc, .inl (cI, 149, .inl mc12)), (hi, .inr (2, [.ref qb, .int ic12])), (qb, .inl (cI, 24, .inl ib12)), (qa, .inl (cI, 16, .inl xa12)), (qg, .inl (cI, 4, .inl xg12))] H := hP
        have hD : va_D A [(ha, .inr (0, [.ref hm, .ref hi, .ref qa, .ref qg, .int xl12, .int xo12, .int xs12, .int xv12, .int xp12])), (hm, .inr (1, [.ref qc, .int mw12, .int mf12, .int mz12])), (qc, .inl (cI, 149, .inl mc12)), (hi, .inr (2, [.ref qb, .int ic12])), (qb, .inl (cI, 24, .inl ib12)), (qa, .inl (cI, 16, .inl xa12)), (qg, .inl (cI, 4, .inl xg12))] := hD
        obtain ⟨e1_, e2_, e3_, e4_, e5_, e6_, e7_, e8_, e9_, e10_, e11_, e12_, e13_, e14_⟩ := lf14 hf
        subst e1_; subst e2_; subst e3_; subst e4_; subst e5_; subst e6_; subst e7_; subst e8_; subst e9_; subst e10_; subst e11_; subst e12_; subst e13_; subst e14_
        have hP9 := hP.sub (ws' := [(ha, .inr (0, [.ref hm, .ref hi, .ref qa, .ref qg, .int xl12, .int xo12, .int xs12, .int xv12, .int xp12])), (hm, .inr (1, [.ref qc, .int mw12, .int mf12, .int mz12])), (qc, .inl (cI, 149, .inl mc12)), (hi, .inr (2, [.ref qb, .int ic12])), (qb, .inl (cI, 24, .inl ib12)), (qa, .inl (cI, 16, .inl xa12)), (qg, .inl (cI, 4, .inl xg12))]) [0, 1, 2, 3, 4, 5, 6] rfl
        have hD9 := hD.sub (ws' := [(ha, .inr (0, [.ref hm, .ref hi, .ref qa, .ref qg, .int xl12, .int xo12, .int xs12, .int xv12, .int xp12])), (hm, .inr (1, [.ref qc, .int mw12, .int mf12, .int mz12])), (qc, .inl (cI, 149, .inl mc12)), (hi, .inr (2, [.ref qb, .int ic12])), (qb, .inl (cI, 24, .inl ib12)), (qa, .inl (cI, 16, .inl xa12)), (qg, .inl (cI, 4, .inl xg12))]) [0, 1, 2, 3, 4, 5, 6] (by decide) rfl
        exact W.iret (v := r12) hx hb hr (fun t ht hW => ⟨⟨r12, (), rfl, rfl, by rw [ht]; exact hP9, va_K.moved hW.alike hK, hD9⟩, hS.F ht⟩) hS.2.2 d_A_updateShared_81
      have hf := ifn hf hc9
      refine lv_sipush (v := 27392) hx hb d_A_updateShared_61 (by decide) ?_
      obtain ⟨e1_, e2_, e3_, e4_, e5_, e6_, e7_, e8_, e9_, e10_, e11_, e12_, e13_, e14_⟩ := lf14 hf
      subst e1_; subst e2_; subst e3_; subst e4_; subst e5_; subst e6_; subst e7_; subst e8_; subst e9_; subst e10_; subst e11_; subst e12_; subst e13_; subst e14_
      have hP9 := hP.sub (ws' := [(ha, .inr (0, [.ref hm, .ref hi, .ref qa, .ref qg, .int xl, .int xo, .int xs, .int xv, .int xp])), (hm, .inr (1, [.ref qc, .int mw, .int mf, .int mz])), (qc, .inl (cI, 149, .inl mc)), (hi, .inr (2, [.ref qb, .int ic])), (qb, .inl (cI, 24, .inl ib)), (qa, .inl (cI, 16, .inl xa)), (qg, .inl (cI, 4, .inl xg))]) [0, 1, 2, 3, 4, 5, 6] rfl
      have hD9 := hD.sub (ws' := [(ha, .inr (0, [.ref hm, .ref hi, .ref qa, .ref qg, .int xl, .int xo, .int xs, .int xv, .int xp])), (hm, .inr (1, [.ref qc, .int mw, .int mf, .int mz])), (qc, .inl (cI, 149, .inl mc)), (hi, .inr (2, [.ref qb, .int ic])), (qb, .inl (cI, 24, .inl ib)), (qa, .inl (cI, 16, .inl xa)), (qg, .inl (cI, 4, .inl xg))]) [0, 1, 2, 3, 4, 5, 6] (by decide) rfl
      exact W.iret (v := 27392) hx hb hr (fun t ht hW => ⟨⟨27392, (), rfl, rfl, by rw [ht]; exact hP9, va_K.moved hW.alike hK, hD9⟩, hS.F ht⟩) hS.2.2 d_A_updateShared_64
    have hf := ift hf hc5
    refine lv_sipush (v := 27010) hx hb d_A_updateShared_33 (by decide) ?_
    obtain ⟨e1_, e2_, e3_, e4_, e5_, e6_, e7_, e8_, e9_, e10_, e11_, e12_, e13_, e14_⟩ := lf14 hf
    subst e1_; subst e2_; subst e3_; subst e4_; subst e5_; subst e6_; subst e7_; subst e8_; subst e9_; subst e10_; subst e11_; subst e12_; subst e13_; subst e14_
    have hP9 := hP.sub (ws' := [(ha, .inr (0, [.ref hm, .ref hi, .ref qa, .ref qg, .int xl, .int xo, .int xs, .int xv, .int xp])), (hm, .inr (1, [.ref qc, .int mw, .int mf, .int mz])), (qc, .inl (cI, 149, .inl mc)), (hi, .inr (2, [.ref qb, .int ic])), (qb, .inl (cI, 24, .inl ib)), (qa, .inl (cI, 16, .inl xa)), (qg, .inl (cI, 4, .inl xg))]) [0, 1, 2, 3, 4, 5, 6] rfl
    have hD9 := hD.sub (ws' := [(ha, .inr (0, [.ref hm, .ref hi, .ref qa, .ref qg, .int xl, .int xo, .int xs, .int xv, .int xp])), (hm, .inr (1, [.ref qc, .int mw, .int mf, .int mz])), (qc, .inl (cI, 149, .inl mc)), (hi, .inr (2, [.ref qb, .int ic])), (qb, .inl (cI, 24, .inl ib)), (qa, .inl (cI, 16, .inl xa)), (qg, .inl (cI, 4, .inl xg))]) [0, 1, 2, 3, 4, 5, 6] (by decide) rfl
    exact W.iret (v := 27010) hx hb hr (fun t ht hW => ⟨⟨27010, (), rfl, rfl, by rw [ht]; exact hP9, va_K.moved hW.alike hK, hD9⟩, hS.F ht⟩) hS.2.2 d_A_updateShared_36
  have hf := ifn hf hc3
  refine lv_sipush (v := 27272) hx hb d_A_updateShared_20 (by decide) ?_
  obtain ⟨e1_, e2_, e3_, e4_, e5_, e6_, e7_, e8_, e9_, e10_, e11_, e12_, e13_, e14_⟩ := lf14 hf
  subst e1_; subst e2_; subst e3_; subst e4_; subst e5_; subst e6_; subst e7_; subst e8_; subst e9_; subst e10_; subst e11_; subst e12_; subst e13_; subst e14_
  have hP9 := hP.sub (ws' := [(ha, .inr (0, [.ref hm, .ref hi, .ref qa, .ref qg, .int xl, .int xo, .int xs, .int xv, .int xp])), (hm, .inr (1, [.ref qc, .int mw, .int mf, .int mz])), (qc, .inl (cI, 149, .inl mc)), (hi, .inr (2, [.ref qb, .int ic])), (qb, .inl (cI, 24, .inl ib)), (qa, .inl (cI, 16, .inl xa)), (qg, .inl (cI, 4, .inl xg))]) [0, 1, 2, 3, 4, 5, 6] rfl
  have hD9 := hD.sub (ws' := [(ha, .inr (0, [.ref hm, .ref hi, .ref qa, .ref qg, .int xl, .int xo, .int xs, .int xv, .int xp])), (hm, .inr (1, [.ref qc, .int mw, .int mf, .int mz])), (qc, .inl (cI, 149, .inl mc)), (hi, .inr (2, [.ref qb, .int ic])), (qb, .inl (cI, 24, .inl ib)), (qa, .inl (cI, 16, .inl xa)), (qg, .inl (cI, 4, .inl xg))]) [0, 1, 2, 3, 4, 5, 6] (by decide) rfl
  exact W.iret (v := 27272) hx hb hr (fun t ht hW => ⟨⟨27272, (), rfl, rfl, by rw [ht]; exact hP9, va_K.moved hW.alike hK, hD9⟩, hS.F ht⟩) hS.2.2 d_A_updateShared_23
