theorem d_A_admit_0 : decode b_A_admit 0 = .ok (.aload_n 0, 1) := by decide +kernel
theorem d_A_admit_1 : decode b_A_admit 1 = .ok (.getfield 19, 3) := by decide +kernel
theorem d_A_admit_4 : decode b_A_admit 4 = .ok (.invokevirtual 113, 3) := by decide +kernel
theorem d_A_admit_7 : decode b_A_admit 7 = .ok (.ifCond .ne 7, 3) := by decide +kernel
theorem d_A_admit_10 : decode b_A_admit 10 = .ok (.sipush 26368, 3) := by decide +kernel
theorem d_A_admit_13 : decode b_A_admit 13 = .ok (.ireturn, 1) := by decide +kernel
theorem d_A_admit_14 : decode b_A_admit 14 = .ok (.aload_n 0, 1) := by decide +kernel
theorem d_A_admit_15 : decode b_A_admit 15 = .ok (.getfield 19, 3) := by decide +kernel
theorem d_A_admit_18 : decode b_A_admit 18 = .ok (.invokevirtual 116, 3) := by decide +kernel
theorem d_A_admit_21 : decode b_A_admit 21 = .ok (.sipush 128, 3) := by decide +kernel
theorem d_A_admit_24 : decode b_A_admit 24 = .ok (.if_icmp .eq 7, 3) := by decide +kernel
theorem d_A_admit_27 : decode b_A_admit 27 = .ok (.sipush 28160, 3) := by decide +kernel
theorem d_A_admit_30 : decode b_A_admit 30 = .ok (.ireturn, 1) := by decide +kernel
theorem d_A_admit_31 : decode b_A_admit 31 = .ok (.aload_n 1, 1) := by decide +kernel
theorem d_A_admit_32 : decode b_A_admit 32 = .ok (.getstatic 119, 3) := by decide +kernel
theorem d_A_admit_35 : decode b_A_admit 35 = .ok (.if_acmp .ne 7, 3) := by decide +kernel
theorem d_A_admit_38 : decode b_A_admit 38 = .ok (.sipush 27904, 3) := by decide +kernel
theorem d_A_admit_41 : decode b_A_admit 41 = .ok (.ireturn, 1) := by decide +kernel
theorem d_A_admit_42 : decode b_A_admit 42 = .ok (.aload_n 1, 1) := by decide +kernel
theorem d_A_admit_43 : decode b_A_admit 43 = .ok (.aload_n 0, 1) := by decide +kernel
theorem d_A_admit_44 : decode b_A_admit 44 = .ok (.getfield 19, 3) := by decide +kernel
theorem d_A_admit_47 : decode b_A_admit 47 = .ok (.invokevirtual 113, 3) := by decide +kernel
theorem d_A_admit_50 : decode b_A_admit 50 = .ok (.aload_n 0, 1) := by decide +kernel
theorem d_A_admit_51 : decode b_A_admit 51 = .ok (.getfield 19, 3) := by decide +kernel
theorem d_A_admit_54 : decode b_A_admit 54 = .ok (.invokevirtual 123, 3) := by decide +kernel
theorem d_A_admit_57 : decode b_A_admit 57 = .ok (.invokevirtual 126, 3) := by decide +kernel
theorem d_A_admit_60 : decode b_A_admit 60 = .ok (.ifCond .ne 7, 3) := by decide +kernel
theorem d_A_admit_63 : decode b_A_admit 63 = .ok (.sipush 26368, 3) := by decide +kernel
theorem d_A_admit_66 : decode b_A_admit 66 = .ok (.ireturn, 1) := by decide +kernel
theorem d_A_admit_67 : decode b_A_admit 67 = .ok (.aload_n 1, 1) := by decide +kernel
theorem d_A_admit_68 : decode b_A_admit 68 = .ok (.aload_n 0, 1) := by decide +kernel
theorem d_A_admit_69 : decode b_A_admit 69 = .ok (.getfield 19, 3) := by decide +kernel
theorem d_A_admit_72 : decode b_A_admit 72 = .ok (.invokevirtual 130, 3) := by decide +kernel
theorem d_A_admit_75 : decode b_A_admit 75 = .ok (.aload_n 0, 1) := by decide +kernel
theorem d_A_admit_76 : decode b_A_admit 76 = .ok (.getfield 19, 3) := by decide +kernel
theorem d_A_admit_79 : decode b_A_admit 79 = .ok (.invokevirtual 133, 3) := by decide +kernel
theorem d_A_admit_82 : decode b_A_admit 82 = .ok (.invokevirtual 136, 3) := by decide +kernel
theorem d_A_admit_85 : decode b_A_admit 85 = .ok (.ifCond .ne 7, 3) := by decide +kernel
theorem d_A_admit_88 : decode b_A_admit 88 = .ok (.sipush 27270, 3) := by decide +kernel
theorem d_A_admit_91 : decode b_A_admit 91 = .ok (.ireturn, 1) := by decide +kernel
theorem d_A_admit_92 : decode b_A_admit 92 = .ok (.aload_n 0, 1) := by decide +kernel
theorem d_A_admit_93 : decode b_A_admit 93 = .ok (.getfield 30, 3) := by decide +kernel
theorem d_A_admit_96 : decode b_A_admit 96 = .ok (.bipush (-2), 2) := by decide +kernel
theorem d_A_admit_98 : decode b_A_admit 98 = .ok (.if_icmp .ne 14, 3) := by decide +kernel
theorem d_A_admit_101 : decode b_A_admit 101 = .ok (.aload_n 1, 1) := by decide +kernel
theorem d_A_admit_102 : decode b_A_admit 102 = .ok (.getstatic 139, 3) := by decide +kernel
theorem d_A_admit_105 : decode b_A_admit 105 = .ok (.if_acmp .eq 7, 3) := by decide +kernel
theorem d_A_admit_108 : decode b_A_admit 108 = .ok (.sipush 27013, 3) := by decide +kernel
theorem d_A_admit_111 : decode b_A_admit 111 = .ok (.ireturn, 1) := by decide +kernel
theorem d_A_admit_112 : decode b_A_admit 112 = .ok (.aload_n 1, 1) := by decide +kernel
theorem d_A_admit_113 : decode b_A_admit 113 = .ok (.invokevirtual 142, 3) := by decide +kernel
theorem d_A_admit_116 : decode b_A_admit 116 = .ok (.ifCond .eq 14, 3) := by decide +kernel
theorem d_A_admit_119 : decode b_A_admit 119 = .ok (.aload_n 0, 1) := by decide +kernel
theorem d_A_admit_120 : decode b_A_admit 120 = .ok (.getfield 107, 3) := by decide +kernel
theorem d_A_admit_123 : decode b_A_admit 123 = .ok (.ifCond .ne 7, 3) := by decide +kernel
theorem d_A_admit_126 : decode b_A_admit 126 = .ok (.sipush 27010, 3) := by decide +kernel
theorem d_A_admit_129 : decode b_A_admit 129 = .ok (.ireturn, 1) := by decide +kernel
theorem d_A_admit_130 : decode b_A_admit 130 = .ok (.ldc 59, 2) := by decide +kernel
theorem d_A_admit_132 : decode b_A_admit 132 = .ok (.ireturn, 1) := by decide +kernel
def fA_admit (σ : StX) (k : Nat) : Option (Int32) := match σ with | (mc, mw, mf, mz, ib, ic, xa, xg, xl, xo, xs, xv, xp) => bd1 (fI_shape (ib, ic)) fun r1 => if r1 = 0 then (some 26368) else (bd1 (fI_cardClass (ib, ic)) fun r3 => if r3 = 128 then (if k = 12 then (some 27904) else (bd1 (fI_shape (ib, ic)) fun r8 => bd1 (fI_lc (ib, ic)) fun r9 => bd1 (fE_takesForm k r8 r9) fun r10 => if r10 = 0 then (some 26368) else (bd1 (fI_p1 (ib, ic)) fun r12 => bd1 (fI_p2 (ib, ic)) fun r13 => bd1 (fE_takesParameters k r12 r13) fun r14 => if r14 = 0 then (some 27270) else (if xs = (-2) then (if k = 0 then (bd1 (fE_isGuarded k) fun r23 => if r23 = 0 then (some 36864) else (if xv = 0 then (some 27010) else (some 36864))) else (some 27013)) else (bd1 (fE_isGuarded k) fun r17 => if r17 = 0 then (some 36864) else (if xv = 0 then (some 27010) else (some 36864))))))) else (some 28160))
set_option maxHeartbeats 4000000 in
set_option maxRecDepth 100000 in
theorem ctA_admit (l : Launch) (dC : Nat → ClassId) (dI : Nat → Nat → Nat) (cI : ClassId) (ha hm qc hi qb qa qg : Nat) (ad : Nat → Nat) (tA tS : Nat) (k : Nat) (hk : k < 13) (mc : Nat → Int32) (mw : Int32) (mf : Int32) (mz : Int32) (ib : Nat → Int32) (ic : Int32) (xa : Nat → Int32) (xg : Nat → Int32) (xl : Int32) (xo : Int32) (xs : Int32) (xv : Int32) (xp : Int32) (r : Int32) (hf : fA_admit (mc, mw, mf, mz, ib, ic, xa, xg, xl, xo, xs, xv, xp) k = some r) : CfI l y_A_admit w_A_admit ({ frames := 2, cells := 0, slots := 0, locals := 40 }) (dC, dI) [(cI, .int)] ad tA tS [.ref ha, .ref (ad k)] [(ha, .inr (0, [.ref hm, .ref hi, .ref qa, .ref qg, .int xl, .int xo, .int xs, .int xv, .int xp])), (hm, .inr (1, [.ref qc, .int mw, .int mf, .int mz])), (qc, .inl (cI, 149, .inl mc)), (hi, .inr (2, [.ref qb, .int ic])), (qb, .inl (cI, 24, .inl ib)), (qa, .inl (cI, 16, .inl xa)), (qg, .inl (cI, 4, .inl xg))] [(ha, .inr (0, [.ref hm, .ref hi, .ref qa, .ref qg, .int xl, .int xo, .int xs, .int xv, .int xp])), (hm, .inr (1, [.ref qc, .int mw, .int mf, .int mz])), (qc, .inl (cI, 149, .inl mc)), (hi, .inr (2, [.ref qb, .int ic])), (qb, .inl (cI, 24, .inl ib)), (qa, .inl (cI, 16, .inl xa)), (qg, .inl (cI, 4, .inl xg))] r := by
  intro sz
  refine Met.ofW (cc := b_A_admit) (maxL := 2) (ret := some .int) (by decide) rfl ?_
  intro p e s m args below meth c s₁ B hml hv
  obtain ⟨rfl, hsz, hP, hK, hD0, hE⟩ := hv
  have hx := B.exec
  have hb := B.bytes
  have hr := B.returns
  have hts := atoms_spec (ws := w_A_admit) B.pre
  have hown : s.vm.findClass R_A = some m.cls := findClass_of_methodNamed B.named
  have hlocks := B.notSynchronized
  subst hsz
  have hD := hD0.self (sz := s.heap.size)
  generalize hAe : va_A [(ha, .inr (0, [.ref hm, .ref hi, .ref qa, .ref qg, .int xl, .int xo, .int xs, .int xv, .int xp])), (hm, .inr (1, [.ref qc, .int mw, .int mf, .int mz])), (qc, .inl (cI, 149, .inl mc)), (hi, .inr (2, [.ref qb, .int ic])), (qb, .inl (cI, 24, .inl ib)), (qa, .inl (cI, 16, .inl xa)), (qg, .inl (cI, 4, .inl xg))] s.heap.size = A at hD hE ⊢
  have hA : ∀ q : Nat, s.heap.size ≤ q → A q := fun q h => by rw [← hAe]; exact Or.inr h
  have hS : va_S A s.heap s.heap [] := va_S.rf
  have hP : va_P (dC, dI) vwCl [(ha, .inr (0, [.ref hm, .ref hi, .ref qa, .ref qg, .int xl, .int xo, .int xs, .int xv, .int xp])), (hm, .inr (1, [.ref qc, .int mw, .int mf, .int mz])), (qc, .inl (cI, 149, .inl mc)), (hi, .inr (2, [.ref qb, .int ic])), (qb, .inl (cI, 24, .inl ib)), (qa, .inl (cI, 16, .inl xa)), (qg, .inl (cI, 4, .inl xg))] s.heap := hP
  have hl := lv_entry ([.ref ha, .ref (ad k)]) (n := 2) (Nat.le_of_ble_eq_true rfl)
  rw [lg_entry_eq]
  generalize (lg_sl ([.ref ha, .ref (ad k)]) ++ List.replicate (2 - (lg_sl ([.ref ha, .ref (ad k)])).length) Slot.unset).toArray = ls at hl ⊢
  have hl : lv_has ls 2 [(0, .ref ha), (1, .ref (ad k))] := hl
  have inA : ∀ w ∈ u_ws R_A F_A 9, w ∈ w_A_admit := fun w h => List.mem_cons_of_mem _ (in_A w h)
  have kc59 := hts _ (List.mem_cons_of_mem _ wq182)
  have kf107 := hts _ (List.mem_cons_of_mem _ wq98)
  have kf119 := hts _ (List.mem_cons_of_mem _ wq158)
  have kf139 := hts _ (List.mem_cons_of_mem _ wq176)
  have kf19 := hts _ (List.mem_cons_of_mem _ wq92)
  have kf30 := hts _ (List.mem_cons_of_mem _ wq97)
  rw [fA_admit] at hf
  refine lv_aload_n hx hb d_A_admit_0 rfl (lv_at hl 0 rfl) ?_
  refine va_get (D := (dC, dI)) (ci := 0) (v := .ref hi) (C := R_A) (T := F_A) (N := 9) hx hb hts inA hown hK hP 0 rfl rfl 1 (by decide) kf19 (fun _ h9 => h9) rfl d_A_admit_1 ?_
  obtain ⟨r1, hg, hf⟩ := bd1_some hf
  refine xci (wr := [(ha, .inr (0, [.ref hm, .ref hi, .ref qa, .ref qg, .int xl, .int xo, .int xs, .int xv, .int xp])), (hm, .inr (1, [.ref qc, .int mw, .int mf, .int mz])), (qc, .inl (cI, 149, .inl mc)), (qa, .inl (cI, 16, .inl xa)), (qg, .inl (cI, 4, .inl xg))]) (ctI_shape l dC dI cI hi qb ib ic r1 hg) ⟨hx, hb, hml, hown, hts⟩ (cwV (C := R_I) 0 hts (gV wq146 wq147 wq148 wq45 wq149) rfl rfl rfl (by decide +kernel) ⟨Nat.le_of_ble_eq_true rfl, Nat.le_of_ble_eq_true rfl⟩) hK hP hD hS hA [3, 4] [0, 1, 2, 5, 6] rfl rfl rfl rfl (by decide) (ci := 2) (q0 := 3) rfl rfl rfl rfl hl.1 rfl (Nat.le_of_ble_eq_true rfl) d_A_admit_4 ⟨Nat.zero_le _, Nat.zero_le _⟩ (fun H locs hP hD hS => ?_)
  have hP : va_P (dC, dI) vwCl [(ha, .inr (0, [.ref hm, .ref hi, .ref qa, .ref qg, .int xl, .int xo, .int xs, .int xv, .int xp])), (hm, .inr (1, [.ref qc, .int mw, .int mf, .int mz])), (qc, .inl (cI, 149, .inl mc)), (qa, .inl (cI, 16, .inl xa)), (qg, .inl (cI, 4, .inl xg)), (hi, .inr (2, [.ref qb, .int ic])), (qb, .inl (cI, 24, .inl ib))] H := hP
  have hD : va_D A [(ha, .inr (0, [.ref hm, .ref hi, .ref qa, .ref qg, .int xl, .int xo, .int xs, .int xv, .int xp])), (hm, .inr (1, [.ref qc, .int mw, .int mf, .int mz])), (qc, .inl (cI, 149, .inl mc)), (qa, .inl (cI, 16, .inl xa)), (qg, .inl (cI, 4, .inl xg)), (hi, .inr (2, [.ref qb, .int ic])), (qb, .inl (cI, 24, .inl ib))] := hD
  refine lv_if_ne (tgt := 14) hx hb d_A_admit_7 rfl (fun hc2 => ?_) (fun hc2 => ?_)
  · have hf := ifn hf hc2
    refine lv_aload_n hx hb d_A_admit_14 rfl (lv_at hl 0 rfl) ?_
    refine va_get (D := (dC, dI)) (ci := 0) (v := .ref hi) (C := R_A) (T := F_A) (N := 9) hx hb hts inA hown hK hP 0 rfl rfl 1 (by decide) kf19 (fun _ h9 => h9) rfl d_A_admit_15 ?_
    obtain ⟨r3, hg, hf⟩ := bd1_some hf
    refine xci (wr := [(ha, .inr (0, [.ref hm, .ref hi, .ref qa, .ref qg, .int xl, .int xo, .int xs, .int xv, .int xp])), (hm, .inr (1, [.ref qc, .int mw, .int mf, .int mz])), (qc, .inl (cI, 149, .inl mc)), (qa, .inl (cI, 16, .inl xa)), (qg, .inl (cI, 4, .inl xg))]) (ctI_cardClass l dC dI cI hi qb ib ic r3 hg) ⟨hx, hb, hml, hown, hts⟩ (cwV (C := R_I) 0 hts (gV wq154 wq155 wq156 wq45 wq157) rfl rfl rfl (by decide +kernel) ⟨Nat.le_of_ble_eq_true rfl, Nat.le_of_ble_eq_true rfl⟩) hK hP hD hS hA [5, 6] [0, 1, 2, 3, 4] rfl rfl rfl rfl (by decide) (ci := 2) (q0 := 5) rfl rfl rfl rfl hl.1 rfl (Nat.le_of_ble_eq_true rfl) d_A_admit_18 ⟨Nat.zero_le _, Nat.zero_le _⟩ (fun H locs hP hD hS => ?_)
    have hP : va_P (dC, dI) vwCl [(ha, .inr (0, [.ref hm, .ref hi, .ref qa, .ref qg, .int xl, .int xo, .int xs, .int xv, .int xp])), (hm, .inr (1, [.ref qc, .int mw, .int mf, .int mz])), (qc, .inl (cI, 149, .inl mc)), (qa, .inl (cI, 16, .inl xa)), (qg, .inl (cI, 4, .inl xg)), (hi, .inr (2, [.ref qb, .int ic])), (qb, .inl (cI, 24, .inl ib))] H := hP
    have hD : va_D A [(ha, .inr (0, [.ref hm, .ref hi, .ref qa, .ref qg, .int xl, .int xo, .int xs, .int xv, .int xp])), (hm, .inr (1, [.ref qc, .int mw, .int mf, .int mz])), (qc, .inl (cI, 149, .inl mc)), (qa, .inl (cI, 16, .inl xa)), (qg, .inl (cI, 4, .inl xg)), (hi, .inr (2, [.ref qb, .int ic])), (qb, .inl (cI, 24, .inl ib))] := hD
    refine lv_sipush (v := 128) hx hb d_A_admit_21 (by decide) ?_
    refine lv_icmp_eq (tgt := 31) hx hb d_A_admit_24 rfl (fun hc4 => ?_) (fun hc4 => ?_)
    · have hf := ift hf hc4
      refine lv_aload_n hx hb d_A_admit_31 rfl (lv_at hl 1 rfl) ?_
      refine va_gets hx hb hE.2.2.1 hS hown kf119 (fun _ h9 => h9) d_A_admit_32 ?_
      refine lv_acmp_ne (rx := some (ad k)) (ry := some (ad 12)) (tgt := 42) hx hb d_A_admit_35 rfl (fun hc5 => ?_) (fun hc5 => ?_)
      · have hd6 : ¬ k = 12 := fun h9 => hc5 (by rw [h9])
        have hf := ifn hf hd6
        refine lv_aload_n hx hb d_A_admit_42 rfl (lv_at hl 1 rfl) ?_
        refine lv_aload_n hx hb d_A_admit_43 rfl (lv_at hl 0 rfl) ?_
        refine va_get (D := (dC, dI)) (ci := 0) (v := .ref hi) (C := R_A) (T := F_A) (N := 9) hx hb hts inA hown hK hP 0 rfl rfl 1 (by decide) kf19 (fun _ h9 => h9) rfl d_A_admit_44 ?_
        obtain ⟨r8, hg, hf⟩ := bd1_some hf
        refine xci (wr := [(ha, .inr (0, [.ref hm, .ref hi, .ref qa, .ref qg, .int xl, .int xo, .int xs, .int xv, .int xp])), (hm, .inr (1, [.ref qc, .int mw, .int mf, .int mz])), (qc, .inl (cI, 149, .inl mc)), (qa, .inl (cI, 16, .inl xa)), (qg, .inl (cI, 4, .inl xg))]) (ctI_shape l dC dI cI hi qb ib ic r8 hg) ⟨hx, hb, hml, hown, hts⟩ (cwV (C := R_I) 0 hts (gV wq146 wq147 wq148 wq45 wq149) rfl rfl rfl (by decide +kernel) ⟨Nat.le_of_ble_eq_true rfl, Nat.le_of_ble_eq_true rfl⟩) hK hP hD hS hA [5, 6] [0, 1, 2, 3, 4] rfl rfl rfl rfl (by decide) (ci := 2) (q0 := 5) rfl rfl rfl rfl hl.1 rfl (Nat.le_of_ble_eq_true rfl) d_A_admit_47 ⟨Nat.zero_le _, Nat.zero_le _⟩ (fun H locs hP hD hS => ?_)
        have hP : va_P (dC, dI) vwCl [(ha, .inr (0, [.ref hm, .ref hi, .ref qa, .ref qg, .int xl, .int xo, .int xs, .int xv, .int xp])), (hm, .inr (1, [.ref qc, .int mw, .int mf, .int mz])), (qc, .inl (cI, 149, .inl mc)), (qa, .inl (cI, 16, .inl xa)), (qg, .inl (cI, 4, .inl xg)), (hi, .inr (2, [.ref qb, .int ic])), (qb, .inl (cI, 24, .inl ib))] H := hP
        have hD : va_D A [(ha, .inr (0, [.ref hm, .ref hi, .ref qa, .ref qg, .int xl, .int xo, .int xs, .int xv, .int xp])), (hm, .inr (1, [.ref qc, .int mw, .int mf, .int mz])), (qc, .inl (cI, 149, .inl mc)), (qa, .inl (cI, 16, .inl xa)), (qg, .inl (cI, 4, .inl xg)), (hi, .inr (2, [.ref qb, .int ic])), (qb, .inl (cI, 24, .inl ib))] := hD
        refine lv_aload_n hx hb d_A_admit_50 rfl (lv_at hl 0 rfl) ?_
        refine va_get (D := (dC, dI)) (ci := 0) (v := .ref hi) (C := R_A) (T := F_A) (N := 9) hx hb hts inA hown hK hP 0 rfl rfl 1 (by decide) kf19 (fun _ h9 => h9) rfl d_A_admit_51 ?_
        obtain ⟨r9, hg, hf⟩ := bd1_some hf
        refine xci (wr := [(ha, .inr (0, [.ref hm, .ref hi, .ref qa, .ref qg, .int xl, .int xo, .int xs, .int xv, .int xp])), (hm, .inr (1, [.ref qc, .int mw, .int mf, .int mz])), (qc, .inl (cI, 149, .inl mc)), (qa, .inl (cI, 16, .inl xa)), (qg, .inl (cI, 4, .inl xg))]) (ctI_lc l dC dI cI hi qb ib ic r9 hg) ⟨hx, hb, hml, hown, hts⟩ (cwV (C := R_I) 0 hts (gV wq159 wq151 wq152 wq45 wq153) rfl rfl rfl (by decide +kernel) ⟨Nat.le_of_ble_eq_true rfl, Nat.le_of_ble_eq_true rfl⟩) hK hP hD hS hA [5, 6] [0, 1, 2, 3, 4] rfl rfl rfl rfl (by decide) (ci := 2) (q0 := 5) rfl rfl rfl rfl hl.1 rfl (Nat.le_of_ble_eq_true rfl) d_A_admit_54 ⟨Nat.zero_le _, Nat.zero_le _⟩ (fun H locs hP hD hS => ?_)
        have hP : va_P (dC, dI) vwCl [(ha, .inr (0, [.ref hm, .ref hi, .ref qa, .ref qg, .int xl, .int xo, .int xs, .int xv, .int xp])), (hm, .inr (1, [.ref qc, .int mw, .int mf, .int mz])), (qc, .inl (cI, 149, .inl mc)), (qa, .inl (cI, 16, .inl xa)), (qg, .inl (cI, 4, .inl xg)), (hi, .inr (2, [.ref qb, .int ic])), (qb, .inl (cI, 24, .inl ib))] H := hP
        have hD : va_D A [(ha, .inr (0, [.ref hm, .ref hi, .ref qa, .ref qg, .int xl, .int xo, .int xs, .int xv, .int xp])), (hm, .inr (1, [.ref qc, .int mw, .int mf, .int mz])), (qc, .inl (cI, 149, .inl mc)), (qa, .inl (cI, 16, .inl xa)), (qg, .inl (cI, 4, .inl xg)), (hi, .inr (2, [.ref qb, .int ic])), (qb, .inl (cI, 24, .inl ib))] := hD
        obtain ⟨r10, hg, hf⟩ := bd1_some hf
        refine xeV (ctE_takesForm l dC dI cI ad tA tS k hk r8 r9 r10 hg) ⟨hx, hb, hml, hown, hts⟩ (cwV (C := R_E) 2 hts (gV wq160 wq161 wq162 wq48 wq163) rfl rfl rfl (by decide +kernel) ⟨Nat.le_of_ble_eq_true rfl, Nat.le_of_ble_eq_true rfl⟩) hE hk hK hP hD hS hA rfl hl.1 rfl (Nat.le_of_ble_eq_true rfl) d_A_admit_57 ⟨Nat.zero_le _, Nat.zero_le _⟩ (fun H locs hP hD hS => ?_)
        refine lv_if_ne (tgt := 67) hx hb d_A_admit_60 rfl (fun hc11 => ?_) (fun hc11 => ?_)
        · have hf := ifn hf hc11
          refine lv_aload_n hx hb d_A_admit_67 rfl (lv_at hl 1 rfl) ?_
          refine lv_aload_n hx hb d_A_admit_68 rfl (lv_at hl 0 rfl) ?_
          refine va_get (D := (dC, dI)) (ci := 0) (v := .ref hi) (C := R_A) (T := F_A) (N := 9) hx hb hts inA hown hK hP 0 rfl rfl 1 (by decide) kf19 (fun _ h9 => h9) rfl d_A_admit_69 ?_
          obtain ⟨r12, hg, hf⟩ := bd1_some hf
          refine xci (wr := [(ha, .inr (0, [.ref hm, .ref hi, .ref qa, .ref qg, .int xl, .int xo, .int xs, .int xv, .int xp])), (hm, .inr (1, [.ref qc, .int mw, .int mf, .int mz])), (qc, .inl (cI, 149, .inl mc)), (qa, .inl (cI, 16, .inl xa)), (qg, .inl (cI, 4, .inl xg))]) (ctI_p1 l dC dI cI hi qb ib ic r12 hg) ⟨hx, hb, hml, hown, hts⟩ (cwV (C := R_I) 0 hts (gV wq164 wq165 wq166 wq45 wq167) rfl rfl rfl (by decide +kernel) ⟨Nat.le_of_ble_eq_true rfl, Nat.le_of_ble_eq_true rfl⟩) hK hP hD hS hA [5, 6] [0, 1, 2, 3, 4] rfl rfl rfl rfl (by decide) (ci := 2) (q0 := 5) rfl rfl rfl rfl hl.1 rfl (Nat.le_of_ble_eq_true rfl) d_A_admit_72 ⟨Nat.zero_le _, Nat.zero_le _⟩ (fun H locs hP hD hS => ?_)
          have hP : va_P (dC, dI) vwCl [(ha, .inr (0, [.ref hm, .ref hi, .ref qa, .ref qg, .int xl, .int xo, .int xs, .int xv, .int xp])), (hm, .inr (1, [.ref qc, .int mw, .int mf, .int mz])), (qc, .inl (cI, 149, .inl mc)), (qa, .inl (cI, 16, .inl xa)), (qg, .inl (cI, 4, .inl xg)), (hi, .inr (2, [.ref qb, .int ic])), (qb, .inl (cI, 24, .inl ib))] H := hP
          have hD : va_D A [(ha, .inr (0, [.ref hm, .ref hi, .ref qa, .ref qg, .int xl, .int xo, .int xs, .int xv, .int xp])), (hm, .inr (1, [.ref qc, .int mw, .int mf, .int mz])), (qc, .inl (cI, 149, .inl mc)), (qa, .inl (cI, 16, .inl xa)), (qg, .inl (cI, 4, .inl xg)), (hi, .inr (2, [.ref qb, .int ic])), (qb, .inl (cI, 24, .inl ib))] := hD
          refine lv_aload_n hx hb d_A_admit_75 rfl (lv_at hl 0 rfl) ?_
          refine va_get (D := (dC, dI)) (ci := 0) (v := .ref hi) (C := R_A) (T := F_A) (N := 9) hx hb hts inA hown hK hP 0 rfl rfl 1 (by decide) kf19 (fun _ h9 => h9) rfl d_A_admit_76 ?_
          obtain ⟨r13, hg, hf⟩ := bd1_some hf
          refine xci (wr := [(ha, .inr (0, [.ref hm, .ref hi, .ref qa, .ref qg, .int xl, .int xo, .int xs, .int xv, .int xp])), (hm, .inr (1, [.ref qc, .int mw, .int mf, .int mz])), (qc, .inl (cI, 149, .inl mc)), (qa, .inl (cI, 16, .inl xa)), (qg, .inl (cI, 4, .inl xg))]) (ctI_p2 l dC dI cI hi qb ib ic r13 hg) ⟨hx, hb, hml, hown, hts⟩ (cwV (C := R_I) 0 hts (gV wq168 wq169 wq170 wq45 wq171) rfl rfl rfl (by decide +kernel) ⟨Nat.le_of_ble_eq_true rfl, Nat.le_of_ble_eq_true rfl⟩) hK hP hD hS hA [5, 6] [0, 1, 2, 3, 4] rfl rfl rfl rfl (by decide) (ci := 2) (q0 := 5) rfl rfl rfl rfl hl.1 rfl (Nat.le_of_ble_eq_true rfl) d_A_admit_79 ⟨Nat.zero_le _, Nat.zero_le _⟩ (fun H locs hP hD hS => ?_)
          have hP : va_P (dC, dI) vwCl [(ha, .inr (0, [.ref hm, .ref hi, .ref qa, .ref qg, .int xl, .int xo, .int xs, .int xv, .int xp])), (hm, .inr (1, [.ref qc, .int mw, .int mf, .int mz])), (qc, .inl (cI, 149, .inl mc)), (qa, .inl (cI, 16, .inl xa)), (qg, .inl (cI, 4, .inl xg)), (hi, .inr (2, [.ref qb, .int ic])), (qb, .inl (cI, 24, .inl ib))] H := hP
          have hD : va_D A [(ha, .inr (0, [.ref hm, .ref hi, .ref qa, .ref qg, .int xl, .int xo, .int xs, .int xv, .int xp])), (hm, .inr (1, [.ref qc, .int mw, .int mf, .int mz])), (qc, .inl (cI, 149, .inl mc)), (qa, .inl (cI, 16, .inl xa)), (qg, .inl (cI, 4, .inl xg)), (hi, .inr (2, [.ref qb, .int ic])), (qb, .inl (cI, 24, .inl ib))] := hD
          obtain ⟨r14, hg, hf⟩ := bd1_some hf
          refine xeV (ctE_takesParameters l dC dI cI ad tA tS k hk r12 r13 r14 hg) ⟨hx, hb, hml, hown, hts⟩ (cwV (C := R_E) 2 hts (gV wq172 wq173 wq174 wq48 wq175) rfl rfl rfl (by decide +kernel) ⟨Nat.le_of_ble_eq_true rfl, Nat.le_of_ble_eq_true rfl⟩) hE hk hK hP hD hS hA rfl hl.1 rfl (Nat.le_of_ble_eq_true rfl) d_A_admit_82 ⟨Nat.zero_le _, Nat.zero_le _⟩ (fun H locs hP hD hS => ?_)
          refine lv_if_ne (tgt := 92) hx hb d_A_admit_85 rfl (fun hc15 => ?_) (fun hc15 => ?_)
          · have hf := ifn hf hc15
            refine lv_aload_n hx hb d_A_admit_92 rfl (lv_at hl 0 rfl) ?_
            refine va_get (D := (dC, dI)) (ci := 0) (v := .int xs) (C := R_A) (T := F_A) (N := 9) hx hb hts inA hown hK hP 0 rfl rfl 6 (by decide) kf30 (fun _ h9 => h9) rfl d_A_admit_93 ?_
            refine lv_bipush (v := (-2)) hx hb d_A_admit_96 (by decide) ?_
            refine lv_icmp_ne (tgt := 112) hx hb d_A_admit_98 rfl (fun hc16 => ?_) (fun hc16 => ?_)
            · have hf := ifn hf hc16
              refine lv_aload_n hx hb d_A_admit_112 rfl (lv_at hl 1 rfl) ?_
              obtain ⟨r17, hg, hf⟩ := bd1_some hf
              refine xeV (ctE_isGuarded l dC dI cI ad tA tS k hk r17 hg) ⟨hx, hb, hml, hown, hts⟩ (cwV (C := R_E) 0 hts (gV wq178 wq179 wq180 wq48 wq181) rfl rfl rfl (by decide +kernel) ⟨Nat.le_of_ble_eq_true rfl, Nat.le_of_ble_eq_true rfl⟩) hE hk hK hP hD hS hA rfl hl.1 rfl (Nat.le_of_ble_eq_true rfl) d_A_admit_113 ⟨Nat.zero_le _, Nat.zero_le _⟩ (fun H locs hP hD hS => ?_)
              refine lv_if_eq (tgt := 130) hx hb d_A_admit_116 rfl (fun hc18 => ?_) (fun hc18 => ?_)
              · have hf := ift hf hc18
                refine lv_ldc (v := 36864) hx hb hown kc59 d_A_admit_130 ?_
                have e1_ := lf1 hf
                subst e1_
                have hP9 := hP.sub (ws' := [(ha, .inr (0, [.ref hm, .ref hi, .ref qa, .ref qg, .int xl, .int xo, .int xs, .int xv, .int xp])), (hm, .inr (1, [.ref qc, .int mw, .int mf, .int mz])), (qc, .inl (cI, 149, .inl mc)), (hi, .inr (2, [.ref qb, .int ic])), (qb, .inl (cI, 24, .inl ib)), (qa, .inl (cI, 16, .inl xa)), (qg, .inl (cI, 4, .inl xg))]) [0, 1, 2, 5, 6, 3, 4] rfl
                have hD9 := hD.sub (ws' := [(ha, .inr (0, [.ref hm, .ref hi, .ref qa, .ref qg, .int xl, .int xo, .int xs, .int xv, .int xp])), (hm, .inr (1, [.ref qc, .int mw, .int mf, .int mz])), (qc, .inl (cI, 149, .inl mc)), (hi, .inr (2, [.ref qb, .int ic])), (qb, .inl (cI, 24, .inl ib)), (qa, .inl (cI, 16, .inl xa)), (qg, .inl (cI, 4, .inl xg))]) [0, 1, 2, 5, 6, 3, 4] (by decide) rfl
                exact W.iret (v := 36864) hx hb hr (fun t ht hW => ⟨⟨36864, (), rfl, rfl, by rw [ht]; exact hP9, va_K.moved hW.alike hK, hD9⟩, hS.F ht⟩) hS.2.2 d_A_admit_132
              have hf := ifn hf hc18
              refine lv_aload_n hx hb d_A_admit_119 rfl (lv_at hl 0 rfl) ?_
              refine va_get (D := (dC, dI)) (ci := 0) (v := .int xv) (C := R_A) (T := F_A) (N := 9) hx hb hts inA hown hK hP 0 rfl rfl 7 (by decide) kf107 (fun _ h9 => h9) rfl d_A_admit_120 ?_
              refine lv_if_ne (tgt := 130) hx hb d_A_admit_123 rfl (fun hc19 => ?_) (fun hc19 => ?_)
              · have hf := ifn hf hc19
                refine lv_ldc (v := 36864) hx hb hown kc59 d_A_admit_130 ?_
                have e1_ := lf1 hf
                subst e1_
                have hP9 := hP.sub (ws' := [(ha, .inr (0, [.ref hm, .ref hi, .ref qa, .ref qg, .int xl, .int xo, .int xs, .int xv, .int xp])), (hm, .inr (1, [.ref qc, .int mw, .int mf, .int mz])), (qc, .inl (cI, 149, .inl mc)), (hi, .inr (2, [.ref qb, .int ic])), (qb, .inl (cI, 24, .inl ib)), (qa, .inl (cI, 16, .inl xa)), (qg, .inl (cI, 4, .inl xg))]) [0, 1, 2, 5, 6, 3, 4] rfl
                have hD9 := hD.sub (ws' := [(ha, .inr (0, [.ref hm, .ref hi, .ref qa, .ref qg, .int xl, .int xo, .int xs, .int xv, .int xp])), (hm, .inr (1, [.ref qc, .int mw, .int mf, .int mz])), (qc, .inl (cI, 149, .inl mc)), (hi, .inr (2, [.ref qb, .int ic])), (qb, .inl (cI, 24, .inl ib)), (qa, .inl (cI, 16, .inl xa)), (qg, .inl (cI, 4, .inl xg))]) [0, 1, 2, 5, 6, 3, 4] (by decide) rfl
                exact W.iret (v := 36864) hx hb hr (fun t ht hW => ⟨⟨36864, (), rfl, rfl, by rw [ht]; exact hP9, va_K.moved hW.alike hK, hD9⟩, hS.F ht⟩) hS.2.2 d_A_admit_132
              have hf := ift hf hc19
              refine lv_sipush (v := 27010) hx hb d_A_admit_126 (by decide) ?_
              have e1_ := lf1 hf
              subst e1_
              have hP9 := hP.sub (ws' := [(ha, .inr (0, [.ref hm, .ref hi, .ref qa, .ref qg, .int xl, .int xo, .int xs, .int xv, .int xp])), (hm, .inr (1, [.ref qc, .int mw, .int mf, .int mz])), (qc, .inl (cI, 149, .inl mc)), (hi, .inr (2, [.ref qb, .int ic])), (qb, .inl (cI, 24, .inl ib)), (qa, .inl (cI, 16, .inl xa)), (qg, .inl (cI, 4, .inl xg))]) [0, 1, 2, 5, 6, 3, 4] rfl
              have hD9 := hD.sub (ws' := [(ha, .inr (0, [.ref hm, .ref hi, .ref qa, .ref qg, .int xl, .int xo, .int xs, .int xv, .int xp])), (hm, .inr (1, [.ref qc, .int mw, .int mf, .int mz])), (qc, .inl (cI, 149, .inl mc)), (hi, .inr (2, [.ref qb, .int ic])), (qb, .inl (cI, 24, .inl ib)), (qa, .inl (cI, 16, .inl xa)), (qg, .inl (cI, 4, .inl xg))]) [0, 1, 2, 5, 6, 3, 4] (by decide) rfl
              exact W.iret (v := 27010) hx hb hr (fun t ht hW => ⟨⟨27010, (), rfl, rfl, by rw [ht]; exact hP9, va_K.moved hW.alike hK, hD9⟩, hS.F ht⟩) hS.2.2 d_A_admit_129
            have hf := ift hf hc16
            refine lv_aload_n hx hb d_A_admit_101 rfl (lv_at hl 1 rfl) ?_
            refine va_gets hx hb hE.2.2.2.1 hS hown kf139 (fun _ h9 => h9) d_A_admit_102 ?_
            refine lv_acmp_eq (rx := some (ad k)) (ry := some (ad 0)) (tgt := 112) hx hb d_A_admit_105 rfl (fun hc20 => ?_) (fun hc20 => ?_)
            · have hd21 : k = 0 := hE.2.2.2.2.2.2.2.2.2.2.2.2.2.2 _ _ hk (by decide) (Option.some.inj hc20)
              have hf := ift hf hd21
              refine lv_aload_n hx hb d_A_admit_112 rfl (lv_at hl 1 rfl) ?_
              obtain ⟨r23, hg, hf⟩ := bd1_some hf
              refine xeV (ctE_isGuarded l dC dI cI ad tA tS k hk r23 hg) ⟨hx, hb, hml, hown, hts⟩ (cwV (C := R_E) 0 hts (gV wq178 wq179 wq180 wq48 wq181) rfl rfl rfl (by decide +kernel) ⟨Nat.le_of_ble_eq_true rfl, Nat.le_of_ble_eq_true rfl⟩) hE hk hK hP hD hS hA rfl hl.1 rfl (Nat.le_of_ble_eq_true rfl) d_A_admit_113 ⟨Nat.zero_le _, Nat.zero_le _⟩ (fun H locs hP hD hS => ?_)
              refine lv_if_eq (tgt := 130) hx hb d_A_admit_116 rfl (fun hc24 => ?_) (fun hc24 => ?_)
              · have hf := ift hf hc24
                refine lv_ldc (v := 36864) hx hb hown kc59 d_A_admit_130 ?_
                have e1_ := lf1 hf
                subst e1_
                have hP9 := hP.sub (ws' := [(ha, .inr (0, [.ref hm, .ref hi, .ref qa, .ref qg, .int xl, .int xo, .int xs, .int xv, .int xp])), (hm, .inr (1, [.ref qc, .int mw, .int mf, .int mz])), (qc, .inl (cI, 149, .inl mc)), (hi, .inr (2, [.ref qb, .int ic])), (qb, .inl (cI, 24, .inl ib)), (qa, .inl (cI, 16, .inl xa)), (qg, .inl (cI, 4, .inl xg))]) [0, 1, 2, 5, 6, 3, 4] rfl
                have hD9 := hD.sub (ws' := [(ha, .inr (0, [.ref hm, .ref hi, .ref qa, .ref qg, .int xl, .int xo, .int xs, .int xv, .int xp])), (hm, .inr (1, [.ref qc, .int mw, .int mf, .int mz])), (qc, .inl (cI, 149, .inl mc)), (hi, .inr (2, [.ref qb, .int ic])), (qb, .inl (cI, 24, .inl ib)), (qa, .inl (cI, 16, .inl xa)), (qg, .inl (cI, 4, .inl xg))]) [0, 1, 2, 5, 6, 3, 4] (by decide) rfl
                exact W.iret (v := 36864) hx hb hr (fun t ht hW => ⟨⟨36864, (), rfl, rfl, by rw [ht]; exact hP9, va_K.moved hW.alike hK, hD9⟩, hS.F ht⟩) hS.2.2 d_A_admit_132
              have hf := ifn hf hc24
              refine lv_aload_n hx hb d_A_admit_119 rfl (lv_at hl 0 rfl) ?_
              refine va_get (D := (dC, dI)) (ci := 0) (v := .int xv) (C := R_A) (T := F_A) (N := 9) hx hb hts inA hown hK hP 0 rfl rfl 7 (by decide) kf107 (fun _ h9 => h9) rfl d_A_admit_120 ?_
              refine lv_if_ne (tgt := 130) hx hb d_A_admit_123 rfl (fun hc25 => ?_) (fun hc25 => ?_)
              · have hf := ifn hf hc25
                refine lv_ldc (v := 36864) hx hb hown kc59 d_A_admit_130 ?_
                have e1_ := lf1 hf
                subst e1_
                have hP9 := hP.sub (ws' := [(ha, .inr (0, [.ref hm, .ref hi, .ref qa, .ref qg, .int xl, .int xo, .int xs, .int xv, .int xp])), (hm, .inr (1, [.ref qc, .int mw, .int mf, .int mz])), (qc, .inl (cI, 149, .inl mc)), (hi, .inr (2, [.ref qb, .int ic])), (qb, .inl (cI, 24, .inl ib)), (qa, .inl (cI, 16, .inl xa)), (qg, .inl (cI, 4, .inl xg))]) [0, 1, 2, 5, 6, 3, 4] rfl
                have hD9 := hD.sub (ws' := [(ha, .inr (0, [.ref hm, .ref hi, .ref qa, .ref qg, .int xl, .int xo, .int xs, .int xv, .int xp])), (hm, .inr (1, [.ref qc, .int mw, .int mf, .int mz])), (qc, .inl (cI, 149, .inl mc)), (hi, .inr (2, [.ref qb, .int ic])), (qb, .inl (cI, 24, .inl ib)), (qa, .inl (cI, 16, .inl xa)), (qg, .inl (cI, 4, .inl xg))]) [0, 1, 2, 5, 6, 3, 4] (by decide) rfl
                exact W.iret (v := 36864) hx hb hr (fun t ht hW => ⟨⟨36864, (), rfl, rfl, by rw [ht]; exact hP9, va_K.moved hW.alike hK, hD9⟩, hS.F ht⟩) hS.2.2 d_A_admit_132
              have hf := ift hf hc25
              refine lv_sipush (v := 27010) hx hb d_A_admit_126 (by decide) ?_
              have e1_ := lf1 hf
              subst e1_
              have hP9 := hP.sub (ws' := [(ha, .inr (0, [.ref hm, .ref hi, .ref qa, .ref qg, .int xl, .int xo, .int xs, .int xv, .int xp])), (hm, .inr (1, [.ref qc, .int mw, .int mf, .int mz])), (qc, .inl (cI, 149, .inl mc)), (hi, .inr (2, [.ref qb, .int ic])), (qb, .inl (cI, 24, .inl ib)), (qa, .inl (cI, 16, .inl xa)), (qg, .inl (cI, 4, .inl xg))]) [0, 1, 2, 5, 6, 3, 4] rfl
              have hD9 := hD.sub (ws' := [(ha, .inr (0, [.ref hm, .ref hi, .ref qa, .ref qg, .int xl, .int xo, .int xs, .int xv, .int xp])), (hm, .inr (1, [.ref qc, .int mw, .int mf, .int mz])), (qc, .inl (cI, 149, .inl mc)), (hi, .inr (2, [.ref qb, .int ic])), (qb, .inl (cI, 24, .inl ib)), (qa, .inl (cI, 16, .inl xa)), (qg, .inl (cI, 4, .inl xg))]) [0, 1, 2, 5, 6, 3, 4] (by decide) rfl
              exact W.iret (v := 27010) hx hb hr (fun t ht hW => ⟨⟨27010, (), rfl, rfl, by rw [ht]; exact hP9, va_K.moved hW.alike hK, hD9⟩, hS.F ht⟩) hS.2.2 d_A_admit_129
            have hd21 : ¬ k = 0 := fun h9 => hc20 (by rw [h9])
            have hf := ifn hf hd21
            refine lv_sipush (v := 27013) hx hb d_A_admit_108 (by decide) ?_
            have e1_ := lf1 hf
            subst e1_
            have hP9 := hP.sub (ws' := [(ha, .inr (0, [.ref hm, .ref hi, .ref qa, .ref qg, .int xl, .int xo, .int xs, .int xv, .int xp])), (hm, .inr (1, [.ref qc, .int mw, .int mf, .int mz])), (qc, .inl (cI, 149, .inl mc)), (hi, .inr (2, [.ref qb, .int ic])), (qb, .inl (cI, 24, .inl ib)), (qa, .inl (cI, 16, .inl xa)), (qg, .inl (cI, 4, .inl xg))]) [0, 1, 2, 5, 6, 3, 4] rfl
            have hD9 := hD.sub (ws' := [(ha, .inr (0, [.ref hm, .ref hi, .ref qa, .ref qg, .int xl, .int xo, .int xs, .int xv, .int xp])), (hm, .inr (1, [.ref qc, .int mw, .int mf, .int mz])), (qc, .inl (cI, 149, .inl mc)), (hi, .inr (2, [.ref qb, .int ic])), (qb, .inl (cI, 24, .inl ib)), (qa, .inl (cI, 16, .inl xa)), (qg, .inl (cI, 4, .inl xg))]) [0, 1, 2, 5, 6, 3, 4] (by decide) rfl
            exact W.iret (v := 27013) hx hb hr (fun t ht hW => ⟨⟨27013, (), rfl, rfl, by rw [ht]; exact hP9, va_K.moved hW.alike hK, hD9⟩, hS.F ht⟩) hS.2.2 d_A_admit_111
          have hf := ift hf hc15
          refine lv_sipush (v := 27270) hx hb d_A_admit_88 (by decide) ?_
          have e1_ := lf1 hf
          subst e1_
          have hP9 := hP.sub (ws' := [(ha, .inr (0, [.ref hm, .ref hi, .ref qa, .ref qg, .int xl, .int xo, .int xs, .int xv, .int xp])), (hm, .inr (1, [.ref qc, .int mw, .int mf, .int mz])), (qc, .inl (cI, 149, .inl mc)), (hi, .inr (2, [.ref qb, .int ic])), (qb, .inl (cI, 24, .inl ib)), (qa, .inl (cI, 16, .inl xa)), (qg, .inl (cI, 4, .inl xg))]) [0, 1, 2, 5, 6, 3, 4] rfl
          have hD9 := hD.sub (ws' := [(ha, .inr (0, [.ref hm, .ref hi, .ref qa, .ref qg, .int xl, .int xo, .int xs, .int xv, .int xp])), (hm, .inr (1, [.ref qc, .int mw, .int mf, .int mz])), (qc, .inl (cI, 149, .inl mc)), (hi, .inr (2, [.ref qb, .int ic])), (qb, .inl (cI, 24, .inl ib)), (qa, .inl (cI, 16, .inl xa)), (qg, .inl (cI, 4, .inl xg))]) [0, 1, 2, 5, 6, 3, 4] (by decide) rfl
          exact W.iret (v := 27270) hx hb hr (fun t ht hW => ⟨⟨27270, (), rfl, rfl, by rw [ht]; exact hP9, va_K.moved hW.alike hK, hD9⟩, hS.F ht⟩) hS.2.2 d_A_admit_91
        have hf := ift hf hc11
        refine lv_sipush (v := 26368) hx hb d_A_admit_63 (by decide) ?_
        have e1_ := lf1 hf
        subst e1_
        have hP9 := hP.sub (ws' := [(ha, .inr (0, [.ref hm, .ref hi, .ref qa, .ref qg, .int xl, .int xo, .int xs, .int xv, .int xp])), (hm, .inr (1, [.ref qc, .int mw, .int mf, .int mz])), (qc, .inl (cI, 149, .inl mc)), (hi, .inr (2, [.ref qb, .int ic])), (qb, .inl (cI, 24, .inl ib)), (qa, .inl (cI, 16, .inl xa)), (qg, .inl (cI, 4, .inl xg))]) [0, 1, 2, 5, 6, 3, 4] rfl
        have hD9 := hD.sub (ws' := [(ha, .inr (0, [.ref hm, .ref hi, .ref qa, .ref qg, .int xl, .int xo, .int xs, .int xv, .int xp])), (hm, .inr (1, [.ref qc, .int mw, .int mf, .int mz])), (qc, .inl (cI, 149, .inl mc)), (hi, .inr (2, [.ref qb, .int ic])), (qb, .inl (cI, 24, .inl ib)), (qa, .inl (cI, 16, .inl xa)), (qg, .inl (cI, 4, .inl xg))]) [0, 1, 2, 5, 6, 3, 4] (by decide) rfl
        exact W.iret (v := 26368) hx hb hr (fun t ht hW => ⟨⟨26368, (), rfl, rfl, by rw [ht]; exact hP9, va_K.moved hW.alike hK, hD9⟩, hS.F ht⟩) hS.2.2 d_A_admit_66
      have hd6 : k = 12 := hE.2.2.2.2.2.2.2.2.2.2.2.2.2.2 _ _ hk (by decide) (Option.some.inj hc5)
      have hf := ift hf hd6
      refine lv_sipush (v := 27904) hx hb d_A_admit_38 (by decide) ?_
      have e1_ := lf1 hf
      subst e1_
      have hP9 := hP.sub (ws' := [(ha, .inr (0, [.ref hm, .ref hi, .ref qa, .ref qg, .int xl, .int xo, .int xs, .int xv, .int xp])), (hm, .inr (1, [.ref qc, .int mw, .int mf, .int mz])), (qc, .inl (cI, 149, .inl mc)), (hi, .inr (2, [.ref qb, .int ic])), (qb, .inl (cI, 24, .inl ib)), (qa, .inl (cI, 16, .inl xa)), (qg, .inl (cI, 4, .inl xg))]) [0, 1, 2, 5, 6, 3, 4] rfl
      have hD9 := hD.sub (ws' := [(ha, .inr (0, [.ref hm, .ref hi, .ref qa, .ref qg, .int xl, .int xo, .int xs, .int xv, .int xp])), (hm, .inr (1, [.ref qc, .int mw, .int mf, .int mz])), (qc, .inl (cI, 149, .inl mc)), (hi, .inr (2, [.ref qb, .int ic])), (qb, .inl (cI, 24, .inl ib)), (qa, .inl (cI, 16, .inl xa)), (qg, .inl (cI, 4, .inl xg))]) [0, 1, 2, 5, 6, 3, 4] (by decide) rfl
      exact W.iret (v := 27904) hx hb hr (fun t ht hW => ⟨⟨27904, (), rfl, rfl, by rw [ht]; exact hP9, va_K.moved hW.alike hK, hD9⟩, hS.F ht⟩) hS.2.2 d_A_admit_41
    have hf := ifn hf hc4
    refine lv_sipush (v := 28160) hx hb d_A_admit_27 (by decide) ?_
    have e1_ := lf1 hf
    subst e1_
    have hP9 := hP.sub (ws' := [(ha, .inr (0, [.ref hm, .ref hi, .ref qa, .ref qg, .int xl, .int xo, .int xs, .int xv, .int xp])), (hm, .inr (1, [.ref qc, .int mw, .int mf, .int mz])), (qc, .inl (cI, 149, .inl mc)), (hi, .inr (2, [.ref qb, .int ic])), (qb, .inl (cI, 24, .inl ib)), (qa, .inl (cI, 16, .inl xa)), (qg, .inl (cI, 4, .inl xg))]) [0, 1, 2, 5, 6, 3, 4] rfl
    have hD9 := hD.sub (ws' := [(ha, .inr (0, [.ref hm, .ref hi, .ref qa, .ref qg, .int xl, .int xo, .int xs, .int xv, .int xp])), (hm, .inr (1, [.ref qc, .int mw, .int mf, .int mz])), (qc, .inl (cI, 149, .inl mc)), (hi, .inr (2, [.ref qb, .int ic])), (qb, .inl (cI, 24, .inl ib)), (qa, .inl (cI, 16, .inl xa)), (qg, .inl (cI, 4, .inl xg))]) [0, 1, 2, 5, 6, 3, 4] (by decide) rfl
    exact W.iret (v := 28160) hx hb hr (fun t ht hW => ⟨⟨28160, (), rfl, rfl, by rw [ht]; exact hP9, va_K.moved hW.alike hK, hD9⟩, hS.F ht⟩) hS.2.2 d_A_admit_30
  have hf := ift hf hc2
  refine lv_sipush (v := 26368) hx hb d_A_admit_10 (by decide) ?_
  have e1_ := lf1 hf
  subst e1_
  have hP9 := hP.sub (ws' := [(ha, .inr (0, [.ref hm, .ref hi, .ref qa, .ref qg, .int xl, .int xo, .int xs, .int xv, .int xp])), (hm, .inr (1, [.ref qc, .int mw, .int mf, .int mz])), (qc, .inl (cI, 149, .inl mc)), (hi, .inr (2, [.ref qb, .int ic])), (qb, .inl (cI, 24, .inl ib)), (qa, .inl (cI, 16, .inl xa)), (qg, .inl (cI, 4, .inl xg))]) [0, 1, 2, 5, 6, 3, 4] rfl
  have hD9 := hD.sub (ws' := [(ha, .inr (0, [.ref hm, .ref hi, .ref qa, .ref qg, .int xl, .int xo, .int xs, .int xv, .int xp])), (hm, .inr (1, [.ref qc, .int mw, .int mf, .int mz])), (qc, .inl (cI, 149, .inl mc)), (hi, .inr (2, [.ref qb, .int ic])), (qb, .inl (cI, 24, .inl ib)), (qa, .inl (cI, 16, .inl xa)), (qg, .inl (cI, 4, .inl xg))]) [0, 1, 2, 5, 6, 3, 4] (by decide) rfl
  exact W.iret (v := 26368) hx hb hr (fun t ht hW => ⟨⟨26368, (), rfl, rfl, by rw [ht]; exact hP9, va_K.moved hW.alike hK, hD9⟩, hS.F ht⟩) hS.2.2 d_A_admit_13
theorem d_A_perform_0 : decode b_A_perform 0 = .ok (.getstatic 145, 3) := by decide +kernel
theorem d_A_perform_3 : decode b_A_perform 3 = .ok (.aload_n 1, 1) := by decide +kernel
theorem d_A_perform_4 : decode b_A_perform 4 = .ok (.invokevirtual 150, 3) := by decide +kernel
theorem d_A_perform_7 : decode b_A_perform 7 = .ok (.iaload, 1) := by decide +kernel
theorem d_A_perform_8 : decode b_A_perform 8 = .ok (.tableswitch 131 1 12 #[64, 69, 74, 86, 91, 96, 101, 106, 111, 116, 121, 126], 64) := by decide +kernel
theorem d_A_perform_72 : decode b_A_perform 72 = .ok (.aload_n 0, 1) := by decide +kernel
theorem d_A_perform_73 : decode b_A_perform 73 = .ok (.invokevirtual 153, 3) := by decide +kernel
theorem d_A_perform_76 : decode b_A_perform 76 = .ok (.ireturn, 1) := by decide +kernel
theorem d_A_perform_77 : decode b_A_perform 77 = .ok (.aload_n 0, 1) := by decide +kernel
theorem d_A_perform_78 : decode b_A_perform 78 = .ok (.invokevirtual 156, 3) := by decide +kernel
theorem d_A_perform_81 : decode b_A_perform 81 = .ok (.ireturn, 1) := by decide +kernel
theorem d_A_perform_82 : decode b_A_perform 82 = .ok (.aload_n 0, 1) := by decide +kernel
theorem d_A_perform_83 : decode b_A_perform 83 = .ok (.aload_n 0, 1) := by decide +kernel
theorem d_A_perform_84 : decode b_A_perform 84 = .ok (.getfield 30, 3) := by decide +kernel
theorem d_A_perform_87 : decode b_A_perform 87 = .ok (.invokestatic 159, 3) := by decide +kernel
theorem d_A_perform_90 : decode b_A_perform 90 = .ok (.invokevirtual 162, 3) := by decide +kernel
theorem d_A_perform_93 : decode b_A_perform 93 = .ok (.ireturn, 1) := by decide +kernel
theorem d_A_perform_94 : decode b_A_perform 94 = .ok (.aload_n 0, 1) := by decide +kernel
theorem d_A_perform_95 : decode b_A_perform 95 = .ok (.invokevirtual 165, 3) := by decide +kernel
theorem d_A_perform_98 : decode b_A_perform 98 = .ok (.ireturn, 1) := by decide +kernel
theorem d_A_perform_99 : decode b_A_perform 99 = .ok (.aload_n 0, 1) := by decide +kernel
theorem d_A_perform_100 : decode b_A_perform 100 = .ok (.invokevirtual 168, 3) := by decide +kernel
theorem d_A_perform_103 : decode b_A_perform 103 = .ok (.ireturn, 1) := by decide +kernel
theorem d_A_perform_104 : decode b_A_perform 104 = .ok (.aload_n 0, 1) := by decide +kernel
theorem d_A_perform_105 : decode b_A_perform 105 = .ok (.invokevirtual 171, 3) := by decide +kernel
theorem d_A_perform_108 : decode b_A_perform 108 = .ok (.ireturn, 1) := by decide +kernel
theorem d_A_perform_109 : decode b_A_perform 109 = .ok (.aload_n 0, 1) := by decide +kernel
theorem d_A_perform_110 : decode b_A_perform 110 = .ok (.invokevirtual 174, 3) := by decide +kernel
theorem d_A_perform_113 : decode b_A_perform 113 = .ok (.ireturn, 1) := by decide +kernel
theorem d_A_perform_114 : decode b_A_perform 114 = .ok (.aload_n 0, 1) := by decide +kernel
theorem d_A_perform_115 : decode b_A_perform 115 = .ok (.invokevirtual 177, 3) := by decide +kernel
theorem d_A_perform_118 : decode b_A_perform 118 = .ok (.ireturn, 1) := by decide +kernel
theorem d_A_perform_119 : decode b_A_perform 119 = .ok (.aload_n 0, 1) := by decide +kernel
theorem d_A_perform_120 : decode b_A_perform 120 = .ok (.invokevirtual 180, 3) := by decide +kernel
theorem d_A_perform_123 : decode b_A_perform 123 = .ok (.ireturn, 1) := by decide +kernel
theorem d_A_perform_124 : decode b_A_perform 124 = .ok (.aload_n 0, 1) := by decide +kernel
theorem d_A_perform_125 : decode b_A_perform 125 = .ok (.invokevirtual 183, 3) := by decide +kernel
theorem d_A_perform_128 : decode b_A_perform 128 = .ok (.ireturn, 1) := by decide +kernel
theorem d_A_perform_129 : decode b_A_perform 129 = .ok (.aload_n 0, 1) := by decide +kernel
theorem d_A_perform_130 : decode b_A_perform 130 = .ok (.invokevirtual 186, 3) := by decide +kernel
theorem d_A_perform_133 : decode b_A_perform 133 = .ok (.ireturn, 1) := by decide +kernel
theorem d_A_perform_134 : decode b_A_perform 134 = .ok (.aload_n 0, 1) := by decide +kernel
theorem d_A_perform_135 : decode b_A_perform 135 = .ok (.invokevirtual 189, 3) := by decide +kernel
theorem d_A_perform_138 : decode b_A_perform 138 = .ok (.ireturn, 1) := by decide +kernel
theorem d_A_perform_139 : decode b_A_perform 139 = .ok (.sipush 27904, 3) := by decide +kernel
theorem d_A_perform_142 : decode b_A_perform 142 = .ok (.ireturn, 1) := by decide +kernel
def fA_perform (σ : StX) (k : Nat) : Option (Int32 × StX) := match σ with | (mc, mw, mf, mz, ib, ic, xa, xg, xl, xo, xs, xv, xp) => ix (nI k) 13 fun j2 => if (smT j2) = 1 then (bd14 (fA_select (mc, mw, mf, mz, ib, ic, xa, xg, xl, xo, xs, xv, xp)) fun r4 mc4 mw4 mf4 mz4 ib4 ic4 xa4 xg4 xl4 xo4 xs4 xv4 xp4 => some (r4, mc4, mw4, mf4, mz4, ib4, ic4, xa4, xg4, xl4, xo4, xs4, xv4, xp4)) else (if (smT j2) = 2 then (bd14 (fA_verify (mc, mw, mf, mz, ib, ic, xa, xg, xl, xo, xs, xv, xp)) fun r6 mc6 mw6 mf6 mz6 ib6 ic6 xa6 xg6 xl6 xo6 xs6 xv6 xp6 => some (r6, mc6, mw6, mf6, mz6, ib6, ic6, xa6, xg6, xl6, xo6, xs6, xv6, xp6)) else (if (smT j2) = 3 then (bd1 (fA_secretPlace xs) fun r8 => bd14 (fA_storePayload (mc, mw, mf, mz, ib, ic, xa, xg, xl, xo, xs, xv, xp) r8) fun r9 mc9 mw9 mf9 mz9 ib9 ic9 xa9 xg9 xl9 xo9 xs9 xv9 xp9 => some (r9, mc9, mw9, mf9, mz9, ib9, ic9, xa9, xg9, xl9, xo9, xs9, xv9, xp9)) else (if (smT j2) = 4 then (bd14 (fA_unblock (mc, mw, mf, mz, ib, ic, xa, xg, xl, xo, xs, xv, xp)) fun r11 mc11 mw11 mf11 mz11 ib11 ic11 xa11 xg11 xl11 xo11 xs11 xv11 xp11 => some (r11, mc11, mw11, mf11, mz11, ib11, ic11, xa11, xg11, xl11, xo11, xs11, xv11, xp11)) else (if (smT j2) = 5 then (bd14 (fA_read (mc, mw, mf, mz, ib, ic, xa, xg, xl, xo, xs, xv, xp)) fun r13 mc13 mw13 mf13 mz13 ib13 ic13 xa13 xg13 xl13 xo13 xs13 xv13 xp13 => some (r13, mc13, mw13, mf13, mz13, ib13, ic13, xa13, xg13, xl13, xo13, xs13, xv13, xp13)) else (if (smT j2) = 6 then (bd14 (fA_update (mc, mw, mf, mz, ib, ic, xa, xg, xl, xo, xs, xv, xp)) fun r15 mc15 mw15 mf15 mz15 ib15 ic15 xa15 xg15 xl15 xo15 xs15 xv15 xp15 => some (r15, mc15, mw15, mf15, mz15, ib15, ic15, xa15, xg15, xl15, xo15, xs15, xv15, xp15)) else (if (smT j2) = 7 then (bd14 (fA_begin (mc, mw, mf, mz, ib, ic, xa, xg, xl, xo, xs, xv, xp)) fun r17 mc17 mw17 mf17 mz17 ib17 ic17 xa17 xg17 xl17 xo17 xs17 xv17 xp17 => some (r17, mc17, mw17, mf17, mz17, ib17, ic17, xa17, xg17, xl17, xo17, xs17, xv17, xp17)) else (if (smT j2) = 8 then (bd14 (fA_end (mc, mw, mf, mz, ib, ic, xa, xg, xl, xo, xs, xv, xp)) fun r19 mc19 mw19 mf19 mz19 ib19 ic19 xa19 xg19 xl19 xo19 xs19 xv19 xp19 => some (r19, mc19, mw19, mf19, mz19, ib19, ic19, xa19, xg19, xl19, xo19, xs19, xv19, xp19)) else (if (smT j2) = 9 then (bd14 (fA_grant (mc, mw, mf, mz, ib, ic, xa, xg, xl, xo, xs, xv, xp)) fun r21 mc21 mw21 mf21 mz21 ib21 ic21 xa21 xg21 xl21 xo21 xs21 xv21 xp21 => some (r21, mc21, mw21, mf21, mz21, ib21, ic21, xa21, xg21, xl21, xo21, xs21, xv21, xp21)) else (if (smT j2) = 10 then (bd14 (fA_revoke (mc, mw, mf, mz, ib, ic, xa, xg, xl, xo, xs, xv, xp)) fun r23 mc23 mw23 mf23 mz23 ib23 ic23 xa23 xg23 xl23 xo23 xs23 xv23 xp23 => some (r23, mc23, mw23, mf23, mz23, ib23, ic23, xa23, xg23, xl23, xo23, xs23, xv23, xp23)) else (if (smT j2) = 11 then (bd14 (fA_readShared (mc, mw, mf, mz, ib, ic, xa, xg, xl, xo, xs, xv, xp)) fun r25 mc25 mw25 mf25 mz25 ib25 ic25 xa25 xg25 xl25 xo25 xs25 xv25 xp25 => some (r25, mc25, mw25, mf25, mz25, ib25, ic25, xa25, xg25, xl25, xo25, xs25, xv25, xp25)) else (if (smT j2) = 12 then (bd14 (fA_updateShared (mc, mw, mf, mz, ib, ic, xa, xg, xl, xo, xs, xv, xp)) fun r27 mc27 mw27 mf27 mz27 ib27 ic27 xa27 xg27 xl27 xo27 xs27 xv27 xp27 => some (r27, mc27, mw27, mf27, mz27, ib27, ic27, xa27, xg27, xl27, xo27, xs27, xv27, xp27)) else (some (27904, mc, mw, mf, mz, ib, ic, xa, xg, xl, xo, xs, xv, xp)))))))))))))
set_option maxHeartbeats 4000000 in
set_option maxRecDepth 100000 in
theorem ctA_perform (l : Launch) (dC : Nat → ClassId) (dI : Nat → Nat → Nat) (cI : ClassId) (ha hm qc hi qb qa qg : Nat) (ad : Nat → Nat) (tA tS : Nat) (k : Nat) (hk : k < 13) (mc : Nat → Int32) (mw : Int32) (mf : Int32) (mz : Int32) (ib : Nat → Int32) (ic : Int32) (xa : Nat → Int32) (xg : Nat → Int32) (xl : Int32) (xo : Int32) (xs : Int32) (xv : Int32) (xp : Int32) (r : Int32) (mc' : Nat → Int32) (mw' : Int32) (mf' : Int32) (mz' : Int32) (ib' : Nat → Int32) (ic' : Int32) (xa' : Nat → Int32) (xg' : Nat → Int32) (xl' : Int32) (xo' : Int32) (xs' : Int32) (xv' : Int32) (xp' : Int32) (hf : fA_perform (mc, mw, mf, mz, ib, ic, xa, xg, xl, xo, xs, xv, xp) k = some (r, mc', mw', mf', mz', ib', ic', xa', xg', xl', xo', xs', xv', xp')) : CfI l y_A_perform w_A_perform ({ frames := 5, cells := 0, slots := 0, locals := 112 }) (dC, dI) [(cI, .int)] ad tA tS [.ref ha, .ref (ad k)] [(ha, .inr (0, [.ref hm, .ref hi, .ref qa, .ref qg, .int xl, .int xo, .int xs, .int xv, .int xp])), (hm, .inr (1, [.ref qc, .int mw, .int mf, .int mz])), (qc, .inl (cI, 149, .inl mc)), (hi, .inr (2, [.ref qb, .int ic])), (qb, .inl (cI, 24, .inl ib)), (qa, .inl (cI, 16, .inl xa)), (qg, .inl (cI, 4, .inl xg))] [(ha, .inr (0, [.ref hm, .ref hi, .ref qa, .ref qg, .int xl', .int xo', .int xs', .int xv', .int xp'])), (hm, .inr (1, [.ref qc, .int mw', .int mf', .int mz'])), (qc, .inl (cI, 149, .inl mc')), (hi, .inr (2, [.ref qb, .int ic'])), (qb, .inl (cI, 24, .inl ib')), (qa, .inl (cI, 16, .inl xa')), (qg, .inl (cI, 4, .inl xg'))] r := by
  intro sz
  refine Met.ofW (cc := b_A_perform) (maxL := 2) (ret := some .int) (by decide) rfl ?_
  intro p e s m args below meth c s₁ B hml hv
  obtain ⟨rfl, hsz, hP, hK, hD0, hE⟩ := hv
  have hx := B.exec
  have hb := B.bytes
  have hr := B.returns
  have hts := atoms_spec (ws := w_A_perform) B.pre
  have hown : s.vm.findClass R_A = some m.cls := findClass_of_methodNamed B.named
  have hlocks := B.notSynchronized
  subst hsz
  have hD := hD0.self (sz := s.heap.size)
  generalize hAe : va_A [(ha, .inr (0, [.ref hm, .ref hi, .ref qa, .ref qg, .int xl, .int xo, .int xs, .int xv, .int xp])), (hm, .inr (1, [.ref qc, .int mw, .int mf, .int mz])), (qc, .inl (cI, 149, .inl mc)), (hi, .inr (2, [.ref qb, .int ic])), (qb, .inl (cI, 24, .inl ib)), (qa, .inl (cI, 16, .inl xa)), (qg, .inl (cI, 4, .inl xg))] s.heap.size = A at hD hE ⊢
  have hA : ∀ q : Nat, s.heap.size ≤ q → A q := fun q h => by rw [← hAe]; exact Or.inr h
  have hS : va_S A s.heap s.heap [] := va_S.rf
  have hP : va_P (dC, dI) vwCl [(ha, .inr (0, [.ref hm, .ref hi, .ref qa, .ref qg, .int xl, .int xo, .int xs, .int xv, .int xp])), (hm, .inr (1, [.ref qc, .int mw, .int mf, .int mz])), (qc, .inl (cI, 149, .inl mc)), (hi, .inr (2, [.ref qb, .int ic])), (qb, .inl (cI, 24, .inl ib)), (qa, .inl (cI, 16, .inl xa)), (qg, .inl (cI, 4, .inl xg))] s.heap := hP
  have hl := lv_entry ([.ref ha, .ref (ad k)]) (n := 2) (Nat.le_of_ble_eq_true rfl)
  rw [lg_entry_eq]
  generalize (lg_sl ([.ref ha, .ref (ad k)]) ++ List.replicate (2 - (lg_sl ([.ref ha, .ref (ad k)])).length) Slot.unset).toArray = ls at hl ⊢
  have hl : lv_has ls 2 [(0, .ref ha), (1, .ref (ad k))] := hl
  have inA : ∀ w ∈ u_ws R_A F_A 9, w ∈ w_A_perform := fun w h => List.mem_cons_of_mem _ (in_A w h)
  have kf145 := hts _ (List.mem_cons_of_mem _ wq187)
  have kf30 := hts _ (List.mem_cons_of_mem _ wq97)
  rw [fA_perform] at hf
  refine va_gets hx hb hE.2.2.2.2.1 hS hown kf145 (fun _ h9 => h9) d_A_perform_0 ?_
  refine lv_aload_n hx hb d_A_perform_3 rfl (lv_at hl 1 rfl) ?_
  refine xeU (y0 := ⟨"AppletFirewall$Instruction", "ordinal", "()I"⟩) (owner := "java/lang/Enum") (ctE_ordinal l dC dI cI ad tA tS k hk) ⟨hx, hb, hml, hown, hts⟩ (va_cwU 0 hts (gU wq189 wq190 wq192 wq193 wq47 wq194) rfl rfl rfl rfl (by decide +kernel) ⟨Nat.le_of_ble_eq_true rfl, Nat.le_of_ble_eq_true rfl⟩) hE hk hK hP hD hS hA rfl hl.1 rfl (Nat.le_of_ble_eq_true rfl) d_A_perform_4 ⟨Nat.zero_le _, Nat.zero_le _⟩ (fun H locs hP hD hS => ?_)
  obtain ⟨hin_, hf⟩ := ix_some hf
  refine va_ti hx hb hE.2.2.2.2.2.1 hS hin_ rfl d_A_perform_7 ?_
  by_cases hc3 : (smT (nI k : Int32).toNatClampNeg) = 1
  · have hf := ift hf hc3
    refine lv_tableIn (off := 64) (tgt := 72) hx hb d_A_perform_8 (by rw [hc3]; decide) (by rw [hc3]; decide) (by rw [hc3]; rfl) rfl ?_
    refine lv_aload_n hx hb d_A_perform_72 rfl (lv_at hl 0 rfl) ?_
    obtain ⟨r4, mc4, mw4, mf4, mz4, ib4, ic4, xa4, xg4, xl4, xo4, xs4, xv4, xp4, hg, hf⟩ := bd14_some hf
    refine xci (wr := []) (ctA_select l dC dI cI ha hm qc hi qb qa qg mc mw mf mz ib ic xa xg xl xo xs xv xp r4 mc4 mw4 mf4 mz4 ib4 ic4 xa4 xg4 xl4 xo4 xs4 xv4 xp4 hg) ⟨hx, hb, hml, hown, hts⟩ (cwV (C := R_A) 0 hts (gV wq195 wq197 wq2 wq43 wq198) rfl rfl rfl (by decide +kernel) ⟨Nat.le_of_ble_eq_true rfl, Nat.le_of_ble_eq_true rfl⟩) hK hP hD hS hA [0, 1, 2, 3, 4, 5, 6] [] rfl rfl rfl rfl (by decide) (ci := 0) (q0 := 0) rfl rfl rfl rfl hl.1 rfl (Nat.le_of_ble_eq_true rfl) d_A_perform_73 ⟨Nat.zero_le _, Nat.zero_le _⟩ (fun H locs hP hD hS => ?_)
    have hP : va_P (dC, dI) vwCl [(ha, .inr (0, [.ref hm, .ref hi, .ref qa, .ref qg, .int xl4, .int xo4, .int xs4, .int xv4, .int xp4])), (hm, .inr (1, [.ref qc, .int mw4, .int mf4, .int mz4])), (qc, .inl (cI, 149, .inl mc4)), (hi, .inr (2, [.ref qb, .int ic4])), (qb, .inl (cI, 24, .inl ib4)), (qa, .inl (cI, 16, .inl xa4)), (qg, .inl (cI, 4, .inl xg4))] H := hP
    have hD : va_D A [(ha, .inr (0, [.ref hm, .ref hi, .ref qa, .ref qg, .int xl4, .int xo4, .int xs4, .int xv4, .int xp4])), (hm, .inr (1, [.ref qc, .int mw4, .int mf4, .int mz4])), (qc, .inl (cI, 149, .inl mc4)), (hi, .inr (2, [.ref qb, .int ic4])), (qb, .inl (cI, 24, .inl ib4)), (qa, .inl (cI, 16, .inl xa4)), (qg, .inl (cI, 4, .inl xg4))] := hD
    obtain ⟨e1_, e2_, e3_, e4_, e5_, e6_, e7_, e8_, e9_, e10_, e11_, e12_, e13_, e14_⟩ := lf14 hf
    subst e1_; subst e2_; subst e3_; subst e4_; subst e5_; subst e6_; subst e7_; subst e8_; subst e9_; subst e10_; subst e11_; subst e12_; subst e13_; subst e14_
    have hP9 := hP.sub (ws' := [(ha, .inr (0, [.ref hm, .ref hi, .ref qa, .ref qg, .int xl4, .int xo4, .int xs4, .int xv4, .int xp4])), (hm, .inr (1, [.ref qc, .int mw4, .int mf4, .int mz4])), (qc, .inl (cI, 149, .inl mc4)), (hi, .inr (2, [.ref qb, .int ic4])), (qb, .inl (cI, 24, .inl ib4)), (qa, .inl (cI, 16, .inl xa4)), (qg, .inl (cI, 4, .inl xg4))]) [0, 1, 2, 3, 4, 5, 6] rfl
    have hD9 := hD.sub (ws' := [(ha, .inr (0, [.ref hm, .ref hi, .ref qa, .ref qg, .int xl4, .int xo4, .int xs4, .int xv4, .int xp4])), (hm, .inr (1, [.ref qc, .int mw4, .int mf4, .int mz4])), (qc, .inl (cI, 149, .inl mc4)), (hi, .inr (2, [.ref qb, .int ic4])), (qb, .inl (cI, 24, .inl ib4)), (qa, .inl (cI, 16, .inl xa4)), (qg, .inl (cI, 4, .inl xg4))]) [0, 1, 2, 3, 4, 5, 6] (by decide) rfl
    exact W.iret (v := r4) hx hb hr (fun t ht hW => ⟨⟨r4, (), rfl, rfl, by rw [ht]; exact hP9, va_K.moved hW.alike hK, hD9⟩, hS.F ht⟩) hS.2.2 d_A_perform_76
  have hf := ifn hf hc3
  by_cases hc5 : (smT (nI k : Int32).toNatClampNeg) = 2
  · have hf := ift hf hc5
    refine lv_tableIn (off := 69) (tgt := 77) hx hb d_A_perform_8 (by rw [hc5]; decide) (by rw [hc5]; decide) (by rw [hc5]; rfl) rfl ?_
    refine lv_aload_n hx hb d_A_perform_77 rfl (lv_at hl 0 rfl) ?_
    obtain ⟨r6, mc6, mw6, mf6, mz6, ib6, ic6, xa6, xg6, xl6, xo6, xs6, xv6, xp6, hg, hf⟩ := bd14_some hf
    refine xci (wr := []) (ctA_verify l dC dI cI ha hm qc hi qb qa qg mc mw mf mz ib ic xa xg xl xo xs xv xp r6 mc6 mw6 mf6 mz6 ib6 ic6 xa6 xg6 xl6 xo6 xs6 xv6 xp6 hg) ⟨hx, hb, hml, hown, hts⟩ (cwV (C := R_A) 0 hts (gV wq233 wq235 wq4 wq43 wq236) rfl rfl rfl (by decide +kernel) ⟨Nat.le_of_ble_eq_true rfl, Nat.le_of_ble_eq_true rfl⟩) hK hP hD hS hA [0, 1, 2, 3, 4, 5, 6] [] rfl rfl rfl rfl (by decide) (ci := 0) (q0 := 0) rfl rfl rfl rfl hl.1 rfl (Nat.le_of_ble_eq_true rfl) d_A_perform_78 ⟨Nat.zero_le _, Nat.zero_le _⟩ (fun H locs hP hD hS => ?_)
    have hP : va_P (dC, dI) vwCl [(ha, .inr (0, [.ref hm, .ref hi, .ref qa, .ref qg, .int xl6, .int xo6, .int xs6, .int xv6, .int xp6])), (hm, .inr (1, [.ref qc, .int mw6, .int mf6, .int mz6])), (qc, .inl (cI, 149, .inl mc6)), (hi, .inr (2, [.ref qb, .int ic6])), (qb, .inl (cI, 24, .inl ib6)), (qa, .inl (cI, 16, .inl xa6)), (qg, .inl (cI, 4, .inl xg6))] H := hP
    have hD : va_D A [(ha, .inr (0, [.ref hm, .ref hi, .ref qa, .ref qg, .int xl6, .int xo6, .int xs6, .int xv6, .int xp6])), (hm, .inr (1, [.ref qc, .int mw6, .int mf6, .int mz6])), (qc, .inl (cI, 149, .inl mc6)), (hi, .inr (2, [.ref qb, .int ic6])), (qb, .inl (cI, 24, .inl ib6)), (qa, .inl (cI, 16, .inl xa6)), (qg, .inl (cI, 4, .inl xg6))] := hD
    obtain ⟨e1_, e2_, e3_, e4_, e5_, e6_, e7_, e8_, e9_, e10_, e11_, e12_, e13_, e14_⟩ := lf14 hf
    subst e1_; subst e2_; subst e3_; subst e4_; subst e5_; subst e6_; subst e7_; subst e8_; subst e9_; subst e10_; subst e11_; subst e12_; subst e13_; subst e14_
    have hP9 := hP.sub (ws' := [(ha, .inr (0, [.ref hm, .ref hi, .ref qa, .ref qg, .int xl6, .int xo6, .int xs6, .int xv6, .int xp6])), (hm, .inr (1, [.ref qc, .int mw6, .int mf6, .int mz6])), (qc, .inl (cI, 149, .inl mc6)), (hi, .inr (2, [.ref qb, .int ic6])), (qb, .inl (cI, 24, .inl ib6)), (qa, .inl (cI, 16, .inl xa6)), (qg, .inl (cI, 4, .inl xg6))]) [0, 1, 2, 3, 4, 5, 6] rfl
    have hD9 := hD.sub (ws' := [(ha, .inr (0, [.ref hm, .ref hi, .ref qa, .ref qg, .int xl6, .int xo6, .int xs6, .int xv6, .int xp6])), (hm, .inr (1, [.ref qc, .int mw6, .int mf6, .int mz6])), (qc, .inl (cI, 149, .inl mc6)), (hi, .inr (2, [.ref qb, .int ic6])), (qb, .inl (cI, 24, .inl ib6)), (qa, .inl (cI, 16, .inl xa6)), (qg, .inl (cI, 4, .inl xg6))]) [0, 1, 2, 3, 4, 5, 6] (by decide) rfl
    exact W.iret (v := r6) hx hb hr (fun t ht hW => ⟨⟨r6, (), rfl, rfl, by rw [ht]; exact hP9, va_K.moved hW.alike hK, hD9⟩, hS.F ht⟩) hS.2.2 d_A_perform_81
  have hf := ifn hf hc5
  by_cases hc7 : (smT (nI k : Int32).toNatClampNeg) = 3
  · have hf := ift hf hc7
    refine lv_tableIn (off := 74) (tgt := 82) hx hb d_A_perform_8 (by rw [hc7]; decide) (by rw [hc7]; decide) (by rw [hc7]; rfl) rfl ?_
    refine lv_aload_n hx hb d_A_perform_82 rfl (lv_at hl 0 rfl) ?_
    refine lv_aload_n hx hb d_A_perform_83 rfl (lv_at hl 0 rfl) ?_
    refine va_get (D := (dC, dI)) (ci := 0) (v := .int xs) (C := R_A) (T := F_A) (N := 9) hx hb hts inA hown hK hP 0 rfl rfl 6 (by decide) kf30 (fun _ h9 => h9) rfl d_A_perform_84 ?_
    obtain ⟨r8, hg, hf⟩ := bd1_some hf
    refine xsi (ctA_secretPlace l dC dI cI xs r8 hg) ⟨hx, hb, hml, hown, hts⟩ (va_cwS 1 hts (gS wq242 wq243 wq43 wq244) rfl rfl rfl (by decide +kernel) ⟨Nat.le_of_ble_eq_true rfl, Nat.le_of_ble_eq_true rfl⟩) hK hP hD hS hA rfl hl.1 rfl (Nat.le_of_ble_eq_true rfl) d_A_perform_87 ⟨Nat.zero_le _, Nat.zero_le _⟩ (fun H locs hP hD hS => ?_)
    obtain ⟨r9, mc9, mw9, mf9, mz9, ib9, ic9, xa9, xg9, xl9, xo9, xs9, xv9, xp9, hg, hf⟩ := bd14_some hf
    refine xci (wr := []) (ctA_storePayload l dC dI cI ha hm qc hi qb qa qg mc mw mf mz ib ic xa xg xl xo xs xv xp r8 r9 mc9 mw9 mf9 mz9 ib9 ic9 xa9 xg9 xl9 xo9 xs9 xv9 xp9 hg) ⟨hx, hb, hml, hown, hts⟩ (cwV (C := R_A) 1 hts (gV wq245 wq247 wq6 wq43 wq248) rfl rfl rfl (by decide +kernel) ⟨Nat.le_of_ble_eq_true rfl, Nat.le_of_ble_eq_true rfl⟩) hK hP hD hS hA [0, 1, 2, 3, 4, 5, 6] [] rfl rfl rfl rfl (by decide) (ci := 0) (q0 := 0) rfl rfl rfl rfl hl.1 rfl (Nat.le_of_ble_eq_true rfl) d_A_perform_90 ⟨Nat.zero_le _, Nat.zero_le _⟩ (fun H locs hP hD hS => ?_)
    have hP : va_P (dC, dI) vwCl [(ha, .inr (0, [.ref hm, .ref hi, .ref qa, .ref qg, .int xl9, .int xo9, .int xs9, .int xv9, .int xp9])), (hm, .inr (1, [.ref qc, .int mw9, .int mf9, .int mz9])), (qc, .inl (cI, 149, .inl mc9)), (hi, .inr (2, [.ref qb, .int ic9])), (qb, .inl (cI, 24, .inl ib9)), (qa, .inl (cI, 16, .inl xa9)), (qg, .inl (cI, 4, .inl xg9))] H := hP
    have hD : va_D A [(ha, .inr (0, [.ref hm, .ref hi, .ref qa, .ref qg, .int xl9, .int xo9, .int xs9, .int xv9, .int xp9])), (hm, .inr (1, [.ref qc, .int mw9, .int mf9, .int mz9])), (qc, .inl (cI, 149, .inl mc9)), (hi, .inr (2, [.ref qb, .int ic9])), (qb, .inl (cI, 24, .inl ib9)), (qa, .inl (cI, 16, .inl xa9)), (qg, .inl (cI, 4, .inl xg9))] := hD
    obtain ⟨e1_, e2_, e3_, e4_, e5_, e6_, e7_, e8_, e9_, e10_, e11_, e12_, e13_, e14_⟩ := lf14 hf
    subst e1_; subst e2_; subst e3_; subst e4_; subst e5_; subst e6_; subst e7_; subst e8_; subst e9_; subst e10_; subst e11_; subst e12_; subst e13_; subst e14_
    have hP9 := hP.sub (ws' := [(ha, .inr (0, [.ref hm, .ref hi, .ref qa, .ref qg, .int xl9, .int xo9, .int xs9, .int xv9, .int xp9])), (hm, .inr (1, [.ref qc, .int mw9, .int mf9, .int mz9])), (qc, .inl (cI, 149, .inl mc9)), (hi, .inr (2, [.ref qb, .int ic9])), (qb, .inl (cI, 24, .inl ib9)), (qa, .inl (cI, 16, .inl xa9)), (qg, .inl (cI, 4, .inl xg9))]) [0, 1, 2, 3, 4, 5, 6] rfl
    have hD9 := hD.sub (ws' := [(ha, .inr (0, [.ref hm, .ref hi, .ref qa, .ref qg, .int xl9, .int xo9, .int xs9, .int xv9, .int xp9])), (hm, .inr (1, [.ref qc, .int mw9, .int mf9, .int mz9])), (qc, .inl (cI, 149, .inl mc9)), (hi, .inr (2, [.ref qb, .int ic9])), (qb, .inl (cI, 24, .inl ib9)), (qa, .inl (cI, 16, .inl xa9)), (qg, .inl (cI, 4, .inl xg9))]) [0, 1, 2, 3, 4, 5, 6] (by decide) rfl
    exact W.iret (v := r9) hx hb hr (fun t ht hW => ⟨⟨r9, (), rfl, rfl, by rw [ht]; exact hP9, va_K.moved hW.alike hK, hD9⟩, hS.F ht⟩) hS.2.2 d_A_perform_93
  have hf := ifn hf hc7
  by_cases hc10 : (smT (nI k : Int32).toNatClampNeg) = 4
  · have hf := ift hf hc10
    refine lv_tableIn (off := 86) (tgt := 94) hx hb d_A_perform_8 (by rw [hc10]; decide) (by rw [hc10]; decide) (by rw [hc10]; rfl) rfl ?_
    refine lv_aload_n hx hb d_A_perform_94 rfl (lv_at hl 0 rfl) ?_
    obtain ⟨r11, mc11, mw11, mf11, mz11, ib11, ic11, xa11, xg11, xl11, xo11, xs11, xv11, xp11, hg, hf⟩ := bd14_some hf
    refine xci (wr := []) (ctA_unblock l dC dI cI ha hm qc hi qb qa qg mc mw mf mz ib ic xa xg xl xo xs xv xp r11 mc11 mw11 mf11 mz11 ib11 ic11 xa11 xg11 xl11 xo11 xs11 xv11 xp11 hg) ⟨hx, hb, hml, hown, hts⟩ (cwV (C := R_A) 0 hts (gV wq266 wq268 wq8 wq43 wq269) rfl rfl rfl (by decide +kernel) ⟨Nat.le_of_ble_eq_true rfl, Nat.le_of_ble_eq_true rfl⟩) hK hP hD hS hA [0, 1, 2, 3, 4, 5, 6] [] rfl rfl rfl rfl (by decide) (ci := 0) (q0 := 0) rfl rfl rfl rfl hl.1 rfl (Nat.le_of_ble_eq_true rfl) d_A_perform_95 ⟨Nat.zero_le _, Nat.zero_le _⟩ (fun H locs hP hD hS => ?_)
    have hP : va_P (dC, dI) vwCl [(ha, .inr (0, [.ref hm, .ref hi, .ref qa, .ref qg, .int xl11, .int xo11, .int xs11, .int xv11, .int xp11])), (hm, .inr (1, [.ref qc, .int mw11, .int mf11, .int mz11])), (qc, .inl (cI, 149, .inl mc11)), (hi, .inr (2, [.ref qb, .int ic11])), (qb, .inl (cI, 24, .inl ib11)), (qa, .inl (cI, 16, .inl xa11)), (qg, .inl (cI, 4, .inl xg11))] H := hP
    have hD : va_D A [(ha, .inr (0, [.ref hm, .ref hi, .ref qa, .ref qg, .int xl11, .int xo11, .int xs11, .int xv11, .int xp11])), (hm, .inr (1, [.ref qc, .int mw11, .int mf11, .int mz11])), (qc, .inl (cI, 149, .inl mc11)), (hi, .inr (2, [.ref qb, .int ic11])), (qb, .inl (cI, 24, .inl ib11)), (qa, .inl (cI, 16, .inl xa11)), (qg, .inl (cI, 4, .inl xg11))] := hD
    obtain ⟨e1_, e2_, e3_, e4_, e5_, e6_, e7_, e8_, e9_, e10_, e11_, e12_, e13_, e14_⟩ := lf14 hf
    subst e1_; subst e2_; subst e3_; subst e4_; subst e5_; subst e6_; subst e7_; subst e8_; subst e9_; subst e10_; subst e11_; subst e12_; subst e13_; subst e14_
    have hP9 := hP.sub (ws' := [(ha, .inr (0, [.ref hm, .ref hi, .ref qa, .ref qg, .int xl11, .int xo11, .int xs11, .int xv11, .int xp11])), (hm, .inr (1, [.ref qc, .int mw11, .int mf11, .int mz11])), (qc, .inl (cI, 149, .inl mc11)), (hi, .inr (2, [.ref qb, .int ic11])), (qb, .inl (cI, 24, .inl ib11)), (qa, .inl (cI, 16, .inl xa11)), (qg, .inl (cI, 4, .inl xg11))]) [0, 1, 2, 3, 4, 5, 6] rfl
    have hD9 := hD.sub (ws' := [(ha, .inr (0, [.ref hm, .ref hi, .ref qa, .ref qg, .int xl11, .int xo11, .int xs11, .int xv11, .int xp11])), (hm, .inr (1, [.ref qc, .int mw11, .int mf11, .int mz11])), (qc, .inl (cI, 149, .inl mc11)), (hi, .inr (2, [.ref qb, .int ic11])), (qb, .inl (cI, 24, .inl ib11)), (qa, .inl (cI, 16, .inl xa11)), (qg, .inl (cI, 4, .inl xg11))]) [0, 1, 2, 3, 4, 5, 6] (by decide) rfl
    exact W.iret (v := r11) hx hb hr (fun t ht hW => ⟨⟨r11, (), rfl, rfl, by rw [ht]; exact hP9, va_K.moved hW.alike hK, hD9⟩, hS.F ht⟩) hS.2.2 d_A_perform_98
  have hf := ifn hf hc10
  by_cases hc12 : (smT (nI k : Int32).toNatClampNeg) = 5
  · have hf := ift hf hc12
    refine lv_tableIn (off := 91) (tgt := 99) hx hb d_A_perform_8 (by rw [hc12]; decide) (by rw [hc12]; decide) (by rw [hc12]; rfl) rfl ?_
    refine lv_aload_n hx hb d_A_perform_99 rfl (lv_at hl 0 rfl) ?_
    obtain ⟨r13, mc13, mw13, mf13, mz13, ib13, ic13, xa13, xg13, xl13, xo13, xs13, xv13, xp13, hg, hf⟩ := bd14_some hf
    refine xci (wr := []) (ctA_read l dC dI cI ha hm qc hi qb qa qg mc mw mf mz ib ic xa xg xl xo xs xv xp r13 mc13 mw13 mf13 mz13 ib13 ic13 xa13 xg13 xl13 xo13 xs13 xv13 xp13 hg) ⟨hx, hb, hml, hown, hts⟩ (cwV (C := R_A) 0 hts (gV wq270 wq272 wq9 wq43 wq273) rfl rfl rfl (by decide +kernel) ⟨Nat.le_of_ble_eq_true rfl, Nat.le_of_ble_eq_true rfl⟩) hK hP hD hS hA [0, 1, 2, 3, 4, 5, 6] [] rfl rfl rfl rfl (by decide) (ci := 0) (q0 := 0) rfl rfl rfl rfl hl.1 rfl (Nat.le_of_ble_eq_true rfl) d_A_perform_100 ⟨Nat.zero_le _, Nat.zero_le _⟩ (fun H locs hP hD hS => ?_)
    have hP : va_P (dC, dI) vwCl [(ha, .inr (0, [.ref hm, .ref hi, .ref qa, .ref qg, .int xl13, .int xo13, .int xs13, .int xv13, .int xp13])), (hm, .inr (1, [.ref qc, .int mw13, .int mf13, .int mz13])), (qc, .inl (cI, 149, .inl mc13)), (hi, .inr (2, [.ref qb, .int ic13])), (qb, .inl (cI, 24, .inl ib13)), (qa, .inl (cI, 16, .inl xa13)), (qg, .inl (cI, 4, .inl xg13))] H := hP
    have hD : va_D A [(ha, .inr (0, [.ref hm, .ref hi, .ref qa, .ref qg, .int xl13, .int xo13, .int xs13, .int xv13, .int xp13])), (hm, .inr (1, [.ref qc, .int mw13, .int mf13, .int mz13])), (qc, .inl (cI, 149, .inl mc13)), (hi, .inr (2, [.ref qb, .int ic13])), (qb, .inl (cI, 24, .inl ib13)), (qa, .inl (cI, 16, .inl xa13)), (qg, .inl (cI, 4, .inl xg13))] := hD
    obtain ⟨e1_, e2_, e3_, e4_, e5_, e6_, e7_, e8_, e9_, e10_, e11_, e12_, e13_, e14_⟩ := lf14 hf
    subst e1_; subst e2_; subst e3_; subst e4_; subst e5_; subst e6_; subst e7_; subst e8_; subst e9_; subst e10_; subst e11_; subst e12_; subst e13_; subst e14_
    have hP9 := hP.sub (ws' := [(ha, .inr (0, [.ref hm, .ref hi, .ref qa, .ref qg, .int xl13, .int xo13, .int xs13, .int xv13, .int xp13])), (hm, .inr (1, [.ref qc, .int mw13, .int mf13, .int mz13])), (qc, .inl (cI, 149, .inl mc13)), (hi, .inr (2, [.ref qb, .int ic13])), (qb, .inl (cI, 24, .inl ib13)), (qa, .inl (cI, 16, .inl xa13)), (qg, .inl (cI, 4, .inl xg13))]) [0, 1, 2, 3, 4, 5, 6] rfl
    have hD9 := hD.sub (ws' := [(ha, .inr (0, [.ref hm, .ref hi, .ref qa, .ref qg, .int xl13, .int xo13, .int xs13, .int xv13, .int xp13])), (hm, .inr (1, [.ref qc, .int mw13, .int mf13, .int mz13])), (qc, .inl (cI, 149, .inl mc13)), (hi, .inr (2, [.ref qb, .int ic13])), (qb, .inl (cI, 24, .inl ib13)), (qa, .inl (cI, 16, .inl xa13)), (qg, .inl (cI, 4, .inl xg13))]) [0, 1, 2, 3, 4, 5, 6] (by decide) rfl
    exact W.iret (v := r13) hx hb hr (fun t ht hW => ⟨⟨r13, (), rfl, rfl, by rw [ht]; exact hP9, va_K.moved hW.alike hK, hD9⟩, hS.F ht⟩) hS.2.2 d_A_perform_103
  have hf := ifn hf hc12
  by_cases hc14 : (smT (nI k : Int32).toNatClampNeg) = 6
  · have hf := ift hf hc14
    refine lv_tableIn (off := 96) (tgt := 104) hx hb d_A_perform_8 (by rw [hc14]; decide) (by rw [hc14]; decide) (by rw [hc14]; rfl) rfl ?_
    refine lv_aload_n hx hb d_A_perform_104 rfl (lv_at hl 0 rfl) ?_
    obtain ⟨r15, mc15, mw15, mf15, mz15, ib15, ic15, xa15, xg15, xl15, xo15, xs15, xv15, xp15, hg, hf⟩ := bd14_some hf
    refine xci (wr := []) (ctA_update l dC dI cI ha hm qc hi qb qa qg mc mw mf mz ib ic xa xg xl xo xs xv xp r15 mc15 mw15 mf15 mz15 ib15 ic15 xa15 xg15 xl15 xo15 xs15 xv15 xp15 hg) ⟨hx, hb, hml, hown, hts⟩ (cwV (C := R_A) 0 hts (gV wq281 wq283 wq10 wq43 wq284) rfl rfl rfl (by decide +kernel) ⟨Nat.le_of_ble_eq_true rfl, Nat.le_of_ble_eq_true rfl⟩) hK hP hD hS hA [0, 1, 2, 3, 4, 5, 6] [] rfl rfl rfl rfl (by decide) (ci := 0) (q0 := 0) rfl rfl rfl rfl hl.1 rfl (Nat.le_of_ble_eq_true rfl) d_A_perform_105 ⟨Nat.zero_le _, Nat.zero_le _⟩ (fun H locs hP hD hS => ?_)
    have hP : va_P (dC, dI) vwCl [(ha, .inr (0, [.ref hm, .ref hi, .ref qa, .ref qg, .int xl15, .int xo15, .int xs15, .int xv15, .int xp15])), (hm, .inr (1, [.ref qc, .int mw15, .int mf15, .int mz15])), (qc, .inl (cI, 149, .inl mc15)), (hi, .inr (2, [.ref qb, .int ic15])), (qb, .inl (cI, 24, .inl ib15)), (qa, .inl (cI, 16, .inl xa15)), (qg, .inl (cI, 4, .inl xg15))] H := hP
    have hD : va_D A [(ha, .inr (0, [.ref hm, .ref hi, .ref qa, .ref qg, .int xl15, .int xo15, .int xs15, .int xv15, .int xp15])), (hm, .inr (1, [.ref qc, .int mw15, .int mf15, .int mz15])), (qc, .inl (cI, 149, .inl mc15)), (hi, .inr (2, [.ref qb, .int ic15])), (qb, .inl (cI, 24, .inl ib15)), (qa, .inl (cI, 16, .inl xa15)), (qg, .inl (cI, 4, .inl xg15))] := hD
    obtain ⟨e1_, e2_, e3_, e4_, e5_, e6_, e7_, e8_, e9_, e10_, e11_, e12_, e13_, e14_⟩ := lf14 hf
    subst e1_; subst e2_; subst e3_; subst e4_; subst e5_; subst e6_; subst e7_; subst e8_; subst e9_; subst e10_; subst e11_; subst e12_; subst e13_; subst e14_
    have hP9 := hP.sub (ws' := [(ha, .inr (0, [.ref hm, .ref hi, .ref qa, .ref qg, .int xl15, .int xo15, .int xs15, .int xv15, .int xp15])), (hm, .inr (1, [.ref qc, .int mw15, .int mf15, .int mz15])), (qc, .inl (cI, 149, .inl mc15)), (hi, .inr (2, [.ref qb, .int ic15])), (qb, .inl (cI, 24, .inl ib15)), (qa, .inl (cI, 16, .inl xa15)), (qg, .inl (cI, 4, .inl xg15))]) [0, 1, 2, 3, 4, 5, 6] rfl
    have hD9 := hD.sub (ws' := [(ha, .inr (0, [.ref hm, .ref hi, .ref qa, .ref qg, .int xl15, .int xo15, .int xs15, .int xv15, .int xp15])), (hm, .inr (1, [.ref qc, .int mw15, .int mf15, .int mz15])), (qc, .inl (cI, 149, .inl mc15)), (hi, .inr (2, [.ref qb, .int ic15])), (qb, .inl (cI, 24, .inl ib15)), (qa, .inl (cI, 16, .inl xa15)), (qg, .inl (cI, 4, .inl xg15))]) [0, 1, 2, 3, 4, 5, 6] (by decide) rfl
    exact W.iret (v := r15) hx hb hr (fun t ht hW => ⟨⟨r15, (), rfl, rfl, by rw [ht]; exact hP9, va_K.moved hW.alike hK, hD9⟩, hS.F ht⟩) hS.2.2 d_A_perform_108
  have hf := ifn hf hc14
  by_cases hc16 : (smT (nI k : Int32).toNatClampNeg) = 7
  · have hf := ift hf hc16
    refine lv_tableIn (off := 101) (tgt := 109) hx hb d_A_perform_8 (by rw [hc16]; decide) (by rw [hc16]; decide) (by rw [hc16]; rfl) rfl ?_
    refine lv_aload_n hx hb d_A_perform_109 rfl (lv_at hl 0 rfl) ?_
    obtain ⟨r17, mc17, mw17, mf17, mz17, ib17, ic17, xa17, xg17, xl17, xo17, xs17, xv17, xp17, hg, hf⟩ := bd14_some hf
    refine xci (wr := []) (ctA_begin l dC dI cI ha hm qc hi qb qa qg mc mw mf mz ib ic xa xg xl xo xs xv xp r17 mc17 mw17 mf17 mz17 ib17 ic17 xa17 xg17 xl17 xo17 xs17 xv17 xp17 hg) ⟨hx, hb, hml, hown, hts⟩ (cwV (C := R_A) 0 hts (gV wq285 wq287 wq11 wq43 wq288) rfl rfl rfl (by decide +kernel) ⟨Nat.le_of_ble_eq_true rfl, Nat.le_of_ble_eq_true rfl⟩) hK hP hD hS hA [0, 1, 2, 3, 4, 5, 6] [] rfl rfl rfl rfl (by decide) (ci := 0) (q0 := 0) rfl rfl rfl rfl hl.1 rfl (Nat.le_of_ble_eq_true rfl) d_A_perform_110 ⟨Nat.zero_le _, Nat.zero_le _⟩ (fun H locs hP hD hS => ?_)
    have hP : va_P (dC, dI) vwCl [(ha, .inr (0, [.ref hm, .ref hi, .ref qa, .ref qg, .int xl17, .int xo17, .int xs17, .int xv17, .int xp17])), (hm, .inr (1, [.ref qc, .int mw17, .int mf17, .int mz17])), (qc, .inl (cI, 149, .inl mc17)), (hi, .inr (2, [.ref qb, .int ic17])), (qb, .inl (cI, 24, .inl ib17)), (qa, .inl (cI, 16, .inl xa17)), (qg, .inl (cI, 4, .inl xg17))] H := hP
    have hD : va_D A [(ha, .inr (0, [.ref hm, .ref hi, .ref qa, .ref qg, .int xl17, .int xo17, .int xs17, .int xv17, .int xp17])), (hm, .inr (1, [.ref qc, .int mw17, .int mf17, .int mz17])), (qc, .inl (cI, 149, .inl mc17)), (hi, .inr (2, [.ref qb, .int ic17])), (qb, .inl (cI, 24, .inl ib17)), (qa, .inl (cI, 16, .inl xa17)), (qg, .inl (cI, 4, .inl xg17))] := hD
    obtain ⟨e1_, e2_, e3_, e4_, e5_, e6_, e7_, e8_, e9_, e10_, e11_, e12_, e13_, e14_⟩ := lf14 hf
    subst e1_; subst e2_; subst e3_; subst e4_; subst e5_; subst e6_; subst e7_; subst e8_; subst e9_; subst e10_; subst e11_; subst e12_; subst e13_; subst e14_
    have hP9 := hP.sub (ws' := [(ha, .inr (0, [.ref hm, .ref hi, .ref qa, .ref qg, .int xl17, .int xo17, .int xs17, .int xv17, .int xp17])), (hm, .inr (1, [.ref qc, .int mw17, .int mf17, .int mz17])), (qc, .inl (cI, 149, .inl mc17)), (hi, .inr (2, [.ref qb, .int ic17])), (qb, .inl (cI, 24, .inl ib17)), (qa, .inl (cI, 16, .inl xa17)), (qg, .inl (cI, 4, .inl xg17))]) [0, 1, 2, 3, 4, 5, 6] rfl
    have hD9 := hD.sub (ws' := [(ha, .inr (0, [.ref hm, .ref hi, .ref qa, .ref qg, .int xl17, .int xo17, .int xs17, .int xv17, .int xp17])), (hm, .inr (1, [.ref qc, .int mw17, .int mf17, .int mz17])), (qc, .inl (cI, 149, .inl mc17)), (hi, .inr (2, [.ref qb, .int ic17])), (qb, .inl (cI, 24, .inl ib17)), (qa, .inl (cI, 16, .inl xa17)), (qg, .inl (cI, 4, .inl xg17))]) [0, 1, 2, 3, 4, 5, 6] (by decide) rfl
    exact W.iret (v := r17) hx hb hr (fun t ht hW => ⟨⟨r17, (), rfl, rfl, by rw [ht]; exact hP9, va_K.moved hW.alike hK, hD9⟩, hS.F ht⟩) hS.2.2 d_A_perform_113
  have hf := ifn hf hc16
  by_cases hc18 : (smT (nI k : Int32).toNatClampNeg) = 8
  · have hf := ift hf hc18
    refine lv_tableIn (off := 106) (tgt := 114) hx hb d_A_perform_8 (by rw [hc18]; decide) (by rw [hc18]; decide) (by rw [hc18]; rfl) rfl ?_
    refine lv_aload_n hx hb d_A_perform_114 rfl (lv_at hl 0 rfl) ?_
    obtain ⟨r19, mc19, mw19, mf19, mz19, ib19, ic19, xa19, xg19, xl19, xo19, xs19, xv19, xp19, hg, hf⟩ := bd14_some hf
    refine xci (wr := []) (ctA_end l dC dI cI ha hm qc hi qb qa qg mc mw mf mz ib ic xa xg xl xo xs xv xp r19 mc19 mw19 mf19 mz19 ib19 ic19 xa19 xg19 xl19 xo19 xs19 xv19 xp19 hg) ⟨hx, hb, hml, hown, hts⟩ (cwV (C := R_A) 0 hts (gV wq289 wq291 wq12 wq43 wq292) rfl rfl rfl (by decide +kernel) ⟨Nat.le_of_ble_eq_true rfl, Nat.le_of_ble_eq_true rfl⟩) hK hP hD hS hA [0, 1, 2, 3, 4, 5, 6] [] rfl rfl rfl rfl (by decide) (ci := 0) (q0 := 0) rfl rfl rfl rfl hl.1 rfl (Nat.le_of_ble_eq_true rfl) d_A_perform_115 ⟨Nat.zero_le _, Nat.zero_le _⟩ (fun H locs hP hD hS => ?_)
    have hP : va_P (dC, dI) vwCl [(ha, .inr (0, [.ref hm, .ref hi, .ref qa, .ref qg, .int xl19, .int xo19, .int xs19, .int xv19, .int xp19])), (hm, .inr (1, [.ref qc, .int mw19, .int mf19, .int mz19])), (qc, .inl (cI, 149, .inl mc19)), (hi, .inr (2, [.ref qb, .int ic19])), (qb, .inl (cI, 24, .inl ib19)), (qa, .inl (cI, 16, .inl xa19)), (qg, .inl (cI, 4, .inl xg19))] H := hP
    have hD : va_D A [(ha, .inr (0, [.ref hm, .ref hi, .ref qa, .ref qg, .int xl19, .int xo19, .int xs19, .int xv19, .int xp19])), (hm, .inr (1, [.ref qc, .int mw19, .int mf19, .int mz19])), (qc, .inl (cI, 149, .inl mc19)), (hi, .inr (2, [.ref qb, .int ic19])), (qb, .inl (cI, 24, .inl ib19)), (qa, .inl (cI, 16, .inl xa19)), (qg, .inl (cI, 4, .inl xg19))] := hD
    obtain ⟨e1_, e2_, e3_, e4_, e5_, e6_, e7_, e8_, e9_, e10_, e11_, e12_, e13_, e14_⟩ := lf14 hf
    subst e1_; subst e2_; subst e3_; subst e4_; subst e5_; subst e6_; subst e7_; subst e8_; subst e9_; subst e10_; subst e11_; subst e12_; subst e13_; subst e14_
    have hP9 := hP.sub (ws' := [(ha, .inr (0, [.ref hm, .ref hi, .ref qa, .ref qg, .int xl19, .int xo19, .int xs19, .int xv19, .int xp19])), (hm, .inr (1, [.ref qc, .int mw19, .int mf19, .int mz19])), (qc, .inl (cI, 149, .inl mc19)), (hi, .inr (2, [.ref qb, .int ic19])), (qb, .inl (cI, 24, .inl ib19)), (qa, .inl (cI, 16, .inl xa19)), (qg, .inl (cI, 4, .inl xg19))]) [0, 1, 2, 3, 4, 5, 6] rfl
    have hD9 := hD.sub (ws' := [(ha, .inr (0, [.ref hm, .ref hi, .ref qa, .ref qg, .int xl19, .int xo19, .int xs19, .int xv19, .int xp19])), (hm, .inr (1, [.ref qc, .int mw19, .int mf19, .int mz19])), (qc, .inl (cI, 149, .inl mc19)), (hi, .inr (2, [.ref qb, .int ic19])), (qb, .inl (cI, 24, .inl ib19)), (qa, .inl (cI, 16, .inl xa19)), (qg, .inl (cI, 4, .inl xg19))]) [0, 1, 2, 3, 4, 5, 6] (by decide) rfl
    exact W.iret (v := r19) hx hb hr (fun t ht hW => ⟨⟨r19, (), rfl, rfl, by rw [ht]; exact hP9, va_K.moved hW.alike hK, hD9⟩, hS.F ht⟩) hS.2.2 d_A_perform_118
  have hf := ifn hf hc18
  by_cases hc20 : (smT (nI k : Int32).toNatClampNeg) = 9
  · have hf := ift hf hc20
    refine lv_tableIn (off := 111) (tgt := 119) hx hb d_A_perform_8 (by rw [hc20]; decide) (by rw [hc20]; decide) (by rw [hc20]; rfl) rfl ?_
    refine lv_aload_n hx hb d_A_perform_119 rfl (lv_at hl 0 rfl) ?_
    obtain ⟨r21, mc21, mw21, mf21, mz21, ib21, ic21, xa21, xg21, xl21, xo21, xs21, xv21, xp21, hg, hf⟩ := bd14_some hf
    refine xci (wr := []) (ctA_grant l dC dI cI ha hm qc hi qb qa qg mc mw mf mz ib ic xa xg xl xo xs xv xp r21 mc21 mw21 mf21 mz21 ib21 ic21 xa21 xg21 xl21 xo21 xs21 xv21 xp21 hg) ⟨hx, hb, hml, hown, hts⟩ (cwV (C := R_A) 0 hts (gV wq293 wq295 wq13 wq43 wq296) rfl rfl rfl (by decide +kernel) ⟨Nat.le_of_ble_eq_true rfl, Nat.le_of_ble_eq_true rfl⟩) hK hP hD hS hA [0, 1, 2, 3, 4, 5, 6] [] rfl rfl rfl rfl (by decide) (ci := 0) (q0 := 0) rfl rfl rfl rfl hl.1 rfl (Nat.le_of_ble_eq_true rfl) d_A_perform_120 ⟨Nat.zero_le _, Nat.zero_le _⟩ (fun H locs hP hD hS => ?_)
    have hP : va_P (dC, dI) vwCl [(ha, .inr (0, [.ref hm, .ref hi, .ref qa, .ref qg, .int xl21, .int xo21, .int xs21, .int xv21, .int xp21])), (hm, .inr (1, [.ref qc, .int mw21, .int mf21, .int mz21])), (qc, .inl (cI, 149, .inl mc21)), (hi, .inr (2, [.ref qb, .int ic21])), (qb, .inl (cI, 24, .inl ib21)), (qa, .inl (cI, 16, .inl xa21)), (qg, .inl (cI, 4, .inl xg21))] H := hP
    have hD : va_D A [(ha, .inr (0, [.ref hm, .ref hi, .ref qa, .ref qg, .int xl21, .int xo21, .int xs21, .int xv21, .int xp21])), (hm, .inr (1, [.ref qc, .int mw21, .int mf21, .int mz21])), (qc, .inl (cI, 149, .inl mc21)), (hi, .inr (2, [.ref qb, .int ic21])), (qb, .inl (cI, 24, .inl ib21)), (qa, .inl (cI, 16, .inl xa21)), (qg, .inl (cI, 4, .inl xg21))] := hD
    obtain ⟨e1_, e2_, e3_, e4_, e5_, e6_, e7_, e8_, e9_, e10_, e11_, e12_, e13_, e14_⟩ := lf14 hf
    subst e1_; subst e2_; subst e3_; subst e4_; subst e5_; subst e6_; subst e7_; subst e8_; subst e9_; subst e10_; subst e11_; subst e12_; subst e13_; subst e14_
    have hP9 := hP.sub (ws' := [(ha, .inr (0, [.ref hm, .ref hi, .ref qa, .ref qg, .int xl21, .int xo21, .int xs21, .int xv21, .int xp21])), (hm, .inr (1, [.ref qc, .int mw21, .int mf21, .int mz21])), (qc, .inl (cI, 149, .inl mc21)), (hi, .inr (2, [.ref qb, .int ic21])), (qb, .inl (cI, 24, .inl ib21)), (qa, .inl (cI, 16, .inl xa21)), (qg, .inl (cI, 4, .inl xg21))]) [0, 1, 2, 3, 4, 5, 6] rfl
    have hD9 := hD.sub (ws' := [(ha, .inr (0, [.ref hm, .ref hi, .ref qa, .ref qg, .int xl21, .int xo21, .int xs21, .int xv21, .int xp21])), (hm, .inr (1, [.ref qc, .int mw21, .int mf21, .int mz21])), (qc, .inl (cI, 149, .inl mc21)), (hi, .inr (2, [.ref qb, .int ic21])), (qb, .inl (cI, 24, .inl ib21)), (qa, .inl (cI, 16, .inl xa21)), (qg, .inl (cI, 4, .inl xg21))]) [0, 1, 2, 3, 4, 5, 6] (by decide) rfl
    exact W.iret (v := r21) hx hb hr (fun t ht hW => ⟨⟨r21, (), rfl, rfl, by rw [ht]; exact hP9, va_K.moved hW.alike hK, hD9⟩, hS.F ht⟩) hS.2.2 d_A_perform_123
  have hf := ifn hf hc20
  by_cases hc22 : (smT (nI k : Int32).toNatClampNeg) = 10
  · have hf := ift hf hc22
    refine lv_tableIn (off := 116) (tgt := 124) hx hb d_A_perform_8 (by rw [hc22]; decide) (by rw [hc22]; decide) (by rw [hc22]; rfl) rfl ?_
    refine lv_aload_n hx hb d_A_perform_124 rfl (lv_at hl 0 rfl) ?_
    obtain ⟨r23, mc23, mw23, mf23, mz23, ib23, ic23, xa23, xg23, xl23, xo23, xs23, xv23, xp23, hg, hf⟩ := bd14_some hf
    refine xci (wr := []) (ctA_revoke l dC dI cI ha hm qc hi qb qa qg mc mw mf mz ib ic xa xg xl xo xs xv xp r23 mc23 mw23 mf23 mz23 ib23 ic23 xa23 xg23 xl23 xo23 xs23 xv23 xp23 hg) ⟨hx, hb, hml, hown, hts⟩ (cwV (C := R_A) 0 hts (gV wq308 wq310 wq16 wq43 wq311) rfl rfl rfl (by decide +kernel) ⟨Nat.le_of_ble_eq_true rfl, Nat.le_of_ble_eq_true rfl⟩) hK hP hD hS hA [0, 1, 2, 3, 4, 5, 6] [] rfl rfl rfl rfl (by decide) (ci := 0) (q0 := 0) rfl rfl rfl rfl hl.1 rfl (Nat.le_of_ble_eq_true rfl) d_A_perform_125 ⟨Nat.zero_le _, Nat.zero_le _⟩ (fun H locs hP hD hS => ?_)
    have hP : va_P (dC, dI) vwCl [(ha, .inr (0, [.ref hm, .ref hi, .ref qa, .ref qg, .int xl23, .int xo23, .int xs23, .int xv23, .int xp23])), (hm, .inr (1, [.ref qc, .int mw23, .int mf23, .int mz23])), (qc, .inl (cI, 149, .inl mc23)), (hi, .inr (2, [.ref qb, .int ic23])), (qb, .inl (cI, 24, .inl ib23)), (qa, .inl (cI, 16, .inl xa23)), (qg, .inl (cI, 4, .inl xg23))] H := hP
    have hD : va_D A [(ha, .inr (0, [.ref hm, .ref hi, .ref qa, .ref qg, .int xl23, .int xo23, .int xs23, .int xv23, .int xp23])), (hm, .inr (1, [.ref qc, .int mw23, .int mf23, .int mz23])), (qc, .inl (cI, 149, .inl mc23)), (hi, .inr (2, [.ref qb, .int ic23])), (qb, .inl (cI, 24, .inl ib23)), (qa, .inl (cI, 16, .inl xa23)), (qg, .inl (cI, 4, .inl xg23))] := hD
    obtain ⟨e1_, e2_, e3_, e4_, e5_, e6_, e7_, e8_, e9_, e10_, e11_, e12_, e13_, e14_⟩ := lf14 hf
    subst e1_; subst e2_; subst e3_; subst e4_; subst e5_; subst e6_; subst e7_; subst e8_; subst e9_; subst e10_; subst e11_; subst e12_; subst e13_; subst e14_
    have hP9 := hP.sub (ws' := [(ha, .inr (0, [.ref hm, .ref hi, .ref qa, .ref qg, .int xl23, .int xo23, .int xs23, .int xv23, .int xp23])), (hm, .inr (1, [.ref qc, .int mw23, .int mf23, .int mz23])), (qc, .inl (cI, 149, .inl mc23)), (hi, .inr (2, [.ref qb, .int ic23])), (qb, .inl (cI, 24, .inl ib23)), (qa, .inl (cI, 16, .inl xa23)), (qg, .inl (cI, 4, .inl xg23))]) [0, 1, 2, 3, 4, 5, 6] rfl
    have hD9 := hD.sub (ws' := [(ha, .inr (0, [.ref hm, .ref hi, .ref qa, .ref qg, .int xl23, .int xo23, .int xs23, .int xv23, .int xp23])), (hm, .inr (1, [.ref qc, .int mw23, .int mf23, .int mz23])), (qc, .inl (cI, 149, .inl mc23)), (hi, .inr (2, [.ref qb, .int ic23])), (qb, .inl (cI, 24, .inl ib23)), (qa, .inl (cI, 16, .inl xa23)), (qg, .inl (cI, 4, .inl xg23))]) [0, 1, 2, 3, 4, 5, 6] (by decide) rfl
    exact W.iret (v := r23) hx hb hr (fun t ht hW => ⟨⟨r23, (), rfl, rfl, by rw [ht]; exact hP9, va_K.moved hW.alike hK, hD9⟩, hS.F ht⟩) hS.2.2 d_A_perform_128
  have hf := ifn hf hc22
  by_cases hc24 : (smT (nI k : Int32).toNatClampNeg) = 11
  · have hf := ift hf hc24
    refine lv_tableIn (off := 121) (tgt := 129) hx hb d_A_perform_8 (by rw [hc24]; decide) (by rw [hc24]; decide) (by rw [hc24]; rfl) rfl ?_
    refine lv_aload_n hx hb d_A_perform_129 rfl (lv_at hl 0 rfl) ?_
    obtain ⟨r25, mc25, mw25, mf25, mz25, ib25, ic25, xa25, xg25, xl25, xo25, xs25, xv25, xp25, hg, hf⟩ := bd14_some hf
    refine xci (wr := []) (ctA_readShared l dC dI cI ha hm qc hi qb qa qg mc mw mf mz ib ic xa xg xl xo xs xv xp r25 mc25 mw25 mf25 mz25 ib25 ic25 xa25 xg25 xl25 xo25 xs25 xv25 xp25 hg) ⟨hx, hb, hml, hown, hts⟩ (cwV (C := R_A) 0 hts (gV wq312 wq314 wq17 wq43 wq315) rfl rfl rfl (by decide +kernel) ⟨Nat.le_of_ble_eq_true rfl, Nat.le_of_ble_eq_true rfl⟩) hK hP hD hS hA [0, 1, 2, 3, 4, 5, 6] [] rfl rfl rfl rfl (by decide) (ci := 0) (q0 := 0) rfl rfl rfl rfl hl.1 rfl (Nat.le_of_ble_eq_true rfl) d_A_perform_130 ⟨Nat.zero_le _, Nat.zero_le _⟩ (fun H locs hP hD hS => ?_)
    have hP : va_P (dC, dI) vwCl [(ha, .inr (0, [.ref hm, .ref hi, .ref qa, .ref qg, .int xl25, .int xo25, .int xs25, .int xv25, .int xp25])), (hm, .inr (1, [.ref qc, .int mw25, .int mf25, .int mz25])), (qc, .inl (cI, 149, .inl mc25)), (hi, .inr (2, [.ref qb, .int ic25])), (qb, .inl (cI, 24, .inl ib25)), (qa, .inl (cI, 16, .inl xa25)), (qg, .inl (cI, 4, .inl xg25))] H := hP
    have hD : va_D A [(ha, .inr (0, [.ref hm, .ref hi, .ref qa, .ref qg, .int xl25, .int xo25, .int xs25, .int xv25, .int xp25])), (hm, .inr (1, [.ref qc, .int mw25, .int mf25, .int mz25])), (qc, .inl (cI, 149, .inl mc25)), (hi, .inr (2, [.ref qb, .int ic25])), (qb, .inl (cI, 24, .inl ib25)), (qa, .inl (cI, 16, .inl xa25)), (qg, .inl (cI, 4, .inl xg25))] := hD
    obtain ⟨e1_, e2_, e3_, e4_, e5_, e6_, e7_, e8_, e9_, e10_, e11_, e12_, e13_, e14_⟩ := lf14 hf
    subst e1_; subst e2_; subst e3_; subst e4_; subst e5_; subst e6_; subst e7_; subst e8_; subst e9_; subst e10_; subst e11_; subst e12_; subst e13_; subst e14_
    have hP9 := hP.sub (ws' := [(ha, .inr (0, [.ref hm, .ref hi, .ref qa, .ref qg, .int xl25, .int xo25, .int xs25, .int xv25, .int xp25])), (hm, .inr (1, [.ref qc, .int mw25, .int mf25, .int mz25])), (qc, .inl (cI, 149, .inl mc25)), (hi, .inr (2, [.ref qb, .int ic25])), (qb, .inl (cI, 24, .inl ib25)), (qa, .inl (cI, 16, .inl xa25)), (qg, .inl (cI, 4, .inl xg25))]) [0, 1, 2, 3, 4, 5, 6] rfl
    have hD9 := hD.sub (ws' := [(ha, .inr (0, [.ref hm, .ref hi, .ref qa, .ref qg, .int xl25, .int xo25, .int xs25, .int xv25, .int xp25])), (hm, .inr (1, [.ref qc, .int mw25, .int mf25, .int mz25])), (qc, .inl (cI, 149, .inl mc25)), (hi, .inr (2, [.ref qb, .int ic25])), (qb, .inl (cI, 24, .inl ib25)), (qa, .inl (cI, 16, .inl xa25)), (qg, .inl (cI, 4, .inl xg25))]) [0, 1, 2, 3, 4, 5, 6] (by decide) rfl
    exact W.iret (v := r25) hx hb hr (fun t ht hW => ⟨⟨r25, (), rfl, rfl, by rw [ht]; exact hP9, va_K.moved hW.alike hK, hD9⟩, hS.F ht⟩) hS.2.2 d_A_perform_133
  have hf := ifn hf hc24
  by_cases hc26 : (smT (nI k : Int32).toNatClampNeg) = 12
  · have hf := ift hf hc26
    refine lv_tableIn (off := 126) (tgt := 134) hx hb d_A_perform_8 (by rw [hc26]; decide) (by rw [hc26]; decide) (by rw [hc26]; rfl) rfl ?_
    refine lv_aload_n hx hb d_A_perform_134 rfl (lv_at hl 0 rfl) ?_
    obtain ⟨r27, mc27, mw27, mf27, mz27, ib27, ic27, xa27, xg27, xl27, xo27, xs27, xv27, xp27, hg, hf⟩ := bd14_some hf
    refine xci (wr := []) (ctA_updateShared l dC dI cI ha hm qc hi qb qa qg mc mw mf mz ib ic xa xg xl xo xs xv xp r27 mc27 mw27 mf27 mz27 ib27 ic27 xa27 xg27 xl27 xo27 xs27 xv27 xp27 hg) ⟨hx, hb, hml, hown, hts⟩ (cwV (C := R_A) 0 hts (gV wq324 wq326 wq20 wq43 wq327) rfl rfl rfl (by decide +kernel) ⟨Nat.le_of_ble_eq_true rfl, Nat.le_of_ble_eq_true rfl⟩) hK hP hD hS hA [0, 1, 2, 3, 4, 5, 6] [] rfl rfl rfl rfl (by decide) (ci := 0) (q0 := 0) rfl rfl rfl rfl hl.1 rfl (Nat.le_of_ble_eq_true rfl) d_A_perform_135 ⟨Nat.zero_le _, Nat.zero_le _⟩ (fun H locs hP hD hS => ?_)
    have hP : va_P (dC, dI) vwCl [(ha, .inr (0, [.ref hm, .ref hi, .ref qa, .ref qg, .int xl27, .int xo27, .int xs27, .int xv27, .int xp27])), (hm, .inr (1, [.ref qc, .int mw27, .int mf27, .int mz27])), (qc, .inl (cI, 149, .inl mc27)), (hi, .inr (2, [.ref qb, .int ic27])), (qb, .inl (cI, 24, .inl ib27)), (qa, .inl (cI, 16, .inl xa27)), (qg, .inl (cI, 4, .inl xg27))] H := hP
    have hD : va_D A [(ha, .inr (0, [.ref hm, .ref hi, .ref qa, .ref qg, .int xl27, .int xo27, .int xs27, .int xv27, .int xp27])), (hm, .inr (1, [.ref qc, .int mw27, .int mf27, .int mz27])), (qc, .inl (cI, 149, .inl mc27)), (hi, .inr (2, [.ref qb, .int ic27])), (qb, .inl (cI, 24, .inl ib27)), (qa, .inl (cI, 16, .inl xa27)), (qg, .inl (cI, 4, .inl xg27))] := hD
    obtain ⟨e1_, e2_, e3_, e4_, e5_, e6_, e7_, e8_, e9_, e10_, e11_, e12_, e13_, e14_⟩ := lf14 hf
    subst e1_; subst e2_; subst e3_; subst e4_; subst e5_; subst e6_; subst e7_; subst e8_; subst e9_; subst e10_; subst e11_; subst e12_; subst e13_; subst e14_
    have hP9 := hP.sub (ws' := [(ha, .inr (0, [.ref hm, .ref hi, .ref qa, .ref qg, .int xl27, .int xo27, .int xs27, .int xv27, .int xp27])), (hm, .inr (1, [.ref qc, .int mw27, .int mf27, .int mz27])), (qc, .inl (cI, 149, .inl mc27)), (hi, .inr (2, [.ref qb, .int ic27])), (qb, .inl (cI, 24, .inl ib27)), (qa, .inl (cI, 16, .inl xa27)), (qg, .inl (cI, 4, .inl xg27))]) [0, 1, 2, 3, 4, 5, 6] rfl
    have hD9 := hD.sub (ws' := [(ha, .inr (0, [.ref hm, .ref hi, .ref qa, .ref qg, .int xl27, .int xo27, .int xs27, .int xv27, .int xp27])), (hm, .inr (1, [.ref qc, .int mw27, .int mf27, .int mz27])), (qc, .inl (cI, 149, .inl mc27)), (hi, .inr (2, [.ref qb, .int ic27])), (qb, .inl (cI, 24, .inl ib27)), (qa, .inl (cI, 16, .inl xa27)), (qg, .inl (cI, 4, .inl xg27))]) [0, 1, 2, 3, 4, 5, 6] (by decide) rfl
    exact W.iret (v := r27) hx hb hr (fun t ht hW => ⟨⟨r27, (), rfl, rfl, by rw [ht]; exact hP9, va_K.moved hW.alike hK, hD9⟩, hS.F ht⟩) hS.2.2 d_A_perform_138
  have hf := ifn hf hc26
  have qhc3 := xne (k := 1) 1 rfl hc3
  have qhc5 := xne (k := 2) 2 rfl hc5
  have qhc7 := xne (k := 3) 3 rfl hc7
  have qhc10 := xne (k := 4) 4 rfl hc10
  have qhc12 := xne (k := 5) 5 rfl hc12
  have qhc14 := xne (k := 6) 6 rfl hc14
  have qhc16 := xne (k := 7) 7 rfl hc16
  have qhc18 := xne (k := 8) 8 rfl hc18
  have qhc20 := xne (k := 9) 9 rfl hc20
  have qhc22 := xne (k := 10) 10 rfl hc22
  have qhc24 := xne (k := 11) 11 rfl hc24
  have qhc26 := xne (k := 12) 12 rfl hc26
  refine lv_tableOut (tgt := 139) hx hb d_A_perform_8 (by omega) rfl ?_
  refine lv_sipush (v := 27904) hx hb d_A_perform_139 (by decide) ?_
  obtain ⟨e1_, e2_, e3_, e4_, e5_, e6_, e7_, e8_, e9_, e10_, e11_, e12_, e13_, e14_⟩ := lf14 hf
  subst e1_; subst e2_; subst e3_; subst e4_; subst e5_; subst e6_; subst e7_; subst e8_; subst e9_; subst e10_; subst e11_; subst e12_; subst e13_; subst e14_
  have hP9 := hP.sub (ws' := [(ha, .inr (0, [.ref hm, .ref hi, .ref qa, .ref qg, .int xl, .int xo, .int xs, .int xv, .int xp])), (hm, .inr (1, [.ref qc, .int mw, .int mf, .int mz])), (qc, .inl (cI, 149, .inl mc)), (hi, .inr (2, [.ref qb, .int ic])), (qb, .inl (cI, 24, .inl ib)), (qa, .inl (cI, 16, .inl xa)), (qg, .inl (cI, 4, .inl xg))]) [0, 1, 2, 3, 4, 5, 6] rfl
  have hD9 := hD.sub (ws' := [(ha, .inr (0, [.ref hm, .ref hi, .ref qa, .ref qg, .int xl, .int xo, .int xs, .int xv, .int xp])), (hm, .inr (1, [.ref qc, .int mw, .int mf, .int mz])), (qc, .inl (cI, 149, .inl mc)), (hi, .inr (2, [.ref qb, .int ic])), (qb, .inl (cI, 24, .inl ib)), (qa, .inl (cI, 16, .inl xa)), (qg, .inl (cI, 4, .inl xg))]) [0, 1, 2, 3, 4, 5, 6] (by decide) rfl
  exact W.iret (v := 27904) hx hb hr (fun t ht hW => ⟨⟨27904, (), rfl, rfl, by rw [ht]; exact hP9, va_K.moved hW.alike hK, hD9⟩, hS.F ht⟩) hS.2.2 d_A_perform_142
theorem d_A_run_0 : decode b_A_run 0 = .ok (.aload_n 0, 1) := by decide +kernel
theorem d_A_run_1 : decode b_A_run 1 = .ok (.getfield 34, 3) := by decide +kernel
theorem d_A_run_4 : decode b_A_run 4 = .ok (.ifCond .ne 5, 3) := by decide +kernel
theorem d_A_run_7 : decode b_A_run 7 = .ok (.iconst (-1), 1) := by decide +kernel
theorem d_A_run_8 : decode b_A_run 8 = .ok (.ireturn, 1) := by decide +kernel
theorem d_A_run_9 : decode b_A_run 9 = .ok (.aload_n 0, 1) := by decide +kernel
theorem d_A_run_10 : decode b_A_run 10 = .ok (.iconst 0, 1) := by decide +kernel
theorem d_A_run_11 : decode b_A_run 11 = .ok (.putfield 42, 3) := by decide +kernel
theorem d_A_run_14 : decode b_A_run 14 = .ok (.aload_n 0, 1) := by decide +kernel
theorem d_A_run_15 : decode b_A_run 15 = .ok (.getfield 19, 3) := by decide +kernel
theorem d_A_run_18 : decode b_A_run 18 = .ok (.invokevirtual 45, 3) := by decide +kernel
theorem d_A_run_21 : decode b_A_run 21 = .ok (.invokestatic 49, 3) := by decide +kernel
theorem d_A_run_24 : decode b_A_run 24 = .ok (.astore_n 1, 1) := by decide +kernel
theorem d_A_run_25 : decode b_A_run 25 = .ok (.aload_n 0, 1) := by decide +kernel
theorem d_A_run_26 : decode b_A_run 26 = .ok (.aload_n 1, 1) := by decide +kernel
theorem d_A_run_27 : decode b_A_run 27 = .ok (.invokevirtual 55, 3) := by decide +kernel
theorem d_A_run_30 : decode b_A_run 30 = .ok (.istore_n 2, 1) := by decide +kernel
theorem d_A_run_31 : decode b_A_run 31 = .ok (.iload_n 2, 1) := by decide +kernel
theorem d_A_run_32 : decode b_A_run 32 = .ok (.ldc 59, 2) := by decide +kernel
theorem d_A_run_34 : decode b_A_run 34 = .ok (.if_icmp .ne 9, 3) := by decide +kernel
theorem d_A_run_37 : decode b_A_run 37 = .ok (.aload_n 0, 1) := by decide +kernel
theorem d_A_run_38 : decode b_A_run 38 = .ok (.aload_n 1, 1) := by decide +kernel
theorem d_A_run_39 : decode b_A_run 39 = .ok (.invokevirtual 60, 3) := by decide +kernel
theorem d_A_run_42 : decode b_A_run 42 = .ok (.istore_n 2, 1) := by decide +kernel
theorem d_A_run_43 : decode b_A_run 43 = .ok (.aload_n 0, 1) := by decide +kernel
theorem d_A_run_44 : decode b_A_run 44 = .ok (.getfield 19, 3) := by decide +kernel
theorem d_A_run_47 : decode b_A_run 47 = .ok (.invokevirtual 63, 3) := by decide +kernel
theorem d_A_run_50 : decode b_A_run 50 = .ok (.iload_n 2, 1) := by decide +kernel
theorem d_A_run_51 : decode b_A_run 51 = .ok (.iconst (-1), 1) := by decide +kernel
theorem d_A_run_52 : decode b_A_run 52 = .ok (.if_icmp .ne 7, 3) := by decide +kernel
theorem d_A_run_55 : decode b_A_run 55 = .ok (.aload_n 0, 1) := by decide +kernel
theorem d_A_run_56 : decode b_A_run 56 = .ok (.invokevirtual 66, 3) := by decide +kernel
theorem d_A_run_59 : decode b_A_run 59 = .ok (.iload_n 2, 1) := by decide +kernel
theorem d_A_run_60 : decode b_A_run 60 = .ok (.ireturn, 1) := by decide +kernel
def fA_run (σ : StX) : Option (Int32 × StX) := match σ with | (mc, mw, mf, mz, ib, ic, xa, xg, xl, xo, xs, xv, xp) => if xo = 0 then (some ((-1), mc, mw, mf, mz, ib, ic, xa, xg, xl, xo, xs, xv, xp)) else (bd1 (fI_instruction (ib, ic)) fun r2 => bd1 (fE_withCode r2) fun k3 => bd1 (fA_admit (mc, mw, mf, mz, ib, ic, xa, xg, 0, xo, xs, xv, xp) k3) fun r4 => if r4 = 36864 then (bd14 (fA_perform (mc, mw, mf, mz, ib, ic, xa, xg, 0, xo, xs, xv, xp) k3) fun r9 mc9 mw9 mf9 mz9 ib9 ic9 xa9 xg9 xl9 xo9 xs9 xv9 xp9 => bd2 (fI_clear (ib9, ic9)) fun ib10 ic10 => if r9 = (-1) then (bd13 (fA_switchOff (mc9, mw9, mf9, mz9, ib10, ic10, xa9, xg9, xl9, xo9, xs9, xv9, xp9)) fun mc12 mw12 mf12 mz12 ib12 ic12 xa12 xg12 xl12 xo12 xs12 xv12 xp12 => some (r9, mc12, mw12, mf12, mz12, ib12, ic12, xa12, xg12, xl12, xo12, xs12, xv12, xp12)) else (some (r9, mc9, mw9, mf9, mz9, ib10, ic10, xa9, xg9, xl9, xo9, xs9, xv9, xp9))) else (bd2 (fI_clear (ib, ic)) fun ib6 ic6 => if r4 = (-1) then (bd13 (fA_switchOff (mc, mw, mf, mz, ib6, ic6, xa, xg, 0, xo, xs, xv, xp)) fun mc8 mw8 mf8 mz8 ib8 ic8 xa8 xg8 xl8 xo8 xs8 xv8 xp8 => some (r4, mc8, mw8, mf8, mz8, ib8, ic8, xa8, xg8, xl8, xo8, xs8, xv8, xp8)) else (some (r4, mc, mw, mf, mz, ib6, ic6, xa, xg, 0, xo, xs, xv, xp))))
set_option maxHeartbeats 4000000 in
set_option maxRecDepth 100000 in
theorem ctA_run (l : Launch) (dC : Nat → ClassId) (dI : Nat → Nat → Nat) (cI : ClassId) (ha hm qc hi qb qa qg : Nat) (ad : Nat → Nat) (tA tS : Nat) (mc : Nat → Int32) (mw : Int32) (mf : Int32) (mz : Int32) (ib : Nat → Int32) (ic : Int32) (xa : Nat → Int32) (xg : Nat → Int32) (xl : Int32) (xo : Int32) (xs : Int32) (xv : Int32) (xp : Int32) (r : Int32) (mc' : Nat → Int32) (mw' : Int32) (mf' : Int32) (mz' : Int32) (ib' : Nat → Int32) (ic' : Int32) (xa' : Nat → Int32) (xg' : Nat → Int32) (xl' : Int32) (xo' : Int32) (xs' : Int32) (xv' : Int32) (xp' : Int32) (hf : fA_run (mc, mw, mf, mz, ib, ic, xa, xg, xl, xo, xs, xv, xp) = some (r, mc', mw', mf', mz', ib', ic', xa', xg', xl', xo', xs', xv', xp')) : CfI l y_A_run w_A_run ({ frames := 6, cells := 0, slots := 0, locals := 133 }) (dC, dI) [(cI, .int)] ad tA tS [.ref ha] [(ha, .inr (0, [.ref hm, .ref hi, .ref qa, .ref qg, .int xl, .int xo, .int xs, .int xv, .int xp])), (hm, .inr (1, [.ref qc, .int mw, .int mf, .int mz])), (qc, .inl (cI, 149, .inl mc)), (hi, .inr (2, [.ref qb, .int ic])), (qb, .inl (cI, 24, .inl ib)), (qa, .inl (cI, 16, .inl xa)), (qg, .inl (cI, 4, .inl xg))] [(ha, .inr (0, [.ref hm, .ref hi, .ref qa, .ref qg, .int xl', .int xo', .int xs', .int xv', .int xp'])), (hm, .inr (1, [.ref qc, .int mw', .int mf', .int mz'])), (qc, .inl (cI, 149, .inl mc')), (hi, .inr (2, [.ref qb, .int ic'])), (qb, .inl (cI, 24, .inl ib')), (qa, .inl (cI, 16, .inl xa')), (qg, .inl (cI, 4, .inl xg'))] r := by
  intro sz
  refine Met.ofW (cc := b_A_run) (maxL := 3) (ret := some .int) (by decide) rfl ?_
  intro p e s m args below meth c s₁ B hml hv
  obtain ⟨rfl, hsz, hP, hK, hD0, hE⟩ := hv
  have hx := B.exec
  have hb := B.bytes
  have hr := B.returns
  have hts := atoms_spec (ws := w_A_run) B.pre
  have hown : s.vm.findClass R_A = some m.cls := findClass_of_methodNamed B.named
  have hlocks := B.notSynchronized
  subst hsz
  have hD := hD0.self (sz := s.heap.size)
  generalize hAe : va_A [(ha, .inr (0, [.ref hm, .ref hi, .ref qa, .ref qg, .int xl, .int xo, .int xs, .int xv, .int xp])), (hm, .inr (1, [.ref qc, .int mw, .int mf, .int mz])), (qc, .inl (cI, 149, .inl mc)), (hi, .inr (2, [.ref qb, .int ic])), (qb, .inl (cI, 24, .inl ib)), (qa, .inl (cI, 16, .inl xa)), (qg, .inl (cI, 4, .inl xg))] s.heap.size = A at hD hE ⊢
  have hA : ∀ q : Nat, s.heap.size ≤ q → A q := fun q h => by rw [← hAe]; exact Or.inr h
  have hS : va_S A s.heap s.heap [] := va_S.rf
  have hP : va_P (dC, dI) vwCl [(ha, .inr (0, [.ref hm, .ref hi, .ref qa, .ref qg, .int xl, .int xo, .int xs, .int xv, .int xp])), (hm, .inr (1, [.ref qc, .int mw, .int mf, .int mz])), (qc, .inl (cI, 149, .inl mc)), (hi, .inr (2, [.ref qb, .int ic])), (qb, .inl (cI, 24, .inl ib)), (qa, .inl (cI, 16, .inl xa)), (qg, .inl (cI, 4, .inl xg))] s.heap := hP
  have hl := lv_entry ([.ref ha]) (n := 3) (Nat.le_of_ble_eq_true rfl)
  rw [lg_entry_eq]
  generalize (lg_sl ([.ref ha]) ++ List.replicate (3 - (lg_sl ([.ref ha])).length) Slot.unset).toArray = ls at hl ⊢
  have hl : lv_has ls 3 [(0, .ref ha)] := hl
  have inA : ∀ w ∈ u_ws R_A F_A 9, w ∈ w_A_run := fun w h => List.mem_cons_of_mem _ (in_A w h)
  have kc59 := hts _ (List.mem_cons_of_mem _ wq182)
  have kf19 := hts _ (List.mem_cons_of_mem _ wq92)
  have kf34 := hts _ (List.mem_cons_of_mem _ wq96)
  have kf42 := hts _ (List.mem_cons_of_mem _ wq95)
  rw [fA_run] at hf
  refine lv_aload_n hx hb d_A_run_0 rfl (lv_at hl 0 rfl) ?_
  refine va_get (D := (dC, dI)) (ci := 0) (v := .int xo) (C := R_A) (T := F_A) (N := 9) hx hb hts inA hown hK hP 0 rfl rfl 5 (by decide) kf34 (fun _ h9 => h9) rfl d_A_run_1 ?_
  refine lv_if_ne (tgt := 9) hx hb d_A_run_4 rfl (fun hc1 => ?_) (fun hc1 => ?_)
  · have hf := ifn hf hc1
    refine lv_aload_n hx hb d_A_run_9 rfl (lv_at hl 0 rfl) ?_
    refine lv_iconst (v := 0) hx hb d_A_run_10 (by decide) ?_
    refine va_put (D := (dC, dI)) (ci := 0) (v := .int 0) (ty := .int) (C := R_A) (T := F_A) (N := 9) hx hb hts inA t_A t_A_ok n_A hown hK hP hD hS 0 rfl rfl 4 (by decide) kf42 (fun _ h9 => h9) rfl (by decide +kernel) rfl rfl (Nat.le_of_ble_eq_true rfl) d_A_run_11 (fun H locs hP hD hS => ?_)
    have hP : va_P (dC, dI) vwCl [(ha, .inr (0, [.ref hm, .ref hi, .ref qa, .ref qg, .int 0, .int xo, .int xs, .int xv, .int xp])), (hm, .inr (1, [.ref qc, .int mw, .int mf, .int mz])), (qc, .inl (cI, 149, .inl mc)), (hi, .inr (2, [.ref qb, .int ic])), (qb, .inl (cI, 24, .inl ib)), (qa, .inl (cI, 16, .inl xa)), (qg, .inl (cI, 4, .inl xg))] H := hP
    have hD : va_D A [(ha, .inr (0, [.ref hm, .ref hi, .ref qa, .ref qg, .int 0, .int xo, .int xs, .int xv, .int xp])), (hm, .inr (1, [.ref qc, .int mw, .int mf, .int mz])), (qc, .inl (cI, 149, .inl mc)), (hi, .inr (2, [.ref qb, .int ic])), (qb, .inl (cI, 24, .inl ib)), (qa, .inl (cI, 16, .inl xa)), (qg, .inl (cI, 4, .inl xg))] := hD
    refine lv_aload_n hx hb d_A_run_14 rfl (lv_at hl 0 rfl) ?_
    refine va_get (D := (dC, dI)) (ci := 0) (v := .ref hi) (C := R_A) (T := F_A) (N := 9) hx hb hts inA hown hK hP 0 rfl rfl 1 (by decide) kf19 (fun _ h9 => h9) rfl d_A_run_15 ?_
    obtain ⟨r2, hg, hf⟩ := bd1_some hf
    refine xci (wr := [(ha, .inr (0, [.ref hm, .ref hi, .ref qa, .ref qg, .int 0, .int xo, .int xs, .int xv, .int xp])), (hm, .inr (1, [.ref qc, .int mw, .int mf, .int mz])), (qc, .inl (cI, 149, .inl mc)), (qa, .inl (cI, 16, .inl xa)), (qg, .inl (cI, 4, .inl xg))]) (ctI_instruction l dC dI cI hi qb ib ic r2 hg) ⟨hx, hb, hml, hown, hts⟩ (cwV (C := R_I) 0 hts (gV wq131 wq132 wq133 wq45 wq134) rfl rfl rfl (by decide +kernel) ⟨Nat.le_of_ble_eq_true rfl, Nat.le_of_ble_eq_true rfl⟩) hK hP hD hS hA [3, 4] [0, 1, 2, 5, 6] rfl rfl rfl rfl (by decide) (ci := 2) (q0 := 3) rfl rfl rfl rfl hl.1 rfl (Nat.le_of_ble_eq_true rfl) d_A_run_18 ⟨Nat.zero_le _, Nat.zero_le _⟩ (fun H locs hP hD hS => ?_)
    have hP : va_P (dC, dI) vwCl [(ha, .inr (0, [.ref hm, .ref hi, .ref qa, .ref qg, .int 0, .int xo, .int xs, .int xv, .int xp])), (hm, .inr (1, [.ref qc, .int mw, .int mf, .int mz])), (qc, .inl (cI, 149, .inl mc)), (qa, .inl (cI, 16, .inl xa)), (qg, .inl (cI, 4, .inl xg)), (hi, .inr (2, [.ref qb, .int ic])), (qb, .inl (cI, 24, .inl ib))] H := hP
    have hD : va_D A [(ha, .inr (0, [.ref hm, .ref hi, .ref qa, .ref qg, .int 0, .int xo, .int xs, .int xv, .int xp])), (hm, .inr (1, [.ref qc, .int mw, .int mf, .int mz])), (qc, .inl (cI, 149, .inl mc)), (qa, .inl (cI, 16, .inl xa)), (qg, .inl (cI, 4, .inl xg)), (hi, .inr (2, [.ref qb, .int ic])), (qb, .inl (cI, 24, .inl ib))] := hD
    obtain ⟨k3, hg, hf⟩ := bd1_some hf
    have hk3 := wc_lt hg
    refine xeS (ctE_withCode l dC dI cI ad tA tS r2 k3 hg) ⟨hx, hb, hml, hown, hts⟩ (va_cwS 1 hts (gS wq135 wq136 wq48 wq137) rfl rfl rfl (by decide +kernel) ⟨Nat.le_of_ble_eq_true rfl, Nat.le_of_ble_eq_true rfl⟩) hE hK hP hD hS hA rfl hl.1 rfl (Nat.le_of_ble_eq_true rfl) d_A_run_21 ⟨Nat.zero_le _, Nat.zero_le _⟩ (fun H locs hP hD hS => ?_)
    refine lv_astore_n hx hb d_A_run_24 rfl hl (by decide) rfl (fun ls hl => ?_)
    have hl : lv_has ls 3 [(1, .ref (ad k3)), (0, .ref ha)] := hl
    refine lv_aload_n hx hb d_A_run_25 rfl (lv_at hl 1 rfl) ?_
    refine lv_aload_n hx hb d_A_run_26 rfl (lv_at hl 0 rfl) ?_
    obtain ⟨r4, hg, hf⟩ := bd1_some hf
    refine xf (wr := []) (ctA_admit l dC dI cI ha hm qc hi qb qa qg ad tA tS k3 hk3 mc mw mf mz ib ic xa xg 0 xo xs xv xp r4 hg) ⟨hx, hb, hml, hown, hts⟩ (cwV (C := R_A) 1 hts (gV wq142 wq144 wq0 wq43 wq145) rfl rfl rfl (by decide +kernel) ⟨Nat.le_of_ble_eq_true rfl, Nat.le_of_ble_eq_true rfl⟩) hE hK hP hD hS hA [0, 1, 2, 5, 6, 3, 4] [] rfl rfl rfl rfl (by decide) (ci := 0) (q0 := 0) rfl rfl rfl rfl hl.1 rfl (Nat.le_of_ble_eq_true rfl) d_A_run_27 ⟨Nat.zero_le _, Nat.zero_le _⟩ (fun H locs hP hD hS => ?_)
    have hP : va_P (dC, dI) vwCl [(ha, .inr (0, [.ref hm, .ref hi, .ref qa, .ref qg, .int 0, .int xo, .int xs, .int xv, .int xp])), (hm, .inr (1, [.ref qc, .int mw, .int mf, .int mz])), (qc, .inl (cI, 149, .inl mc)), (hi, .inr (2, [.ref qb, .int ic])), (qb, .inl (cI, 24, .inl ib)), (qa, .inl (cI, 16, .inl xa)), (qg, .inl (cI, 4, .inl xg))] H := hP
    have hD : va_D A [(ha, .inr (0, [.ref hm, .ref hi, .ref qa, .ref qg, .int 0, .int xo, .int xs, .int xv, .int xp])), (hm, .inr (1, [.ref qc, .int mw, .int mf, .int mz])), (qc, .inl (cI, 149, .inl mc)), (hi, .inr (2, [.ref qb, .int ic])), (qb, .inl (cI, 24, .inl ib)), (qa, .inl (cI, 16, .inl xa)), (qg, .inl (cI, 4, .inl xg))] := hD
    refine lv_istore_n hx hb d_A_run_30 rfl hl (by decide) rfl (fun ls hl => ?_)
    have hl : lv_has ls 3 [(2, .int r4), (1, .ref (ad k3)), (0, .ref ha)] := hl
    refine lv_iload_n hx hb d_A_run_31 rfl (lv_at hl 0 rfl) ?_
    refine lv_ldc (v := 36864) hx hb hown kc59 d_A_run_32 ?_
    refine lv_icmp_ne (tgt := 43) hx hb d_A_run_34 rfl (fun hc5 => ?_) (fun hc5 => ?_)
    · have hf := ifn hf hc5
      refine lv_aload_n hx hb d_A_run_43 rfl (lv_at hl 2 rfl) ?_
      refine va_get (D := (dC, dI)) (ci := 0) (v := .ref hi) (C := R_A) (T := F_A) (N := 9) hx hb hts inA hown hK hP 0 rfl rfl 1 (by decide) kf19 (fun _ h9 => h9) rfl d_A_run_44 ?_
      obtain ⟨ib6, ic6, hg, hf⟩ := bd2_some hf
      refine xcv (wr := [(ha, .inr (0, [.ref hm, .ref hi, .ref qa, .ref qg, .int 0, .int xo, .int xs, .int xv, .int xp])), (hm, .inr (1, [.ref qc, .int mw, .int mf, .int mz])), (qc, .inl (cI, 149, .inl mc)), (qa, .inl (cI, 16, .inl xa)), (qg, .inl (cI, 4, .inl xg))]) (ctI_clear l dC dI cI hi qb ib ic ib6 ic6 hg) ⟨hx, hb, hml, hown, hts⟩ (cwV (C := R_I) 0 hts (gV wq328 wq329 wq330 wq45 wq331) rfl rfl rfl (by decide +kernel) ⟨Nat.le_of_ble_eq_true rfl, Nat.le_of_ble_eq_true rfl⟩) hK hP hD hS hA [3, 4] [0, 1, 2, 5, 6] rfl rfl rfl rfl (by decide) (ci := 2) (q0 := 3) rfl rfl rfl rfl hl.1 rfl (Nat.le_of_ble_eq_true rfl) d_A_run_47 ⟨Nat.zero_le _, Nat.zero_le _⟩ (fun H locs hP hD hS => ?_)
      have hP : va_P (dC, dI) vwCl [(ha, .inr (0, [.ref hm, .ref hi, .ref qa, .ref qg, .int 0, .int xo, .int xs, .int xv, .int xp])), (hm, .inr (1, [.ref qc, .int mw, .int mf, .int mz])), (qc, .inl (cI, 149, .inl mc)), (qa, .inl (cI, 16, .inl xa)), (qg, .inl (cI, 4, .inl xg)), (hi, .inr (2, [.ref qb, .int ic6])), (qb, .inl (cI, 24, .inl ib6))] H := hP
      have hD : va_D A [(ha, .inr (0, [.ref hm, .ref hi, .ref qa, .ref qg, .int 0, .int xo, .int xs, .int xv, .int xp])), (hm, .inr (1, [.ref qc, .int mw, .int mf, .int mz])), (qc, .inl (cI, 149, .inl mc)), (qa, .inl (cI, 16, .inl xa)), (qg, .inl (cI, 4, .inl xg)), (hi, .inr (2, [.ref qb, .int ic6])), (qb, .inl (cI, 24, .inl ib6))] := hD
      refine lv_iload_n hx hb d_A_run_50 rfl (lv_at hl 0 rfl) ?_
      refine lv_iconst (v := (-1)) hx hb d_A_run_51 (by decide) ?_
      refine lv_icmp_ne (tgt := 59) hx hb d_A_run_52 rfl (fun hc7 => ?_) (fun hc7 => ?_)
      · have hf := ifn hf hc7
        refine lv_iload_n hx hb d_A_run_59 rfl (lv_at hl 0 rfl) ?_
        obtain ⟨e1_, e2_, e3_, e4_, e5_, e6_, e7_, e8_, e9_, e10_, e11_, e12_, e13_, e14_⟩ := lf14 hf
        subst e1_; subst e2_; subst e3_; subst e4_; subst e5_; subst e6_; subst e7_; subst e8_; subst e9_; subst e10_; subst e11_; subst e12_; subst e13_; subst e14_
        have hP9 := hP.sub (ws' := [(ha, .inr (0, [.ref hm, .ref hi, .ref qa, .ref qg, .int 0, .int xo, .int xs, .int xv, .int xp])), (hm, .inr (1, [.ref qc, .int mw, .int mf, .int mz])), (qc, .inl (cI, 149, .inl mc)), (hi, .inr (2, [.ref qb, .int ic6])), (qb, .inl (cI, 24, .inl ib6)), (qa, .inl (cI, 16, .inl xa)), (qg, .inl (cI, 4, .inl xg))]) [0, 1, 2, 5, 6, 3, 4] rfl
        have hD9 := hD.sub (ws' := [(ha, .inr (0, [.ref hm, .ref hi, .ref qa, .ref qg, .int 0, .int xo, .int xs, .int xv, .int xp])), (hm, .inr (1, [.ref qc, .int mw, .int mf, .int mz])), (qc, .inl (cI, 149, .inl mc)), (hi, .inr (2, [.ref qb, .int ic6])), (qb, .inl (cI, 24, .inl ib6)), (qa, .inl (cI, 16, .inl xa)), (qg, .inl (cI, 4, .inl xg))]) [0, 1, 2, 5, 6, 3, 4] (by decide) rfl
        exact W.iret (v := r4) hx hb hr (fun t ht hW => ⟨⟨r4, (), rfl, rfl, by rw [ht]; exact hP9, va_K.moved hW.alike hK, hD9⟩, hS.F ht⟩) hS.2.2 d_A_run_60
      have hf := ift hf hc7
      refine lv_aload_n hx hb d_A_run_55 rfl (lv_at hl 2 rfl) ?_
      obtain ⟨mc8, mw8, mf8, mz8, ib8, ic8, xa8, xg8, xl8, xo8, xs8, xv8, xp8, hg, hf⟩ := bd13_some hf
      refine xcv (wr := []) (ctA_switchOff l dC dI cI ha hm qc hi qb qa qg mc mw mf mz ib6 ic6 xa xg 0 xo xs xv xp mc8 mw8 mf8 mz8 ib8 ic8 xa8 xg8 xl8 xo8 xs8 xv8 xp8 hg) ⟨hx, hb, hml, hown, hts⟩ (cwV (C := R_A) 0 hts (gV wq332 wq334 wq21 wq43 wq335) rfl rfl rfl (by decide +kernel) ⟨Nat.le_of_ble_eq_true rfl, Nat.le_of_ble_eq_true rfl⟩) hK hP hD hS hA [0, 1, 2, 5, 6, 3, 4] [] rfl rfl rfl rfl (by decide) (ci := 0) (q0 := 0) rfl rfl rfl rfl hl.1 rfl (Nat.le_of_ble_eq_true rfl) d_A_run_56 ⟨Nat.zero_le _, Nat.zero_le _⟩ (fun H locs hP hD hS => ?_)
      have hP : va_P (dC, dI) vwCl [(ha, .inr (0, [.ref hm, .ref hi, .ref qa, .ref qg, .int xl8, .int xo8, .int xs8, .int xv8, .int xp8])), (hm, .inr (1, [.ref qc, .int mw8, .int mf8, .int mz8])), (qc, .inl (cI, 149, .inl mc8)), (hi, .inr (2, [.ref qb, .int ic8])), (qb, .inl (cI, 24, .inl ib8)), (qa, .inl (cI, 16, .inl xa8)), (qg, .inl (cI, 4, .inl xg8))] H := hP
      have hD : va_D A [(ha, .inr (0, [.ref hm, .ref hi, .ref qa, .ref qg, .int xl8, .int xo8, .int xs8, .int xv8, .int xp8])), (hm, .inr (1, [.ref qc, .int mw8, .int mf8, .int mz8])), (qc, .inl (cI, 149, .inl mc8)), (hi, .inr (2, [.ref qb, .int ic8])), (qb, .inl (cI, 24, .inl ib8)), (qa, .inl (cI, 16, .inl xa8)), (qg, .inl (cI, 4, .inl xg8))] := hD
      refine lv_iload_n hx hb d_A_run_59 rfl (lv_at hl 0 rfl) ?_
      obtain ⟨e1_, e2_, e3_, e4_, e5_, e6_, e7_, e8_, e9_, e10_, e11_, e12_, e13_, e14_⟩ := lf14 hf
      subst e1_; subst e2_; subst e3_; subst e4_; subst e5_; subst e6_; subst e7_; subst e8_; subst e9_; subst e10_; subst e11_; subst e12_; subst e13_; subst e14_
      have hP9 := hP.sub (ws' := [(ha, .inr (0, [.ref hm, .ref hi, .ref qa, .ref qg, .int xl8, .int xo8, .int xs8, .int xv8, .int xp8])), (hm, .inr (1, [.ref qc, .int mw8, .int mf8, .int mz8])), (qc, .inl (cI, 149, .inl mc8)), (hi, .inr (2, [.ref qb, .int ic8])), (qb, .inl (cI, 24, .inl ib8)), (qa, .inl (cI, 16, .inl xa8)), (qg, .inl (cI, 4, .inl xg8))]) [0, 1, 2, 3, 4, 5, 6] rfl
      have hD9 := hD.sub (ws' := [(ha, .inr (0, [.ref hm, .ref hi, .ref qa, .ref qg, .int xl8, .int xo8, .int xs8, .int xv8, .int xp8])), (hm, .inr (1, [.ref qc, .int mw8, .int mf8, .int mz8])), (qc, .inl (cI, 149, .inl mc8)), (hi, .inr (2, [.ref qb, .int ic8])), (qb, .inl (cI, 24, .inl ib8)), (qa, .inl (cI, 16, .inl xa8)), (qg, .inl (cI, 4, .inl xg8))]) [0, 1, 2, 3, 4, 5, 6] (by decide) rfl
      exact W.iret (v := r4) hx hb hr (fun t ht hW => ⟨⟨r4, (), rfl, rfl, by rw [ht]; exact hP9, va_K.moved hW.alike hK, hD9⟩, hS.F ht⟩) hS.2.2 d_A_run_60
    have hf := ift hf hc5
    refine lv_aload_n hx hb d_A_run_37 rfl (lv_at hl 2 rfl) ?_
    refine lv_aload_n hx hb d_A_run_38 rfl (lv_at hl 1 rfl) ?_
    obtain ⟨r9, mc9, mw9, mf9, mz9, ib9, ic9, xa9, xg9, xl9, xo9, xs9, xv9, xp9, hg, hf⟩ := bd14_some hf
    refine xf (wr := []) (ctA_perform l dC dI cI ha hm qc hi qb qa qg ad tA tS k3 hk3 mc mw mf mz ib ic xa xg 0 xo xs xv xp r9 mc9 mw9 mf9 mz9 ib9 ic9 xa9 xg9 xl9 xo9 xs9 xv9 xp9 hg) ⟨hx, hb, hml, hown, hts⟩ (cwV (C := R_A) 1 hts (gV wq183 wq185 wq1 wq43 wq186) rfl rfl rfl (by decide +kernel) ⟨Nat.le_of_ble_eq_true rfl, Nat.le_of_ble_eq_true rfl⟩) hE hK hP hD hS hA [0, 1, 2, 3, 4, 5, 6] [] rfl rfl rfl rfl (by decide) (ci := 0) (q0 := 0) rfl rfl rfl rfl hl.1 rfl (Nat.le_of_ble_eq_true rfl) d_A_run_39 ⟨Nat.zero_le _, Nat.zero_le _⟩ (fun H locs hP hD hS => ?_)
    have hP : va_P (dC, dI) vwCl [(ha, .inr (0, [.ref hm, .ref hi, .ref qa, .ref qg, .int xl9, .int xo9, .int xs9, .int xv9, .int xp9])), (hm, .inr (1, [.ref qc, .int mw9, .int mf9, .int mz9])), (qc, .inl (cI, 149, .inl mc9)), (hi, .inr (2, [.ref qb, .int ic9])), (qb, .inl (cI, 24, .inl ib9)), (qa, .inl (cI, 16, .inl xa9)), (qg, .inl (cI, 4, .inl xg9))] H := hP
    have hD : va_D A [(ha, .inr (0, [.ref hm, .ref hi, .ref qa, .ref qg, .int xl9, .int xo9, .int xs9, .int xv9, .int xp9])), (hm, .inr (1, [.ref qc, .int mw9, .int mf9, .int mz9])), (qc, .inl (cI, 149, .inl mc9)), (hi, .inr (2, [.ref qb, .int ic9])), (qb, .inl (cI, 24, .inl ib9)), (qa, .inl (cI, 16, .inl xa9)), (qg, .inl (cI, 4, .inl xg9))] := hD
    refine lv_istore_n hx hb d_A_run_42 rfl hl (by decide) rfl (fun ls hl => ?_)
    have hl : lv_has ls 3 [(2, .int r9), (1, .ref (ad k3)), (0, .ref ha)] := hl
    refine lv_aload_n hx hb d_A_run_43 rfl (lv_at hl 2 rfl) ?_
    refine va_get (D := (dC, dI)) (ci := 0) (v := .ref hi) (C := R_A) (T := F_A) (N := 9) hx hb hts inA hown hK hP 0 rfl rfl 1 (by decide) kf19 (fun _ h9 => h9) rfl d_A_run_44 ?_
    obtain ⟨ib10, ic10, hg, hf⟩ := bd2_some hf
    refine xcv (wr := [(ha, .inr (0, [.ref hm, .ref hi, .ref qa, .ref qg, .int xl9, .int xo9, .int xs9, .int xv9, .int xp9])), (hm, .inr (1, [.ref qc, .int mw9, .int mf9, .int mz9])), (qc, .inl (cI, 149, .inl mc9)), (qa, .inl (cI, 16, .inl xa9)), (qg, .inl (cI, 4, .inl xg9))]) (ctI_clear l dC dI cI hi qb ib9 ic9 ib10 ic10 hg) ⟨hx, hb, hml, hown, hts⟩ (cwV (C := R_I) 0 hts (gV wq328 wq329 wq330 wq45 wq331) rfl rfl rfl (by decide +kernel) ⟨Nat.le_of_ble_eq_true rfl, Nat.le_of_ble_eq_true rfl⟩) hK hP hD hS hA [3, 4] [0, 1, 2, 5, 6] rfl rfl rfl rfl (by decide) (ci := 2) (q0 := 3) rfl rfl rfl rfl hl.1 rfl (Nat.le_of_ble_eq_true rfl) d_A_run_47 ⟨Nat.zero_le _, Nat.zero_le _⟩ (fun H locs hP hD hS => ?_)
    have hP : va_P (dC, dI) vwCl [(ha, .inr (0, [.ref hm, .ref hi, .ref qa, .ref qg, .int xl9, .int xo9, .int xs9, .int xv9, .int xp9])), (hm, .inr (1, [.ref qc, .int mw9, .int mf9, .int mz9])), (qc, .inl (cI, 149, .inl mc9)), (qa, .inl (cI, 16, .inl xa9)), (qg, .inl (cI, 4, .inl xg9)), (hi, .inr (2, [.ref qb, .int ic10])), (qb, .inl (cI, 24, .inl ib10))] H := hP
    have hD : va_D A [(ha, .inr (0, [.ref hm, .ref hi, .ref qa, .ref qg, .int xl9, .int xo9, .int xs9, .int xv9, .int xp9])), (hm, .inr (1, [.ref qc, .int mw9, .int mf9, .int mz9])), (qc, .inl (cI, 149, .inl mc9)), (qa, .inl (cI, 16, .inl xa9)), (qg, .inl (cI, 4, .inl xg9)), (hi, .inr (2, [.ref qb, .int ic10])), (qb, .inl (cI, 24, .inl ib10))] := hD
    refine lv_iload_n hx hb d_A_run_50 rfl (lv_at hl 0 rfl) ?_
    refine lv_iconst (v := (-1)) hx hb d_A_run_51 (by decide) ?_
    refine lv_icmp_ne (tgt := 59) hx hb d_A_run_52 rfl (fun hc11 => ?_) (fun hc11 => ?_)
    · have hf := ifn hf hc11
      refine lv_iload_n hx hb d_A_run_59 rfl (lv_at hl 0 rfl) ?_
      obtain ⟨e1_, e2_, e3_, e4_, e5_, e6_, e7_, e8_, e9_, e10_, e11_, e12_, e13_, e14_⟩ := lf14 hf
      subst e1_; subst e2_; subst e3_; subst e4_; subst e5_; subst e6_; subst e7_; subst e8_; subst e9_; subst e10_; subst e11_; subst e12_; subst e13_; subst e14_
      have hP9 := hP.sub (ws' := [(ha, .inr (0, [.ref hm, .ref hi, .ref qa, .ref qg, .int xl9, .int xo9, .int xs9, .int xv9, .int xp9])), (hm, .inr (1, [.ref qc, .int mw9, .int mf9, .int mz9])), (qc, .inl (cI, 149, .inl mc9)), (hi, .inr (2, [.ref qb, .int ic10])), (qb, .inl (cI, 24, .inl ib10)), (qa, .inl (cI, 16, .inl xa9)), (qg, .inl (cI, 4, .inl xg9))]) [0, 1, 2, 5, 6, 3, 4] rfl
      have hD9 := hD.sub (ws' := [(ha, .inr (0, [.ref hm, .ref hi, .ref qa, .ref qg, .int xl9, .int xo9, .int xs9, .int xv9, .int xp9])), (hm, .inr (1, [.ref qc, .int mw9, .int mf9, .int mz9])), (qc, .inl (cI, 149, .inl mc9)), (hi, .inr (2, [.ref qb, .int ic10])), (qb, .inl (cI, 24, .inl ib10)), (qa, .inl (cI, 16, .inl xa9)), (qg, .inl (cI, 4, .inl xg9))]) [0, 1, 2, 5, 6, 3, 4] (by decide) rfl
      exact W.iret (v := r9) hx hb hr (fun t ht hW => ⟨⟨r9, (), rfl, rfl, by rw [ht]; exact hP9, va_K.moved hW.alike hK, hD9⟩, hS.F ht⟩) hS.2.2 d_A_run_60
    have hf := ift hf hc11
    refine lv_aload_n hx hb d_A_run_55 rfl (lv_at hl 2 rfl) ?_
    obtain ⟨mc12, mw12, mf12, mz12, ib12, ic12, xa12, xg12, xl12, xo12, xs12, xv12, xp12, hg, hf⟩ := bd13_some hf
    refine xcv (wr := []) (ctA_switchOff l dC dI cI ha hm qc hi qb qa qg mc9 mw9 mf9 mz9 ib10 ic10 xa9 xg9 xl9 xo9 xs9 xv9 xp9 mc12 mw12 mf12 mz12 ib12 ic12 xa12 xg12 xl12 xo12 xs12 xv12 xp12 hg) ⟨hx, hb, hml, hown, hts⟩ (cwV (C := R_A) 0 hts (gV wq332 wq334 wq21 wq43 wq335) rfl rfl rfl (by decide +kernel) ⟨Nat.le_of_ble_eq_true rfl, Nat.le_of_ble_eq_true rfl⟩) hK hP hD hS hA [0, 1, 2, 5, 6, 3, 4] [] rfl rfl rfl rfl (by decide) (ci := 0) (q0 := 0) rfl rfl rfl rfl hl.1 rfl (Nat.le_of_ble_eq_true rfl) d_A_run_56 ⟨Nat.zero_le _, Nat.zero_le _⟩ (fun H locs hP hD hS => ?_)
    have hP : va_P (dC, dI) vwCl [(ha, .inr (0, [.ref hm, .ref hi, .ref qa, .ref qg, .int xl12, .int xo12, .int xs12, .int xv12, .int xp12])), (hm, .inr (1, [.ref qc, .int mw12, .int mf12, .int mz12])), (qc, .inl (cI, 149, .inl mc12)), (hi, .inr (2, [.ref qb, .int ic12])), (qb, .inl (cI, 24, .inl ib12)), (qa, .inl (cI, 16, .inl xa12)), (qg, .inl (cI, 4, .inl xg12))] H := hP
    have hD : va_D A [(ha, .inr (0, [.ref hm, .ref hi, .ref qa, .ref qg, .int xl12, .int xo12, .int xs12, .int xv12, .int xp12])), (hm, .inr (1, [.ref qc, .int mw12, .int mf12, .int mz12])), (qc, .inl (cI, 149, .inl mc12)), (hi, .inr (2, [.ref qb, .int ic12])), (qb, .inl (cI, 24, .inl ib12)), (qa, .inl (cI, 16, .inl xa12)), (qg, .inl (cI, 4, .inl xg12))] := hD
    refine lv_iload_n hx hb d_A_run_59 rfl (lv_at hl 0 rfl) ?_
    obtain ⟨e1_, e2_, e3_, e4_, e5_, e6_, e7_, e8_, e9_, e10_, e11_, e12_, e13_, e14_⟩ := lf14 hf
    subst e1_; subst e2_; subst e3_; subst e4_; subst e5_; subst e6_; subst e7_; subst e8_; subst e9_; subst e10_; subst e11_; subst e12_; subst e13_; subst e14_
    have hP9 := hP.sub (ws' := [(ha, .inr (0, [.ref hm, .ref hi, .ref qa, .ref qg, .int xl12, .int xo12, .int xs12, .int xv12, .int xp12])), (hm, .inr (1, [.ref qc, .int mw12, .int mf12, .int mz12])), (qc, .inl (cI, 149, .inl mc12)), (hi, .inr (2, [.ref qb, .int ic12])), (qb, .inl (cI, 24, .inl ib12)), (qa, .inl (cI, 16, .inl xa12)), (qg, .inl (cI, 4, .inl xg12))]) [0, 1, 2, 3, 4, 5, 6] rfl
    have hD9 := hD.sub (ws' := [(ha, .inr (0, [.ref hm, .ref hi, .ref qa, .ref qg, .int xl12, .int xo12, .int xs12, .int xv12, .int xp12])), (hm, .inr (1, [.ref qc, .int mw12, .int mf12, .int mz12])), (qc, .inl (cI, 149, .inl mc12)), (hi, .inr (2, [.ref qb, .int ic12])), (qb, .inl (cI, 24, .inl ib12)), (qa, .inl (cI, 16, .inl xa12)), (qg, .inl (cI, 4, .inl xg12))]) [0, 1, 2, 3, 4, 5, 6] (by decide) rfl
    exact W.iret (v := r9) hx hb hr (fun t ht hW => ⟨⟨r9, (), rfl, rfl, by rw [ht]; exact hP9, va_K.moved hW.alike hK, hD9⟩, hS.F ht⟩) hS.2.2 d_A_run_60
  have hf := ift hf hc1
  refine lv_iconst (v := (-1)) hx hb d_A_run_7 (by decide) ?_
  obtain ⟨e1_, e2_, e3_, e4_, e5_, e6_, e7_, e8_, e9_, e10_, e11_, e12_, e13_, e14_⟩ := lf14 hf
  subst e1_; subst e2_; subst e3_; subst e4_; subst e5_; subst e6_; subst e7_; subst e8_; subst e9_; subst e10_; subst e11_; subst e12_; subst e13_; subst e14_
  have hP9 := hP.sub (ws' := [(ha, .inr (0, [.ref hm, .ref hi, .ref qa, .ref qg, .int xl, .int xo, .int xs, .int xv, .int xp])), (hm, .inr (1, [.ref qc, .int mw, .int mf, .int mz])), (qc, .inl (cI, 149, .inl mc)), (hi, .inr (2, [.ref qb, .int ic])), (qb, .inl (cI, 24, .inl ib)), (qa, .inl (cI, 16, .inl xa)), (qg, .inl (cI, 4, .inl xg))]) [0, 1, 2, 3, 4, 5, 6] rfl
  have hD9 := hD.sub (ws' := [(ha, .inr (0, [.ref hm, .ref hi, .ref qa, .ref qg, .int xl, .int xo, .int xs, .int xv, .int xp])), (hm, .inr (1, [.ref qc, .int mw, .int mf, .int mz])), (qc, .inl (cI, 149, .inl mc)), (hi, .inr (2, [.ref qb, .int ic])), (qb, .inl (cI, 24, .inl ib)), (qa, .inl (cI, 16, .inl xa)), (qg, .inl (cI, 4, .inl xg))]) [0, 1, 2, 3, 4, 5, 6] (by decide) rfl
  exact W.iret (v := (-1)) hx hb hr (fun t ht hW => ⟨⟨(-1), (), rfl, rfl, by rw [ht]; exact hP9, va_K.moved hW.alike hK, hD9⟩, hS.F ht⟩) hS.2.2 d_A_run_8
