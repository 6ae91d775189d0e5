theorem d_Rf_refuse_0 : decode b_Rf_refuse 0 = .ok (.aload_n 0, 1) := by decide +kernel
theorem d_Rf_refuse_1 : decode b_Rf_refuse 1 = .ok (.getfield 39, 3) := by decide +kernel
theorem d_Rf_refuse_4 : decode b_Rf_refuse 4 = .ok (.iconst 1, 1) := by decide +kernel
theorem d_Rf_refuse_5 : decode b_Rf_refuse 5 = .ok (.if_icmp .le 12, 3) := by decide +kernel
theorem d_Rf_refuse_8 : decode b_Rf_refuse 8 = .ok (.aload_n 0, 1) := by decide +kernel
theorem d_Rf_refuse_9 : decode b_Rf_refuse 9 = .ok (.getfield 27, 3) := by decide +kernel
theorem d_Rf_refuse_12 : decode b_Rf_refuse 12 = .ok (.iconst 1, 1) := by decide +kernel
theorem d_Rf_refuse_13 : decode b_Rf_refuse 13 = .ok (.iaload, 1) := by decide +kernel
theorem d_Rf_refuse_14 : decode b_Rf_refuse 14 = .ok (.goto 4, 3) := by decide +kernel
theorem d_Rf_refuse_17 : decode b_Rf_refuse 17 = .ok (.iconst 0, 1) := by decide +kernel
theorem d_Rf_refuse_18 : decode b_Rf_refuse 18 = .ok (.istore_n 1, 1) := by decide +kernel
theorem d_Rf_refuse_19 : decode b_Rf_refuse 19 = .ok (.aload_n 0, 1) := by decide +kernel
theorem d_Rf_refuse_20 : decode b_Rf_refuse 20 = .ok (.invokevirtual 79, 3) := by decide +kernel
theorem d_Rf_refuse_23 : decode b_Rf_refuse 23 = .ok (.istore_n 2, 1) := by decide +kernel
theorem d_Rf_refuse_24 : decode b_Rf_refuse 24 = .ok (.iload_n 2, 1) := by decide +kernel
theorem d_Rf_refuse_25 : decode b_Rf_refuse 25 = .ok (.ifCond .ne 7, 3) := by decide +kernel
theorem d_Rf_refuse_28 : decode b_Rf_refuse 28 = .ok (.sipush 26368, 3) := by decide +kernel
theorem d_Rf_refuse_31 : decode b_Rf_refuse 31 = .ok (.ireturn, 1) := by decide +kernel
theorem d_Rf_refuse_32 : decode b_Rf_refuse 32 = .ok (.aload_n 0, 1) := by decide +kernel
theorem d_Rf_refuse_33 : decode b_Rf_refuse 33 = .ok (.getfield 27, 3) := by decide +kernel
theorem d_Rf_refuse_36 : decode b_Rf_refuse 36 = .ok (.iconst 0, 1) := by decide +kernel
theorem d_Rf_refuse_37 : decode b_Rf_refuse 37 = .ok (.iaload, 1) := by decide +kernel
theorem d_Rf_refuse_38 : decode b_Rf_refuse 38 = .ok (.sipush 128, 3) := by decide +kernel
theorem d_Rf_refuse_41 : decode b_Rf_refuse 41 = .ok (.if_icmp .eq 7, 3) := by decide +kernel
theorem d_Rf_refuse_44 : decode b_Rf_refuse 44 = .ok (.sipush 28160, 3) := by decide +kernel
theorem d_Rf_refuse_47 : decode b_Rf_refuse 47 = .ok (.ireturn, 1) := by decide +kernel
theorem d_Rf_refuse_48 : decode b_Rf_refuse 48 = .ok (.iload_n 1, 1) := by decide +kernel
theorem d_Rf_refuse_49 : decode b_Rf_refuse 49 = .ok (.invokestatic 83, 3) := by decide +kernel
theorem d_Rf_refuse_52 : decode b_Rf_refuse 52 = .ok (.ifCond .ne 7, 3) := by decide +kernel
theorem d_Rf_refuse_55 : decode b_Rf_refuse 55 = .ok (.sipush 27904, 3) := by decide +kernel
theorem d_Rf_refuse_58 : decode b_Rf_refuse 58 = .ok (.ireturn, 1) := by decide +kernel
theorem d_Rf_refuse_59 : decode b_Rf_refuse 59 = .ok (.iload_n 2, 1) := by decide +kernel
theorem d_Rf_refuse_60 : decode b_Rf_refuse 60 = .ok (.iload_n 1, 1) := by decide +kernel
theorem d_Rf_refuse_61 : decode b_Rf_refuse 61 = .ok (.invokestatic 86, 3) := by decide +kernel
theorem d_Rf_refuse_64 : decode b_Rf_refuse 64 = .ok (.if_icmp .ne 11, 3) := by decide +kernel
theorem d_Rf_refuse_67 : decode b_Rf_refuse 67 = .ok (.aload_n 0, 1) := by decide +kernel
theorem d_Rf_refuse_68 : decode b_Rf_refuse 68 = .ok (.iload_n 1, 1) := by decide +kernel
theorem d_Rf_refuse_69 : decode b_Rf_refuse 69 = .ok (.invokevirtual 90, 3) := by decide +kernel
theorem d_Rf_refuse_72 : decode b_Rf_refuse 72 = .ok (.ifCond .eq 7, 3) := by decide +kernel
theorem d_Rf_refuse_75 : decode b_Rf_refuse 75 = .ok (.sipush 26368, 3) := by decide +kernel
theorem d_Rf_refuse_78 : decode b_Rf_refuse 78 = .ok (.ireturn, 1) := by decide +kernel
theorem d_Rf_refuse_79 : decode b_Rf_refuse 79 = .ok (.aload_n 0, 1) := by decide +kernel
theorem d_Rf_refuse_80 : decode b_Rf_refuse 80 = .ok (.iload_n 1, 1) := by decide +kernel
theorem d_Rf_refuse_81 : decode b_Rf_refuse 81 = .ok (.invokevirtual 93, 3) := by decide +kernel
theorem d_Rf_refuse_84 : decode b_Rf_refuse 84 = .ok (.ifCond .eq 7, 3) := by decide +kernel
theorem d_Rf_refuse_87 : decode b_Rf_refuse 87 = .ok (.sipush 27270, 3) := by decide +kernel
theorem d_Rf_refuse_90 : decode b_Rf_refuse 90 = .ok (.ireturn, 1) := by decide +kernel
theorem d_Rf_refuse_91 : decode b_Rf_refuse 91 = .ok (.iload_n 1, 1) := by decide +kernel
theorem d_Rf_refuse_92 : decode b_Rf_refuse 92 = .ok (.sipush 164, 3) := by decide +kernel
theorem d_Rf_refuse_95 : decode b_Rf_refuse 95 = .ok (.if_icmp .eq 14, 3) := by decide +kernel
theorem d_Rf_refuse_98 : decode b_Rf_refuse 98 = .ok (.aload_n 0, 1) := by decide +kernel
theorem d_Rf_refuse_99 : decode b_Rf_refuse 99 = .ok (.getfield 23, 3) := by decide +kernel
theorem d_Rf_refuse_102 : decode b_Rf_refuse 102 = .ok (.ifCond .ge 7, 3) := by decide +kernel
theorem d_Rf_refuse_105 : decode b_Rf_refuse 105 = .ok (.sipush 27013, 3) := by decide +kernel
theorem d_Rf_refuse_108 : decode b_Rf_refuse 108 = .ok (.ireturn, 1) := by decide +kernel
theorem d_Rf_refuse_109 : decode b_Rf_refuse 109 = .ok (.iload_n 1, 1) := by decide +kernel
theorem d_Rf_refuse_110 : decode b_Rf_refuse 110 = .ok (.invokestatic 76, 3) := by decide +kernel
theorem d_Rf_refuse_113 : decode b_Rf_refuse 113 = .ok (.ifCond .eq 16, 3) := by decide +kernel
theorem d_Rf_refuse_116 : decode b_Rf_refuse 116 = .ok (.aload_n 0, 1) := by decide +kernel
theorem d_Rf_refuse_117 : decode b_Rf_refuse 117 = .ok (.getfield 33, 3) := by decide +kernel
theorem d_Rf_refuse_120 : decode b_Rf_refuse 120 = .ok (.ifCond .ne 9, 3) := by decide +kernel
theorem d_Rf_refuse_123 : decode b_Rf_refuse 123 = .ok (.sipush 27010, 3) := by decide +kernel
theorem d_Rf_refuse_126 : decode b_Rf_refuse 126 = .ok (.goto 4, 3) := by decide +kernel
theorem d_Rf_refuse_129 : decode b_Rf_refuse 129 = .ok (.iconst 0, 1) := by decide +kernel
theorem d_Rf_refuse_130 : decode b_Rf_refuse 130 = .ok (.ireturn, 1) := by decide +kernel
def fRf_refuse (σ : StR) : Option (Int32) := match σ with | (nm, nb, nl, nc, nd, nf, na, nz, no, ns, nv, np, ni, nn, nu, nt) => if nn ≤ 1 then (bd1 (fRf_shape (nm, nb, nl, nc, nd, nf, na, nz, no, ns, nv, np, ni, nn, nu, nt)) fun r2 => if r2 = 0 then (some 26368) else (ix 0 24 fun j4 => if (ni j4) = 128 then (bd1 (fRf_known 0) fun r6 => if r6 = 0 then (some 27904) else (bd1 (fRf_shapeOf 0) fun r8 => if r2 = r8 then (bd1 (fRf_lengthWrong (nm, nb, nl, nc, nd, nf, na, nz, no, ns, nv, np, ni, nn, nu, nt) 0) fun r10 => if r10 = 0 then (bd1 (fRf_placesWrong (nm, nb, nl, nc, nd, nf, na, nz, no, ns, nv, np, ni, nn, nu, nt) 0) fun r12 => if r12 = 0 then (if (0 : Int32) = 164 then (bd1 (fRf_starred 0) fun r15 => if r15 = 0 then (some 0) else (if nv = 0 then (some 27010) else (some 0))) else (if 0 ≤ ns then (bd1 (fRf_starred 0) fun r19 => if r19 = 0 then (some 0) else (if nv = 0 then (some 27010) else (some 0))) else (some 27013))) else (some 27270)) else (some 26368)) else (some 26368))) else (some 28160))) else (ix 1 24 fun j22 => bd1 (fRf_shape (nm, nb, nl, nc, nd, nf, na, nz, no, ns, nv, np, ni, nn, nu, nt)) fun r23 => if r23 = 0 then (some 26368) else (ix 0 24 fun j25 => if (ni j25) = 128 then (bd1 (fRf_known (ni j22)) fun r27 => if r27 = 0 then (some 27904) else (bd1 (fRf_shapeOf (ni j22)) fun r29 => if r23 = r29 then (bd1 (fRf_lengthWrong (nm, nb, nl, nc, nd, nf, na, nz, no, ns, nv, np, ni, nn, nu, nt) (ni j22)) fun r31 => if r31 = 0 then (bd1 (fRf_placesWrong (nm, nb, nl, nc, nd, nf, na, nz, no, ns, nv, np, ni, nn, nu, nt) (ni j22)) fun r33 => if r33 = 0 then (if (ni j22) = 164 then (bd1 (fRf_starred (ni j22)) fun r36 => if r36 = 0 then (some 0) else (if nv = 0 then (some 27010) else (some 0))) else (if 0 ≤ ns then (bd1 (fRf_starred (ni j22)) fun r40 => if r40 = 0 then (some 0) else (if nv = 0 then (some 27010) else (some 0))) else (some 27013))) else (some 27270)) else (some 26368)) else (some 26368))) else (some 28160)))
set_option maxHeartbeats 4000000 in
set_option maxRecDepth 100000 in
theorem ctRf_refuse (l : Launch) (dC : Nat → ClassId) (dI : Nat → Nat → Nat) (cI : ClassId) (hq qm qf ql qi qo : Nat) (nm : Nat → Int32) (nb : Nat → Int32) (nl : Nat → Int32) (nc : Int32) (nd : Int32) (nf : Int32) (na : Int32) (nz : Int32) (no : Int32) (ns : Int32) (nv : Int32) (np : Int32) (ni : Nat → Int32) (nn : Int32) (nu : Nat → Int32) (nt : Int32) (r : Int32) (hf : fRf_refuse (nm, nb, nl, nc, nd, nf, na, nz, no, ns, nv, np, ni, nn, nu, nt) = some r) : CtI l y_Rf_refuse w_Rf_refuse ({ frames := 2, cells := 0, slots := 0, locals := 40 }) (dC, dI) [(cI, .int)] [.ref hq] [(hq, .inr (3, [.ref qm, .ref qf, .ref ql, .int nc, .int nd, .int nf, .int na, .int nz, .int no, .int ns, .int nv, .int np, .ref qi, .int nn, .ref qo, .int nt])), (qm, .inl (cI, 104, .inl nm)), (qf, .inl (cI, 104, .inl nb)), (ql, .inl (cI, 4, .inl nl)), (qi, .inl (cI, 24, .inl ni)), (qo, .inl (cI, 16, .inl nu))] [(hq, .inr (3, [.ref qm, .ref qf, .ref ql, .int nc, .int nd, .int nf, .int na, .int nz, .int no, .int ns, .int nv, .int np, .ref qi, .int nn, .ref qo, .int nt])), (qm, .inl (cI, 104, .inl nm)), (qf, .inl (cI, 104, .inl nb)), (ql, .inl (cI, 4, .inl nl)), (qi, .inl (cI, 24, .inl ni)), (qo, .inl (cI, 16, .inl nu))] r := by
  intro sz
  refine Met.ofW (cc := b_Rf_refuse) (maxL := 3) (ret := some .int) (by decide) rfl ?_
  intro p e s m args below meth c s₁ B hml hv
  obtain ⟨rfl, hsz, hP, hK, hD0⟩ := hv
  have hx := B.exec
  have hb := B.bytes
  have hr := B.returns
  have hts := atoms_spec (ws := w_Rf_refuse) B.pre
  have hown : s.vm.findClass R_Rf = some m.cls := findClass_of_methodNamed B.named
  have hlocks := B.notSynchronized
  subst hsz
  have hD := hD0.self (sz := s.heap.size)
  generalize hAe : va_A [(hq, .inr (3, [.ref qm, .ref qf, .ref ql, .int nc, .int nd, .int nf, .int na, .int nz, .int no, .int ns, .int nv, .int np, .ref qi, .int nn, .ref qo, .int nt])), (qm, .inl (cI, 104, .inl nm)), (qf, .inl (cI, 104, .inl nb)), (ql, .inl (cI, 4, .inl nl)), (qi, .inl (cI, 24, .inl ni)), (qo, .inl (cI, 16, .inl nu))] s.heap.size = A at hD ⊢
  have hA : ∀ q : Nat, s.heap.size ≤ q → A q := fun q h => by rw [← hAe]; exact Or.inr h
  have hS : va_S A s.heap s.heap [] := va_S.rf
  have hP : va_P (dC, dI) vwCl [(hq, .inr (3, [.ref qm, .ref qf, .ref ql, .int nc, .int nd, .int nf, .int na, .int nz, .int no, .int ns, .int nv, .int np, .ref qi, .int nn, .ref qo, .int nt])), (qm, .inl (cI, 104, .inl nm)), (qf, .inl (cI, 104, .inl nb)), (ql, .inl (cI, 4, .inl nl)), (qi, .inl (cI, 24, .inl ni)), (qo, .inl (cI, 16, .inl nu))] s.heap := hP
  have hl := lv_entry ([.ref hq]) (n := 3) (Nat.le_of_ble_eq_true rfl)
  rw [lg_entry_eq]
  generalize (lg_sl ([.ref hq]) ++ List.replicate (3 - (lg_sl ([.ref hq])).length) Slot.unset).toArray = ls at hl ⊢
  have hl : lv_has ls 3 [(0, .ref hq)] := hl
  have inRf : ∀ w ∈ u_ws R_Rf F_Rf 16, w ∈ w_Rf_refuse := fun w h => List.mem_cons_of_mem _ (in_Rf w h)
  have kf23 := hts _ (List.mem_cons_of_mem _ wq415)
  have kf27 := hts _ (List.mem_cons_of_mem _ wq418)
  have kf33 := hts _ (List.mem_cons_of_mem _ wq416)
  have kf39 := hts _ (List.mem_cons_of_mem _ wq419)
  rw [fRf_refuse] at hf
  refine lv_aload_n hx hb d_Rf_refuse_0 rfl (lv_at hl 0 rfl) ?_
  refine va_get (D := (dC, dI)) (ci := 3) (v := .int nn) (C := R_Rf) (T := F_Rf) (N := 16) hx hb hts inRf hown hK hP 0 rfl rfl 13 (by decide) kf39 (fun _ h9 => h9) rfl d_Rf_refuse_1 ?_
  refine lv_iconst (v := 1) hx hb d_Rf_refuse_4 (by decide) ?_
  refine lv_icmp_le (tgt := 17) hx hb d_Rf_refuse_5 rfl (fun hc1 => ?_) (fun hc1 => ?_)
  · have hf := ift hf hc1
    refine lv_iconst (v := 0) hx hb d_Rf_refuse_17 (by decide) ?_
    refine lv_istore_n hx hb d_Rf_refuse_18 rfl hl (by decide) rfl (fun ls hl => ?_)
    have hl : lv_has ls 3 [(1, .int 0), (0, .ref hq)] := hl
    refine lv_aload_n hx hb d_Rf_refuse_19 rfl (lv_at hl 1 rfl) ?_
    obtain ⟨r2, hg, hf⟩ := bd1_some hf
    refine xci (wr := []) (ctRf_shape l dC dI cI hq qm qf ql qi qo nm nb nl nc nd nf na nz no ns nv np ni nn nu nt r2 hg) ⟨hx, hb, hml, hown, hts⟩ (cwV (C := R_Rf) 0 hts (gV wq492 wq494 wq27 wq46 wq495) rfl rfl rfl (by decide +kernel) ⟨Nat.le_of_ble_eq_true rfl, Nat.le_of_ble_eq_true rfl⟩) hK hP hD hS hA [0, 1, 2, 3, 4, 5] [] rfl rfl rfl rfl (by decide) (ci := 3) (q0 := 0) rfl rfl rfl rfl hl.1 rfl (Nat.le_of_ble_eq_true rfl) d_Rf_refuse_20 ⟨Nat.zero_le _, Nat.zero_le _⟩ (fun H locs hP hD hS => ?_)
    have hP : va_P (dC, dI) vwCl [(hq, .inr (3, [.ref qm, .ref qf, .ref ql, .int nc, .int nd, .int nf, .int na, .int nz, .int no, .int ns, .int nv, .int np, .ref qi, .int nn, .ref qo, .int nt])), (qm, .inl (cI, 104, .inl nm)), (qf, .inl (cI, 104, .inl nb)), (ql, .inl (cI, 4, .inl nl)), (qi, .inl (cI, 24, .inl ni)), (qo, .inl (cI, 16, .inl nu))] H := hP
    have hD : va_D A [(hq, .inr (3, [.ref qm, .ref qf, .ref ql, .int nc, .int nd, .int nf, .int na, .int nz, .int no, .int ns, .int nv, .int np, .ref qi, .int nn, .ref qo, .int nt])), (qm, .inl (cI, 104, .inl nm)), (qf, .inl (cI, 104, .inl nb)), (ql, .inl (cI, 4, .inl nl)), (qi, .inl (cI, 24, .inl ni)), (qo, .inl (cI, 16, .inl nu))] := hD
    refine lv_istore_n hx hb d_Rf_refuse_23 rfl hl (by decide) rfl (fun ls hl => ?_)
    have hl : lv_has ls 3 [(2, .int r2), (1, .int 0), (0, .ref hq)] := hl
    refine lv_iload_n hx hb d_Rf_refuse_24 rfl (lv_at hl 0 rfl) ?_
    refine lv_if_ne (tgt := 32) hx hb d_Rf_refuse_25 rfl (fun hc3 => ?_) (fun hc3 => ?_)
    · have hf := ifn hf hc3
      refine lv_aload_n hx hb d_Rf_refuse_32 rfl (lv_at hl 2 rfl) ?_
      refine va_get (D := (dC, dI)) (ci := 3) (v := .ref qi) (C := R_Rf) (T := F_Rf) (N := 16) hx hb hts inRf hown hK hP 0 rfl rfl 12 (by decide) kf27 (fun _ h9 => h9) rfl d_Rf_refuse_33 ?_
      refine lv_iconst (v := 0) hx hb d_Rf_refuse_36 (by decide) ?_
      obtain ⟨hin_, hf⟩ := ix_some hf
      refine va_iald hx hb hK hP 4 0 rfl rfl hin_ d_Rf_refuse_37 ?_
      refine lv_sipush (v := 128) hx hb d_Rf_refuse_38 (by decide) ?_
      refine lv_icmp_eq (tgt := 48) hx hb d_Rf_refuse_41 rfl (fun hc5 => ?_) (fun hc5 => ?_)
      · have hf := ift hf hc5
        refine lv_iload_n hx hb d_Rf_refuse_48 rfl (lv_at hl 1 rfl) ?_
        obtain ⟨r6, hg, hf⟩ := bd1_some hf
        refine xsz (ctRf_known l dC dI cI 0 r6 hg) ⟨hx, hb, hml, hown, hts⟩ (va_cwS 1 hts (gS wq496 wq497 wq46 wq498) rfl rfl rfl (by decide +kernel) ⟨Nat.le_of_ble_eq_true rfl, Nat.le_of_ble_eq_true rfl⟩) hK hP hD hS hA rfl hl.1 rfl (Nat.le_of_ble_eq_true rfl) d_Rf_refuse_49 ⟨Nat.zero_le _, Nat.zero_le _⟩ (fun H locs hn6 hP hD hS => ?_)
        refine lv_if_ne (tgt := 59) hx hb d_Rf_refuse_52 rfl (fun hc7 => ?_) (fun hc7 => ?_)
        · have hf := ifn hf hc7
          refine lv_iload_n hx hb d_Rf_refuse_59 rfl (lv_at hl 0 rfl) ?_
          refine lv_iload_n hx hb d_Rf_refuse_60 rfl (lv_at hl 1 rfl) ?_
          obtain ⟨r8, hg, hf⟩ := bd1_some hf
          refine xsi (ctRf_shapeOf l dC dI cI 0 r8 hg) ⟨hx, hb, hml, hown, hts⟩ (va_cwS 1 hts (gS wq502 wq503 wq46 wq504) rfl rfl rfl (by decide +kernel) ⟨Nat.le_of_ble_eq_true rfl, Nat.le_of_ble_eq_true rfl⟩) hK hP hD hS hA rfl hl.1 rfl (Nat.le_of_ble_eq_true rfl) d_Rf_refuse_61 ⟨Nat.zero_le _, Nat.zero_le _⟩ (fun H locs hP hD hS => ?_)
          refine lv_icmp_ne (tgt := 75) hx hb d_Rf_refuse_64 rfl (fun hc9 => ?_) (fun hc9 => ?_)
          · have hf := ifn hf hc9
            refine lv_sipush (v := 26368) hx hb d_Rf_refuse_75 (by decide) ?_
            have e1_ := lf1 hf
            subst e1_
            have hP9 := hP.sub (ws' := [(hq, .inr (3, [.ref qm, .ref qf, .ref ql, .int nc, .int nd, .int nf, .int na, .int nz, .int no, .int ns, .int nv, .int np, .ref qi, .int nn, .ref qo, .int nt])), (qm, .inl (cI, 104, .inl nm)), (qf, .inl (cI, 104, .inl nb)), (ql, .inl (cI, 4, .inl nl)), (qi, .inl (cI, 24, .inl ni)), (qo, .inl (cI, 16, .inl nu))]) [0, 1, 2, 3, 4, 5] rfl
            have hD9 := hD.sub (ws' := [(hq, .inr (3, [.ref qm, .ref qf, .ref ql, .int nc, .int nd, .int nf, .int na, .int nz, .int no, .int ns, .int nv, .int np, .ref qi, .int nn, .ref qo, .int nt])), (qm, .inl (cI, 104, .inl nm)), (qf, .inl (cI, 104, .inl nb)), (ql, .inl (cI, 4, .inl nl)), (qi, .inl (cI, 24, .inl ni)), (qo, .inl (cI, 16, .inl nu))]) [0, 1, 2, 3, 4, 5] (by decide) rfl
            exact W.iret (v := 26368) hx hb hr (fun t ht hW => ⟨⟨26368, (), rfl, rfl, by rw [ht]; exact hP9, va_K.moved hW.alike hK, hD9⟩, hS.F ht⟩) hS.2.2 d_Rf_refuse_78
          have hf := ift hf hc9
          refine lv_aload_n hx hb d_Rf_refuse_67 rfl (lv_at hl 2 rfl) ?_
          refine lv_iload_n hx hb d_Rf_refuse_68 rfl (lv_at hl 1 rfl) ?_
          obtain ⟨r10, hg, hf⟩ := bd1_some hf
          refine xcz (wr := []) (ctRf_lengthWrong l dC dI cI hq qm qf ql qi qo nm nb nl nc nd nf na nz no ns nv np ni nn nu nt 0 r10 hg) ⟨hx, hb, hml, hown, hts⟩ (cwV (C := R_Rf) 1 hts (gV wq505 wq507 wq28 wq46 wq508) rfl rfl rfl (by decide +kernel) ⟨Nat.le_of_ble_eq_true rfl, Nat.le_of_ble_eq_true rfl⟩) hK hP hD hS hA [0, 1, 2, 3, 4, 5] [] rfl rfl rfl rfl (by decide) (ci := 3) (q0 := 0) rfl rfl rfl rfl hl.1 rfl (Nat.le_of_ble_eq_true rfl) d_Rf_refuse_69 ⟨Nat.zero_le _, Nat.zero_le _⟩ (fun H locs hn10 hP hD hS => ?_)
          have hP : va_P (dC, dI) vwCl [(hq, .inr (3, [.ref qm, .ref qf, .ref ql, .int nc, .int nd, .int nf, .int na, .int nz, .int no, .int ns, .int nv, .int np, .ref qi, .int nn, .ref qo, .int nt])), (qm, .inl (cI, 104, .inl nm)), (qf, .inl (cI, 104, .inl nb)), (ql, .inl (cI, 4, .inl nl)), (qi, .inl (cI, 24, .inl ni)), (qo, .inl (cI, 16, .inl nu))] H := hP
          have hD : va_D A [(hq, .inr (3, [.ref qm, .ref qf, .ref ql, .int nc, .int nd, .int nf, .int na, .int nz, .int no, .int ns, .int nv, .int np, .ref qi, .int nn, .ref qo, .int nt])), (qm, .inl (cI, 104, .inl nm)), (qf, .inl (cI, 104, .inl nb)), (ql, .inl (cI, 4, .inl nl)), (qi, .inl (cI, 24, .inl ni)), (qo, .inl (cI, 16, .inl nu))] := hD
          refine lv_if_eq (tgt := 79) hx hb d_Rf_refuse_72 rfl (fun hc11 => ?_) (fun hc11 => ?_)
          · have hf := ift hf hc11
            refine lv_aload_n hx hb d_Rf_refuse_79 rfl (lv_at hl 2 rfl) ?_
            refine lv_iload_n hx hb d_Rf_refuse_80 rfl (lv_at hl 1 rfl) ?_
            obtain ⟨r12, hg, hf⟩ := bd1_some hf
            refine xcz (wr := []) (ctRf_placesWrong l dC dI cI hq qm qf ql qi qo nm nb nl nc nd nf na nz no ns nv np ni nn nu nt 0 r12 hg) ⟨hx, hb, hml, hown, hts⟩ (cwV (C := R_Rf) 1 hts (gV wq509 wq511 wq29 wq46 wq512) rfl rfl rfl (by decide +kernel) ⟨Nat.le_of_ble_eq_true rfl, Nat.le_of_ble_eq_true rfl⟩) hK hP hD hS hA [0, 1, 2, 3, 4, 5] [] rfl rfl rfl rfl (by decide) (ci := 3) (q0 := 0) rfl rfl rfl rfl hl.1 rfl (Nat.le_of_ble_eq_true rfl) d_Rf_refuse_81 ⟨Nat.zero_le _, Nat.zero_le _⟩ (fun H locs hn12 hP hD hS => ?_)
            have hP : va_P (dC, dI) vwCl [(hq, .inr (3, [.ref qm, .ref qf, .ref ql, .int nc, .int nd, .int nf, .int na, .int nz, .int no, .int ns, .int nv, .int np, .ref qi, .int nn, .ref qo, .int nt])), (qm, .inl (cI, 104, .inl nm)), (qf, .inl (cI, 104, .inl nb)), (ql, .inl (cI, 4, .inl nl)), (qi, .inl (cI, 24, .inl ni)), (qo, .inl (cI, 16, .inl nu))] H := hP
            have hD : va_D A [(hq, .inr (3, [.ref qm, .ref qf, .ref ql, .int nc, .int nd, .int nf, .int na, .int nz, .int no, .int ns, .int nv, .int np, .ref qi, .int nn, .ref qo, .int nt])), (qm, .inl (cI, 104, .inl nm)), (qf, .inl (cI, 104, .inl nb)), (ql, .inl (cI, 4, .inl nl)), (qi, .inl (cI, 24, .inl ni)), (qo, .inl (cI, 16, .inl nu))] := hD
            refine lv_if_eq (tgt := 91) hx hb d_Rf_refuse_84 rfl (fun hc13 => ?_) (fun hc13 => ?_)
            · have hf := ift hf hc13
              refine lv_iload_n hx hb d_Rf_refuse_91 rfl (lv_at hl 1 rfl) ?_
              refine lv_sipush (v := 164) hx hb d_Rf_refuse_92 (by decide) ?_
              refine lv_icmp_eq (tgt := 109) hx hb d_Rf_refuse_95 rfl (fun hc14 => ?_) (fun hc14 => ?_)
              · have hf := ift hf hc14
                refine lv_iload_n hx hb d_Rf_refuse_109 rfl (lv_at hl 1 rfl) ?_
                obtain ⟨r15, hg, hf⟩ := bd1_some hf
                refine xsz (ctRf_starred l dC dI cI 0 r15 hg) ⟨hx, hb, hml, hown, hts⟩ (va_cwS 1 hts (gS wq499 wq500 wq46 wq501) rfl rfl rfl (by decide +kernel) ⟨Nat.le_of_ble_eq_true rfl, Nat.le_of_ble_eq_true rfl⟩) hK hP hD hS hA rfl hl.1 rfl (Nat.le_of_ble_eq_true rfl) d_Rf_refuse_110 ⟨Nat.zero_le _, Nat.zero_le _⟩ (fun H locs hn15 hP hD hS => ?_)
                refine lv_if_eq (tgt := 129) hx hb d_Rf_refuse_113 rfl (fun hc16 => ?_) (fun hc16 => ?_)
                · have hf := ift hf hc16
                  refine lv_iconst (v := 0) hx hb d_Rf_refuse_129 (by decide) ?_
                  have e1_ := lf1 hf
                  subst e1_
                  have hP9 := hP.sub (ws' := [(hq, .inr (3, [.ref qm, .ref qf, .ref ql, .int nc, .int nd, .int nf, .int na, .int nz, .int no, .int ns, .int nv, .int np, .ref qi, .int nn, .ref qo, .int nt])), (qm, .inl (cI, 104, .inl nm)), (qf, .inl (cI, 104, .inl nb)), (ql, .inl (cI, 4, .inl nl)), (qi, .inl (cI, 24, .inl ni)), (qo, .inl (cI, 16, .inl nu))]) [0, 1, 2, 3, 4, 5] rfl
                  have hD9 := hD.sub (ws' := [(hq, .inr (3, [.ref qm, .ref qf, .ref ql, .int nc, .int nd, .int nf, .int na, .int nz, .int no, .int ns, .int nv, .int np, .ref qi, .int nn, .ref qo, .int nt])), (qm, .inl (cI, 104, .inl nm)), (qf, .inl (cI, 104, .inl nb)), (ql, .inl (cI, 4, .inl nl)), (qi, .inl (cI, 24, .inl ni)), (qo, .inl (cI, 16, .inl nu))]) [0, 1, 2, 3, 4, 5] (by decide) rfl
                  exact W.iret (v := 0) hx hb hr (fun t ht hW => ⟨⟨0, (), rfl, rfl, by rw [ht]; exact hP9, va_K.moved hW.alike hK, hD9⟩, hS.F ht⟩) hS.2.2 d_Rf_refuse_130
                have hf := ifn hf hc16
                refine lv_aload_n hx hb d_Rf_refuse_116 rfl (lv_at hl 2 rfl) ?_
                refine va_get (D := (dC, dI)) (ci := 3) (v := .int nv) (C := R_Rf) (T := F_Rf) (N := 16) hx hb hts inRf hown hK hP 0 rfl rfl 10 (by decide) kf33 (fun _ h9 => h9) rfl d_Rf_refuse_117 ?_
                refine lv_if_ne (tgt := 129) hx hb d_Rf_refuse_120 rfl (fun hc17 => ?_) (fun hc17 => ?_)
                · have hf := ifn hf hc17
                  refine lv_iconst (v := 0) hx hb d_Rf_refuse_129 (by decide) ?_
                  have e1_ := lf1 hf
                  subst e1_
                  have hP9 := hP.sub (ws' := [(hq, .inr (3, [.ref qm, .ref qf, .ref ql, .int nc, .int nd, .int nf, .int na, .int nz, .int no, .int ns, .int nv, .int np, .ref qi, .int nn, .ref qo, .int nt])), (qm, .inl (cI, 104, .inl nm)), (qf, .inl (cI, 104, .inl nb)), (ql, .inl (cI, 4, .inl nl)), (qi, .inl (cI, 24, .inl ni)), (qo, .inl (cI, 16, .inl nu))]) [0, 1, 2, 3, 4, 5] rfl
                  have hD9 := hD.sub (ws' := [(hq, .inr (3, [.ref qm, .ref qf, .ref ql, .int nc, .int nd, .int nf, .int na, .int nz, .int no, .int ns, .int nv, .int np, .ref qi, .int nn, .ref qo, .int nt])), (qm, .inl (cI, 104, .inl nm)), (qf, .inl (cI, 104, .inl nb)), (ql, .inl (cI, 4, .inl nl)), (qi, .inl (cI, 24, .inl ni)), (qo, .inl (cI, 16, .inl nu))]) [0, 1, 2, 3, 4, 5] (by decide) rfl
                  exact W.iret (v := 0) hx hb hr (fun t ht hW => ⟨⟨0, (), rfl, rfl, by rw [ht]; exact hP9, va_K.moved hW.alike hK, hD9⟩, hS.F ht⟩) hS.2.2 d_Rf_refuse_130
                have hf := ift hf hc17
                refine lv_sipush (v := 27010) hx hb d_Rf_refuse_123 (by decide) ?_
                refine lv_goto (tgt := 130) hx hb d_Rf_refuse_126 rfl ?_
                have e1_ := lf1 hf
                subst e1_
                have hP9 := hP.sub (ws' := [(hq, .inr (3, [.ref qm, .ref qf, .ref ql, .int nc, .int nd, .int nf, .int na, .int nz, .int no, .int ns, .int nv, .int np, .ref qi, .int nn, .ref qo, .int nt])), (qm, .inl (cI, 104, .inl nm)), (qf, .inl (cI, 104, .inl nb)), (ql, .inl (cI, 4, .inl nl)), (qi, .inl (cI, 24, .inl ni)), (qo, .inl (cI, 16, .inl nu))]) [0, 1, 2, 3, 4, 5] rfl
                have hD9 := hD.sub (ws' := [(hq, .inr (3, [.ref qm, .ref qf, .ref ql, .int nc, .int nd, .int nf, .int na, .int nz, .int no, .int ns, .int nv, .int np, .ref qi, .int nn, .ref qo, .int nt])), (qm, .inl (cI, 104, .inl nm)), (qf, .inl (cI, 104, .inl nb)), (ql, .inl (cI, 4, .inl nl)), (qi, .inl (cI, 24, .inl ni)), (qo, .inl (cI, 16, .inl nu))]) [0, 1, 2, 3, 4, 5] (by decide) rfl
                exact W.iret (v := 27010) hx hb hr (fun t ht hW => ⟨⟨27010, (), rfl, rfl, by rw [ht]; exact hP9, va_K.moved hW.alike hK, hD9⟩, hS.F ht⟩) hS.2.2 d_Rf_refuse_130
              have hf := ifn hf hc14
              refine lv_aload_n hx hb d_Rf_refuse_98 rfl (lv_at hl 2 rfl) ?_
              refine va_get (D := (dC, dI)) (ci := 3) (v := .int ns) (C := R_Rf) (T := F_Rf) (N := 16) hx hb hts inRf hown hK hP 0 rfl rfl 9 (by decide) kf23 (fun _ h9 => h9) rfl d_Rf_refuse_99 ?_
              refine lv_if_ge (tgt := 109) hx hb d_Rf_refuse_102 rfl (fun hc18 => ?_) (fun hc18 => ?_)
              · have hf := ift hf hc18
                refine lv_iload_n hx hb d_Rf_refuse_109 rfl (lv_at hl 1 rfl) ?_
                obtain ⟨r19, hg, hf⟩ := bd1_some hf
                refine xsz (ctRf_starred l dC dI cI 0 r19 hg) ⟨hx, hb, hml, hown, hts⟩ (va_cwS 1 hts (gS wq499 wq500 wq46 wq501) rfl rfl rfl (by decide +kernel) ⟨Nat.le_of_ble_eq_true rfl, Nat.le_of_ble_eq_true rfl⟩) hK hP hD hS hA rfl hl.1 rfl (Nat.le_of_ble_eq_true rfl) d_Rf_refuse_110 ⟨Nat.zero_le _, Nat.zero_le _⟩ (fun H locs hn19 hP hD hS => ?_)
                refine lv_if_eq (tgt := 129) hx hb d_Rf_refuse_113 rfl (fun hc20 => ?_) (fun hc20 => ?_)
                · have hf := ift hf hc20
                  refine lv_iconst (v := 0) hx hb d_Rf_refuse_129 (by decide) ?_
                  have e1_ := lf1 hf
                  subst e1_
                  have hP9 := hP.sub (ws' := [(hq, .inr (3, [.ref qm, .ref qf, .ref ql, .int nc, .int nd, .int nf, .int na, .int nz, .int no, .int ns, .int nv, .int np, .ref qi, .int nn, .ref qo, .int nt])), (qm, .inl (cI, 104, .inl nm)), (qf, .inl (cI, 104, .inl nb)), (ql, .inl (cI, 4, .inl nl)), (qi, .inl (cI, 24, .inl ni)), (qo, .inl (cI, 16, .inl nu))]) [0, 1, 2, 3, 4, 5] rfl
                  have hD9 := hD.sub (ws' := [(hq, .inr (3, [.ref qm, .ref qf, .ref ql, .int nc, .int nd, .int nf, .int na, .int nz, .int no, .int ns, .int nv, .int np, .ref qi, .int nn, .ref qo, .int nt])), (qm, .inl (cI, 104, .inl nm)), (qf, .inl (cI, 104, .inl nb)), (ql, .inl (cI, 4, .inl nl)), (qi, .inl (cI, 24, .inl ni)), (qo, .inl (cI, 16, .inl nu))]) [0, 1, 2, 3, 4, 5] (by decide) rfl
                  exact W.iret (v := 0) hx hb hr (fun t ht hW => ⟨⟨0, (), rfl, rfl, by rw [ht]; exact hP9, va_K.moved hW.alike hK, hD9⟩, hS.F ht⟩) hS.2.2 d_Rf_refuse_130
                have hf := ifn hf hc20
                refine lv_aload_n hx hb d_Rf_refuse_116 rfl (lv_at hl 2 rfl) ?_
                refine va_get (D := (dC, dI)) (ci := 3) (v := .int nv) (C := R_Rf) (T := F_Rf) (N := 16) hx hb hts inRf hown hK hP 0 rfl rfl 10 (by decide) kf33 (fun _ h9 => h9) rfl d_Rf_refuse_117 ?_
                refine lv_if_ne (tgt := 129) hx hb d_Rf_refuse_120 rfl (fun hc21 => ?_) (fun hc21 => ?_)
                · have hf := ifn hf hc21
                  refine lv_iconst (v := 0) hx hb d_Rf_refuse_129 (by decide) ?_
                  have e1_ := lf1 hf
                  subst e1_
                  have hP9 := hP.sub (ws' := [(hq, .inr (3, [.ref qm, .ref qf, .ref ql, .int nc, .int nd, .int nf, .int na, .int nz, .int no, .int ns, .int nv, .int np, .ref qi, .int nn, .ref qo, .int nt])), (qm, .inl (cI, 104, .inl nm)), (qf, .inl (cI, 104, .inl nb)), (ql, .inl (cI, 4, .inl nl)), (qi, .inl (cI, 24, .inl ni)), (qo, .inl (cI, 16, .inl nu))]) [0, 1, 2, 3, 4, 5] rfl
                  have hD9 := hD.sub (ws' := [(hq, .inr (3, [.ref qm, .ref qf, .ref ql, .int nc, .int nd, .int nf, .int na, .int nz, .int no, .int ns, .int nv, .int np, .ref qi, .int nn, .ref qo, .int nt])), (qm, .inl (cI, 104, .inl nm)), (qf, .inl (cI, 104, .inl nb)), (ql, .inl (cI, 4, .inl nl)), (qi, .inl (cI, 24, .inl ni)), (qo, .inl (cI, 16, .inl nu))]) [0, 1, 2, 3, 4, 5] (by decide) rfl
                  exact W.iret (v := 0) hx hb hr (fun t ht hW => ⟨⟨0, (), rfl, rfl, by rw [ht]; exact hP9, va_K.moved hW.alike hK, hD9⟩, hS.F ht⟩) hS.2.2 d_Rf_refuse_130
                have hf := ift hf hc21
                refine lv_sipush (v := 27010) hx hb d_Rf_refuse_123 (by decide) ?_
                refine lv_goto (tgt := 130) hx hb d_Rf_refuse_126 rfl ?_
                have e1_ := lf1 hf
                subst e1_
                have hP9 := hP.sub (ws' := [(hq, .inr (3, [.ref qm, .ref qf, .ref ql, .int nc, .int nd, .int nf, .int na, .int nz, .int no, .int ns, .int nv, .int np, .ref qi, .int nn, .ref qo, .int nt])), (qm, .inl (cI, 104, .inl nm)), (qf, .inl (cI, 104, .inl nb)), (ql, .inl (cI, 4, .inl nl)), (qi, .inl (cI, 24, .inl ni)), (qo, .inl (cI, 16, .inl nu))]) [0, 1, 2, 3, 4, 5] rfl
                have hD9 := hD.sub (ws' := [(hq, .inr (3, [.ref qm, .ref qf, .ref ql, .int nc, .int nd, .int nf, .int na, .int nz, .int no, .int ns, .int nv, .int np, .ref qi, .int nn, .ref qo, .int nt])), (qm, .inl (cI, 104, .inl nm)), (qf, .inl (cI, 104, .inl nb)), (ql, .inl (cI, 4, .inl nl)), (qi, .inl (cI, 24, .inl ni)), (qo, .inl (cI, 16, .inl nu))]) [0, 1, 2, 3, 4, 5] (by decide) rfl
                exact W.iret (v := 27010) hx hb hr (fun t ht hW => ⟨⟨27010, (), rfl, rfl, by rw [ht]; exact hP9, va_K.moved hW.alike hK, hD9⟩, hS.F ht⟩) hS.2.2 d_Rf_refuse_130
              have hf := ifn hf hc18
              refine lv_sipush (v := 27013) hx hb d_Rf_refuse_105 (by decide) ?_
              have e1_ := lf1 hf
              subst e1_
              have hP9 := hP.sub (ws' := [(hq, .inr (3, [.ref qm, .ref qf, .ref ql, .int nc, .int nd, .int nf, .int na, .int nz, .int no, .int ns, .int nv, .int np, .ref qi, .int nn, .ref qo, .int nt])), (qm, .inl (cI, 104, .inl nm)), (qf, .inl (cI, 104, .inl nb)), (ql, .inl (cI, 4, .inl nl)), (qi, .inl (cI, 24, .inl ni)), (qo, .inl (cI, 16, .inl nu))]) [0, 1, 2, 3, 4, 5] rfl
              have hD9 := hD.sub (ws' := [(hq, .inr (3, [.ref qm, .ref qf, .ref ql, .int nc, .int nd, .int nf, .int na, .int nz, .int no, .int ns, .int nv, .int np, .ref qi, .int nn, .ref qo, .int nt])), (qm, .inl (cI, 104, .inl nm)), (qf, .inl (cI, 104, .inl nb)), (ql, .inl (cI, 4, .inl nl)), (qi, .inl (cI, 24, .inl ni)), (qo, .inl (cI, 16, .inl nu))]) [0, 1, 2, 3, 4, 5] (by decide) rfl
              exact W.iret (v := 27013) hx hb hr (fun t ht hW => ⟨⟨27013, (), rfl, rfl, by rw [ht]; exact hP9, va_K.moved hW.alike hK, hD9⟩, hS.F ht⟩) hS.2.2 d_Rf_refuse_108
            have hf := ifn hf hc13
            refine lv_sipush (v := 27270) hx hb d_Rf_refuse_87 (by decide) ?_
            have e1_ := lf1 hf
            subst e1_
            have hP9 := hP.sub (ws' := [(hq, .inr (3, [.ref qm, .ref qf, .ref ql, .int nc, .int nd, .int nf, .int na, .int nz, .int no, .int ns, .int nv, .int np, .ref qi, .int nn, .ref qo, .int nt])), (qm, .inl (cI, 104, .inl nm)), (qf, .inl (cI, 104, .inl nb)), (ql, .inl (cI, 4, .inl nl)), (qi, .inl (cI, 24, .inl ni)), (qo, .inl (cI, 16, .inl nu))]) [0, 1, 2, 3, 4, 5] rfl
            have hD9 := hD.sub (ws' := [(hq, .inr (3, [.ref qm, .ref qf, .ref ql, .int nc, .int nd, .int nf, .int na, .int nz, .int no, .int ns, .int nv, .int np, .ref qi, .int nn, .ref qo, .int nt])), (qm, .inl (cI, 104, .inl nm)), (qf, .inl (cI, 104, .inl nb)), (ql, .inl (cI, 4, .inl nl)), (qi, .inl (cI, 24, .inl ni)), (qo, .inl (cI, 16, .inl nu))]) [0, 1, 2, 3, 4, 5] (by decide) rfl
            exact W.iret (v := 27270) hx hb hr (fun t ht hW => ⟨⟨27270, (), rfl, rfl, by rw [ht]; exact hP9, va_K.moved hW.alike hK, hD9⟩, hS.F ht⟩) hS.2.2 d_Rf_refuse_90
          have hf := ifn hf hc11
          refine lv_sipush (v := 26368) hx hb d_Rf_refuse_75 (by decide) ?_
          have e1_ := lf1 hf
          subst e1_
          have hP9 := hP.sub (ws' := [(hq, .inr (3, [.ref qm, .ref qf, .ref ql, .int nc, .int nd, .int nf, .int na, .int nz, .int no, .int ns, .int nv, .int np, .ref qi, .int nn, .ref qo, .int nt])), (qm, .inl (cI, 104, .inl nm)), (qf, .inl (cI, 104, .inl nb)), (ql, .inl (cI, 4, .inl nl)), (qi, .inl (cI, 24, .inl ni)), (qo, .inl (cI, 16, .inl nu))]) [0, 1, 2, 3, 4, 5] rfl
          have hD9 := hD.sub (ws' := [(hq, .inr (3, [.ref qm, .ref qf, .ref ql, .int nc, .int nd, .int nf, .int na, .int nz, .int no, .int ns, .int nv, .int np, .ref qi, .int nn, .ref qo, .int nt])), (qm, .inl (cI, 104, .inl nm)), (qf, .inl (cI, 104, .inl nb)), (ql, .inl (cI, 4, .inl nl)), (qi, .inl (cI, 24, .inl ni)), (qo, .inl (cI, 16, .inl nu))]) [0, 1, 2, 3, 4, 5] (by decide) rfl
          exact W.iret (v := 26368) hx hb hr (fun t ht hW => ⟨⟨26368, (), rfl, rfl, by rw [ht]; exact hP9, va_K.moved hW.alike hK, hD9⟩, hS.F ht⟩) hS.2.2 d_Rf_refuse_78
        have hf := ift hf hc7
        refine lv_sipush (v := 27904) hx hb d_Rf_refuse_55 (by decide) ?_
        have e1_ := lf1 hf
        subst e1_
        have hP9 := hP.sub (ws' := [(hq, .inr (3, [.ref qm, .ref qf, .ref ql, .int nc, .int nd, .int nf, .int na, .int nz, .int no, .int ns, .int nv, .int np, .ref qi, .int nn, .ref qo, .int nt])), (qm, .inl (cI, 104, .inl nm)), (qf, .inl (cI, 104, .inl nb)), (ql, .inl (cI, 4, .inl nl)), (qi, .inl (cI, 24, .inl ni)), (qo, .inl (cI, 16, .inl nu))]) [0, 1, 2, 3, 4, 5] rfl
        have hD9 := hD.sub (ws' := [(hq, .inr (3, [.ref qm, .ref qf, .ref ql, .int nc, .int nd, .int nf, .int na, .int nz, .int no, .int ns, .int nv, .int np, .ref qi, .int nn, .ref qo, .int nt])), (qm, .inl (cI, 104, .inl nm)), (qf, .inl (cI, 104, .inl nb)), (ql, .inl (cI, 4, .inl nl)), (qi, .inl (cI, 24, .inl ni)), (qo, .inl (cI, 16, .inl nu))]) [0, 1, 2, 3, 4, 5] (by decide) rfl
        exact W.iret (v := 27904) hx hb hr (fun t ht hW => ⟨⟨27904, (), rfl, rfl, by rw [ht]; exact hP9, va_K.moved hW.alike hK, hD9⟩, hS.F ht⟩) hS.2.2 d_Rf_refuse_58
      have hf := ifn hf hc5
      refine lv_sipush (v := 28160) hx hb d_Rf_refuse_44 (by decide) ?_
      have e1_ := lf1 hf
      subst e1_
      have hP9 := hP.sub (ws' := [(hq, .inr (3, [.ref qm, .ref qf, .ref ql, .int nc, .int nd, .int nf, .int na, .int nz, .int no, .int ns, .int nv, .int np, .ref qi, .int nn, .ref qo, .int nt])), (qm, .inl (cI, 104, .inl nm)), (qf, .inl (cI, 104, .inl nb)), (ql, .inl (cI, 4, .inl nl)), (qi, .inl (cI, 24, .inl ni)), (qo, .inl (cI, 16, .inl nu))]) [0, 1, 2, 3, 4, 5] rfl
      have hD9 := hD.sub (ws' := [(hq, .inr (3, [.ref qm, .ref qf, .ref ql, .int nc, .int nd, .int nf, .int na, .int nz, .int no, .int ns, .int nv, .int np, .ref qi, .int nn, .ref qo, .int nt])), (qm, .inl (cI, 104, .inl nm)), (qf, .inl (cI, 104, .inl nb)), (ql, .inl (cI, 4, .inl nl)), (qi, .inl (cI, 24, .inl ni)), (qo, .inl (cI, 16, .inl nu))]) [0, 1, 2, 3, 4, 5] (by decide) rfl
      exact W.iret (v := 28160) hx hb hr (fun t ht hW => ⟨⟨28160, (), rfl, rfl, by rw [ht]; exact hP9, va_K.moved hW.alike hK, hD9⟩, hS.F ht⟩) hS.2.2 d_Rf_refuse_47
    have hf := ift hf hc3
    refine lv_sipush (v := 26368) hx hb d_Rf_refuse_28 (by decide) ?_
    have e1_ := lf1 hf
    subst e1_
    have hP9 := hP.sub (ws' := [(hq, .inr (3, [.ref qm, .ref qf, .ref ql, .int nc, .int nd, .int nf, .int na, .int nz, .int no, .int ns, .int nv, .int np, .ref qi, .int nn, .ref qo, .int nt])), (qm, .inl (cI, 104, .inl nm)), (qf, .inl (cI, 104, .inl nb)), (ql, .inl (cI, 4, .inl nl)), (qi, .inl (cI, 24, .inl ni)), (qo, .inl (cI, 16, .inl nu))]) [0, 1, 2, 3, 4, 5] rfl
    have hD9 := hD.sub (ws' := [(hq, .inr (3, [.ref qm, .ref qf, .ref ql, .int nc, .int nd, .int nf, .int na, .int nz, .int no, .int ns, .int nv, .int np, .ref qi, .int nn, .ref qo, .int nt])), (qm, .inl (cI, 104, .inl nm)), (qf, .inl (cI, 104, .inl nb)), (ql, .inl (cI, 4, .inl nl)), (qi, .inl (cI, 24, .inl ni)), (qo, .inl (cI, 16, .inl nu))]) [0, 1, 2, 3, 4, 5] (by decide) rfl
    exact W.iret (v := 26368) hx hb hr (fun t ht hW => ⟨⟨26368, (), rfl, rfl, by rw [ht]; exact hP9, va_K.moved hW.alike hK, hD9⟩, hS.F ht⟩) hS.2.2 d_Rf_refuse_31
  have hf := ifn hf hc1
  refine lv_aload_n hx hb d_Rf_refuse_8 rfl (lv_at hl 0 rfl) ?_
  refine va_get (D := (dC, dI)) (ci := 3) (v := .ref qi) (C := R_Rf) (T := F_Rf) (N := 16) hx hb hts inRf hown hK hP 0 rfl rfl 12 (by decide) kf27 (fun _ h9 => h9) rfl d_Rf_refuse_9 ?_
  refine lv_iconst (v := 1) hx hb d_Rf_refuse_12 (by decide) ?_
  obtain ⟨hin_, hf⟩ := ix_some hf
  refine va_iald hx hb hK hP 4 0 rfl rfl hin_ d_Rf_refuse_13 ?_
  refine lv_goto (tgt := 18) hx hb d_Rf_refuse_14 rfl ?_
  refine lv_istore_n hx hb d_Rf_refuse_18 rfl hl (by decide) rfl (fun ls hl => ?_)
  have hl : lv_has ls 3 [(1, .int (ni (1 : Int32).toNatClampNeg)), (0, .ref hq)] := hl
  refine lv_aload_n hx hb d_Rf_refuse_19 rfl (lv_at hl 1 rfl) ?_
  obtain ⟨r23, hg, hf⟩ := bd1_some hf
  refine xci (wr := []) (ctRf_shape l dC dI cI hq qm qf ql qi qo nm nb nl nc nd nf na nz no ns nv np ni nn nu nt r23 hg) ⟨hx, hb, hml, hown, hts⟩ (cwV (C := R_Rf) 0 hts (gV wq492 wq494 wq27 wq46 wq495) rfl rfl rfl (by decide +kernel) ⟨Nat.le_of_ble_eq_true rfl, Nat.le_of_ble_eq_true rfl⟩) hK hP hD hS hA [0, 1, 2, 3, 4, 5] [] rfl rfl rfl rfl (by decide) (ci := 3) (q0 := 0) rfl rfl rfl rfl hl.1 rfl (Nat.le_of_ble_eq_true rfl) d_Rf_refuse_20 ⟨Nat.zero_le _, Nat.zero_le _⟩ (fun H locs hP hD hS => ?_)
  have hP : va_P (dC, dI) vwCl [(hq, .inr (3, [.ref qm, .ref qf, .ref ql, .int nc, .int nd, .int nf, .int na, .int nz, .int no, .int ns, .int nv, .int np, .ref qi, .int nn, .ref qo, .int nt])), (qm, .inl (cI, 104, .inl nm)), (qf, .inl (cI, 104, .inl nb)), (ql, .inl (cI, 4, .inl nl)), (qi, .inl (cI, 24, .inl ni)), (qo, .inl (cI, 16, .inl nu))] H := hP
  have hD : va_D A [(hq, .inr (3, [.ref qm, .ref qf, .ref ql, .int nc, .int nd, .int nf, .int na, .int nz, .int no, .int ns, .int nv, .int np, .ref qi, .int nn, .ref qo, .int nt])), (qm, .inl (cI, 104, .inl nm)), (qf, .inl (cI, 104, .inl nb)), (ql, .inl (cI, 4, .inl nl)), (qi, .inl (cI, 24, .inl ni)), (qo, .inl (cI, 16, .inl nu))] := hD
  refine lv_istore_n hx hb d_Rf_refuse_23 rfl hl (by decide) rfl (fun ls hl => ?_)
  have hl : lv_has ls 3 [(2, .int r23), (1, .int (ni (1 : Int32).toNatClampNeg)), (0, .ref hq)] := hl
  refine lv_iload_n hx hb d_Rf_refuse_24 rfl (lv_at hl 0 rfl) ?_
  refine lv_if_ne (tgt := 32) hx hb d_Rf_refuse_25 rfl (fun hc24 => ?_) (fun hc24 => ?_)
  · have hf := ifn hf hc24
    refine lv_aload_n hx hb d_Rf_refuse_32 rfl (lv_at hl 2 rfl) ?_
    refine va_get (D := (dC, dI)) (ci := 3) (v := .ref qi) (C := R_Rf) (T := F_Rf) (N := 16) hx hb hts inRf hown hK hP 0 rfl rfl 12 (by decide) kf27 (fun _ h9 => h9) rfl d_Rf_refuse_33 ?_
    refine lv_iconst (v := 0) hx hb d_Rf_refuse_36 (by decide) ?_
    obtain ⟨hin_, hf⟩ := ix_some hf
    refine va_iald hx hb hK hP 4 0 rfl rfl hin_ d_Rf_refuse_37 ?_
    refine lv_sipush (v := 128) hx hb d_Rf_refuse_38 (by decide) ?_
    refine lv_icmp_eq (tgt := 48) hx hb d_Rf_refuse_41 rfl (fun hc26 => ?_) (fun hc26 => ?_)
    · have hf := ift hf hc26
      refine lv_iload_n hx hb d_Rf_refuse_48 rfl (lv_at hl 1 rfl) ?_
      obtain ⟨r27, hg, hf⟩ := bd1_some hf
      refine xsz (ctRf_known l dC dI cI (ni (1 : Int32).toNatClampNeg) r27 hg) ⟨hx, hb, hml, hown, hts⟩ (va_cwS 1 hts (gS wq496 wq497 wq46 wq498) rfl rfl rfl (by decide +kernel) ⟨Nat.le_of_ble_eq_true rfl, Nat.le_of_ble_eq_true rfl⟩) hK hP hD hS hA rfl hl.1 rfl (Nat.le_of_ble_eq_true rfl) d_Rf_refuse_49 ⟨Nat.zero_le _, Nat.zero_le _⟩ (fun H locs hn27 hP hD hS => ?_)
      refine lv_if_ne (tgt := 59) hx hb d_Rf_refuse_52 rfl (fun hc28 => ?_) (fun hc28 => ?_)
      · have hf := ifn hf hc28
        refine lv_iload_n hx hb d_Rf_refuse_59 rfl (lv_at hl 0 rfl) ?_
        refine lv_iload_n hx hb d_Rf_refuse_60 rfl (lv_at hl 1 rfl) ?_
        obtain ⟨r29, hg, hf⟩ := bd1_some hf
        refine xsi (ctRf_shapeOf l dC dI cI (ni (1 : Int32).toNatClampNeg) r29 hg) ⟨hx, hb, hml, hown, hts⟩ (va_cwS 1 hts (gS wq502 wq503 wq46 wq504) rfl rfl rfl (by decide +kernel) ⟨Nat.le_of_ble_eq_true rfl, Nat.le_of_ble_eq_true rfl⟩) hK hP hD hS hA rfl hl.1 rfl (Nat.le_of_ble_eq_true rfl) d_Rf_refuse_61 ⟨Nat.zero_le _, Nat.zero_le _⟩ (fun H locs hP hD hS => ?_)
        refine lv_icmp_ne (tgt := 75) hx hb d_Rf_refuse_64 rfl (fun hc30 => ?_) (fun hc30 => ?_)
        · have hf := ifn hf hc30
          refine lv_sipush (v := 26368) hx hb d_Rf_refuse_75 (by decide) ?_
          have e1_ := lf1 hf
          subst e1_
          have hP9 := hP.sub (ws' := [(hq, .inr (3, [.ref qm, .ref qf, .ref ql, .int nc, .int nd, .int nf, .int na, .int nz, .int no, .int ns, .int nv, .int np, .ref qi, .int nn, .ref qo, .int nt])), (qm, .inl (cI, 104, .inl nm)), (qf, .inl (cI, 104, .inl nb)), (ql, .inl (cI, 4, .inl nl)), (qi, .inl (cI, 24, .inl ni)), (qo, .inl (cI, 16, .inl nu))]) [0, 1, 2, 3, 4, 5] rfl
          have hD9 := hD.sub (ws' := [(hq, .inr (3, [.ref qm, .ref qf, .ref ql, .int nc, .int nd, .int nf, .int na, .int nz, .int no, .int ns, .int nv, .int np, .ref qi, .int nn, .ref qo, .int nt])), (qm, .inl (cI, 104, .inl nm)), (qf, .inl (cI, 104, .inl nb)), (ql, .inl (cI, 4, .inl nl)), (qi, .inl (cI, 24, .inl ni)), (qo, .inl (cI, 16, .inl nu))]) [0, 1, 2, 3, 4, 5] (by decide) rfl
          exact W.iret (v := 26368) hx hb hr (fun t ht hW => ⟨⟨26368, (), rfl, rfl, by rw [ht]; exact hP9, va_K.moved hW.alike hK, hD9⟩, hS.F ht⟩) hS.2.2 d_Rf_refuse_78
        have hf := ift hf hc30
        refine lv_aload_n hx hb d_Rf_refuse_67 rfl (lv_at hl 2 rfl) ?_
        refine lv_iload_n hx hb d_Rf_refuse_68 rfl (lv_at hl 1 rfl) ?_
        obtain ⟨r31, hg, hf⟩ := bd1_some hf
        refine xcz (wr := []) (ctRf_lengthWrong l dC dI cI hq qm qf ql qi qo nm nb nl nc nd nf na nz no ns nv np ni nn nu nt (ni (1 : Int32).toNatClampNeg) r31 hg) ⟨hx, hb, hml, hown, hts⟩ (cwV (C := R_Rf) 1 hts (gV wq505 wq507 wq28 wq46 wq508) rfl rfl rfl (by decide +kernel) ⟨Nat.le_of_ble_eq_true rfl, Nat.le_of_ble_eq_true rfl⟩) hK hP hD hS hA [0, 1, 2, 3, 4, 5] [] rfl rfl rfl rfl (by decide) (ci := 3) (q0 := 0) rfl rfl rfl rfl hl.1 rfl (Nat.le_of_ble_eq_true rfl) d_Rf_refuse_69 ⟨Nat.zero_le _, Nat.zero_le _⟩ (fun H locs hn31 hP hD hS => ?_)
        have hP : va_P (dC, dI) vwCl [(hq, .inr (3, [.ref qm, .ref qf, .ref ql, .int nc, .int nd, .int nf, .int na, .int nz, .int no, .int ns, .int nv, .int np, .ref qi, .int nn, .ref qo, .int nt])), (qm, .inl (cI, 104, .inl nm)), (qf, .inl (cI, 104, .inl nb)), (ql, .inl (cI, 4, .inl nl)), (qi, .inl (cI, 24, .inl ni)), (qo, .inl (cI, 16, .inl nu))] H := hP
        have hD : va_D A [(hq, .inr (3, [.ref qm, .ref qf, .ref ql, .int nc, .int nd, .int nf, .int na, .int nz, .int no, .int ns, .int nv, .int np, .ref qi, .int nn, .ref qo, .int nt])), (qm, .inl (cI, 104, .inl nm)), (qf, .inl (cI, 104, .inl nb)), (ql, .inl (cI, 4, .inl nl)), (qi, .inl (cI, 24, .inl ni)), (qo, .inl (cI, 16, .inl nu))] := hD
        refine lv_if_eq (tgt := 79) hx hb d_Rf_refuse_72 rfl (fun hc32 => ?_) (fun hc32 => ?_)
        · have hf := ift hf hc32
          refine lv_aload_n hx hb d_Rf_refuse_79 rfl (lv_at hl 2 rfl) ?_
          refine lv_iload_n hx hb d_Rf_refuse_80 rfl (lv_at hl 1 rfl) ?_
          obtain ⟨r33, hg, hf⟩ := bd1_some hf
          refine xcz (wr := []) (ctRf_placesWrong l dC dI cI hq qm qf ql qi qo nm nb nl nc nd nf na nz no ns nv np ni nn nu nt (ni (1 : Int32).toNatClampNeg) r33 hg) ⟨hx, hb, hml, hown, hts⟩ (cwV (C := R_Rf) 1 hts (gV wq509 wq511 wq29 wq46 wq512) rfl rfl rfl (by decide +kernel) ⟨Nat.le_of_ble_eq_true rfl, Nat.le_of_ble_eq_true rfl⟩) hK hP hD hS hA [0, 1, 2, 3, 4, 5] [] rfl rfl rfl rfl (by decide) (ci := 3) (q0 := 0) rfl rfl rfl rfl hl.1 rfl (Nat.le_of_ble_eq_true rfl) d_Rf_refuse_81 ⟨Nat.zero_le _, Nat.zero_le _⟩ (fun H locs hn33 hP hD hS => ?_)
          have hP : va_P (dC, dI) vwCl [(hq, .inr (3, [.ref qm, .ref qf, .ref ql, .int nc, .int nd, .int nf, .int na, .int nz, .int no, .int ns, .int nv, .int np, .ref qi, .int nn, .ref qo, .int nt])), (qm, .inl (cI, 104, .inl nm)), (qf, .inl (cI, 104, .inl nb)), (ql, .inl (cI, 4, .inl nl)), (qi, .inl (cI, 24, .inl ni)), (qo, .inl (cI, 16, .inl nu))] H := hP
          have hD : va_D A [(hq, .inr (3, [.ref qm, .ref qf, .ref ql, .int nc, .int nd, .int nf, .int na, .int nz, .int no, .int ns, .int nv, .int np, .ref qi, .int nn, .ref qo, .int nt])), (qm, .inl (cI, 104, .inl nm)), (qf, .inl (cI, 104, .inl nb)), (ql, .inl (cI, 4, .inl nl)), (qi, .inl (cI, 24, .inl ni)), (qo, .inl (cI, 16, .inl nu))] := hD
          refine lv_if_eq (tgt := 91) hx hb d_Rf_refuse_84 rfl (fun hc34 => ?_) (fun hc34 => ?_)
          · have hf := ift hf hc34
            refine lv_iload_n hx hb d_Rf_refuse_91 rfl (lv_at hl 1 rfl) ?_
            refine lv_sipush (v := 164) hx hb d_Rf_refuse_92 (by decide) ?_
            refine lv_icmp_eq (tgt := 109) hx hb d_Rf_refuse_95 rfl (fun hc35 => ?_) (fun hc35 => ?_)
            · have hf := ift hf hc35
              refine lv_iload_n hx hb d_Rf_refuse_109 rfl (lv_at hl 1 rfl) ?_
              obtain ⟨r36, hg, hf⟩ := bd1_some hf
              refine xsz (ctRf_starred l dC dI cI (ni (1 : Int32).toNatClampNeg) r36 hg) ⟨hx, hb, hml, hown, hts⟩ (va_cwS 1 hts (gS wq499 wq500 wq46 wq501) rfl rfl rfl (by decide +kernel) ⟨Nat.le_of_ble_eq_true rfl, Nat.le_of_ble_eq_true rfl⟩) hK hP hD hS hA rfl hl.1 rfl (Nat.le_of_ble_eq_true rfl) d_Rf_refuse_110 ⟨Nat.zero_le _, Nat.zero_le _⟩ (fun H locs hn36 hP hD hS => ?_)
              refine lv_if_eq (tgt := 129) hx hb d_Rf_refuse_113 rfl (fun hc37 => ?_) (fun hc37 => ?_)
              · have hf := ift hf hc37
                refine lv_iconst (v := 0) hx hb d_Rf_refuse_129 (by decide) ?_
                have e1_ := lf1 hf
                subst e1_
                have hP9 := hP.sub (ws' := [(hq, .inr (3, [.ref qm, .ref qf, .ref ql, .int nc, .int nd, .int nf, .int na, .int nz, .int no, .int ns, .int nv, .int np, .ref qi, .int nn, .ref qo, .int nt])), (qm, .inl (cI, 104, .inl nm)), (qf, .inl (cI, 104, .inl nb)), (ql, .inl (cI, 4, .inl nl)), (qi, .inl (cI, 24, .inl ni)), (qo, .inl (cI, 16, .inl nu))]) [0, 1, 2, 3, 4, 5] rfl
                have hD9 := hD.sub (ws' := [(hq, .inr (3, [.ref qm, .ref qf, .ref ql, .int nc, .int nd, .int nf, .int na, .int nz, .int no, .int ns, .int nv, .int np, .ref qi, .int nn, .ref qo, .int nt])), (qm, .inl (cI, 104, .inl nm)), (qf, .inl (cI, 104, .inl nb)), (ql, .inl (cI, 4, .inl nl)), (qi, .inl (cI, 24, .inl ni)), (qo, .inl (cI, 16, .inl nu))]) [0, 1, 2, 3, 4, 5] (by decide) rfl
                exact W.iret (v := 0) hx hb hr (fun t ht hW => ⟨⟨0, (), rfl, rfl, by rw [ht]; exact hP9, va_K.moved hW.alike hK, hD9⟩, hS.F ht⟩) hS.2.2 d_Rf_refuse_130
              have hf := ifn hf hc37
              refine lv_aload_n hx hb d_Rf_refuse_116 rfl (lv_at hl 2 rfl) ?_
              refine va_get (D := (dC, dI)) (ci := 3) (v := .int nv) (C := R_Rf) (T := F_Rf) (N := 16) hx hb hts inRf hown hK hP 0 rfl rfl 10 (by decide) kf33 (fun _ h9 => h9) rfl d_Rf_refuse_117 ?_
              refine lv_if_ne (tgt := 129) hx hb d_Rf_refuse_120 rfl (fun hc38 => ?_) (fun hc38 => ?_)
              · have hf := ifn hf hc38
                refine lv_iconst (v := 0) hx hb d_Rf_refuse_129 (by decide) ?_
                have e1_ := lf1 hf
                subst e1_
                have hP9 := hP.sub (ws' := [(hq, .inr (3, [.ref qm, .ref qf, .ref ql, .int nc, .int nd, .int nf, .int na, .int nz, .int no, .int ns, .int nv, .int np, .ref qi, .int nn, .ref qo, .int nt])), (qm, .inl (cI, 104, .inl nm)), (qf, .inl (cI, 104, .inl nb)), (ql, .inl (cI, 4, .inl nl)), (qi, .inl (cI, 24, .inl ni)), (qo, .inl (cI, 16, .inl nu))]) [0, 1, 2, 3, 4, 5] rfl
                have hD9 := hD.sub (ws' := [(hq, .inr (3, [.ref qm, .ref qf, .ref ql, .int nc, .int nd, .int nf, .int na, .int nz, .int no, .int ns, .int nv, .int np, .ref qi, .int nn, .ref qo, .int nt])), (qm, .inl (cI, 104, .inl nm)), (qf, .inl (cI, 104, .inl nb)), (ql, .inl (cI, 4, .inl nl)), (qi, .inl (cI, 24, .inl ni)), (qo, .inl (cI, 16, .inl nu))]) [0, 1, 2, 3, 4, 5] (by decide) rfl
                exact W.iret (v := 0) hx hb hr (fun t ht hW => ⟨⟨0, (), rfl, rfl, by rw [ht]; exact hP9, va_K.moved hW.alike hK, hD9⟩, hS.F ht⟩) hS.2.2 d_Rf_refuse_130
              have hf := ift hf hc38
              refine lv_sipush (v := 27010) hx hb d_Rf_refuse_123 (by decide) ?_
              refine lv_goto (tgt := 130) hx hb d_Rf_refuse_126 rfl ?_
              have e1_ := lf1 hf
              subst e1_
              have hP9 := hP.sub (ws' := [(hq, .inr (3, [.ref qm, .ref qf, .ref ql, .int nc, .int nd, .int nf, .int na, .int nz, .int no, .int ns, .int nv, .int np, .ref qi, .int nn, .ref qo, .int nt])), (qm, .inl (cI, 104, .inl nm)), (qf, .inl (cI, 104, .inl nb)), (ql, .inl (cI, 4, .inl nl)), (qi, .inl (cI, 24, .inl ni)), (qo, .inl (cI, 16, .inl nu))]) [0, 1, 2, 3, 4, 5] rfl
              have hD9 := hD.sub (ws' := [(hq, .inr (3, [.ref qm, .ref qf, .ref ql, .int nc, .int nd, .int nf, .int na, .int nz, .int no, .int ns, .int nv, .int np, .ref qi, .int nn, .ref qo, .int nt])), (qm, .inl (cI, 104, .inl nm)), (qf, .inl (cI, 104, .inl nb)), (ql, .inl (cI, 4, .inl nl)), (qi, .inl (cI, 24, .inl ni)), (qo, .inl (cI, 16, .inl nu))]) [0, 1, 2, 3, 4, 5] (by decide) rfl
              exact W.iret (v := 27010) hx hb hr (fun t ht hW => ⟨⟨27010, (), rfl, rfl, by rw [ht]; exact hP9, va_K.moved hW.alike hK, hD9⟩, hS.F ht⟩) hS.2.2 d_Rf_refuse_130
            have hf := ifn hf hc35
            refine lv_aload_n hx hb d_Rf_refuse_98 rfl (lv_at hl 2 rfl) ?_
            refine va_get (D := (dC, dI)) (ci := 3) (v := .int ns) (C := R_Rf) (T := F_Rf) (N := 16) hx hb hts inRf hown hK hP 0 rfl rfl 9 (by decide) kf23 (fun _ h9 => h9) rfl d_Rf_refuse_99 ?_
            refine lv_if_ge (tgt := 109) hx hb d_Rf_refuse_102 rfl (fun hc39 => ?_) (fun hc39 => ?_)
            · have hf := ift hf hc39
              refine lv_iload_n hx hb d_Rf_refuse_109 rfl (lv_at hl 1 rfl) ?_
              obtain ⟨r40, hg, hf⟩ := bd1_some hf
              refine xsz (ctRf_starred l dC dI cI (ni (1 : Int32).toNatClampNeg) r40 hg) ⟨hx, hb, hml, hown, hts⟩ (va_cwS 1 hts (gS wq499 wq500 wq46 wq501) rfl rfl rfl (by decide +kernel) ⟨Nat.le_of_ble_eq_true rfl, Nat.le_of_ble_eq_true rfl⟩) hK hP hD hS hA rfl hl.1 rfl (Nat.le_of_ble_eq_true rfl) d_Rf_refuse_110 ⟨Nat.zero_le _, Nat.zero_le _⟩ (fun H locs hn40 hP hD hS => ?_)
              refine lv_if_eq (tgt := 129) hx hb d_Rf_refuse_113 rfl (fun hc41 => ?_) (fun hc41 => ?_)
              · have hf := ift hf hc41
                refine lv_iconst (v := 0) hx hb d_Rf_refuse_129 (by decide) ?_
                have e1_ := lf1 hf
                subst e1_
                have hP9 := hP.sub (ws' := [(hq, .inr (3, [.ref qm, .ref qf, .ref ql, .int nc, .int nd, .int nf, .int na, .int nz, .int no, .int ns, .int nv, .int np, .ref qi, .int nn, .ref qo, .int nt])), (qm, .inl (cI, 104, .inl nm)), (qf, .inl (cI, 104, .inl nb)), (ql, .inl (cI, 4, .inl nl)), (qi, .inl (cI, 24, .inl ni)), (qo, .inl (cI, 16, .inl nu))]) [0, 1, 2, 3, 4, 5] rfl
                have hD9 := hD.sub (ws' := [(hq, .inr (3, [.ref qm, .ref qf, .ref ql, .int nc, .int nd, .int nf, .int na, .int nz, .int no, .int ns, .int nv, .int np, .ref qi, .int nn, .ref qo, .int nt])), (qm, .inl (cI, 104, .inl nm)), (qf, .inl (cI, 104, .inl nb)), (ql, .inl (cI, 4, .inl nl)), (qi, .inl (cI, 24, .inl ni)), (qo, .inl (cI, 16, .inl nu))]) [0, 1, 2, 3, 4, 5] (by decide) rfl
                exact W.iret (v := 0) hx hb hr (fun t ht hW => ⟨⟨0, (), rfl, rfl, by rw [ht]; exact hP9, va_K.moved hW.alike hK, hD9⟩, hS.F ht⟩) hS.2.2 d_Rf_refuse_130
              have hf := ifn hf hc41
              refine lv_aload_n hx hb d_Rf_refuse_116 rfl (lv_at hl 2 rfl) ?_
              refine va_get (D := (dC, dI)) (ci := 3) (v := .int nv) (C := R_Rf) (T := F_Rf) (N := 16) hx hb hts inRf hown hK hP 0 rfl rfl 10 (by decide) kf33 (fun _ h9 => h9) rfl d_Rf_refuse_117 ?_
              refine lv_if_ne (tgt := 129) hx hb d_Rf_refuse_120 rfl (fun hc42 => ?_) (fun hc42 => ?_)
              · have hf := ifn hf hc42
                refine lv_iconst (v := 0) hx hb d_Rf_refuse_129 (by decide) ?_
                have e1_ := lf1 hf
                subst e1_
                have hP9 := hP.sub (ws' := [(hq, .inr (3, [.ref qm, .ref qf, .ref ql, .int nc, .int nd, .int nf, .int na, .int nz, .int no, .int ns, .int nv, .int np, .ref qi, .int nn, .ref qo, .int nt])), (qm, .inl (cI, 104, .inl nm)), (qf, .inl (cI, 104, .inl nb)), (ql, .inl (cI, 4, .inl nl)), (qi, .inl (cI, 24, .inl ni)), (qo, .inl (cI, 16, .inl nu))]) [0, 1, 2, 3, 4, 5] rfl
                have hD9 := hD.sub (ws' := [(hq, .inr (3, [.ref qm, .ref qf, .ref ql, .int nc, .int nd, .int nf, .int na, .int nz, .int no, .int ns, .int nv, .int np, .ref qi, .int nn, .ref qo, .int nt])), (qm, .inl (cI, 104, .inl nm)), (qf, .inl (cI, 104, .inl nb)), (ql, .inl (cI, 4, .inl nl)), (qi, .inl (cI, 24, .inl ni)), (qo, .inl (cI, 16, .inl nu))]) [0, 1, 2, 3, 4, 5] (by decide) rfl
                exact W.iret (v := 0) hx hb hr (fun t ht hW => ⟨⟨0, (), rfl, rfl, by rw [ht]; exact hP9, va_K.moved hW.alike hK, hD9⟩, hS.F ht⟩) hS.2.2 d_Rf_refuse_130
              have hf := ift hf hc42
              refine lv_sipush (v := 27010) hx hb d_Rf_refuse_123 (by decide) ?_
              refine lv_goto (tgt := 130) hx hb d_Rf_refuse_126 rfl ?_
              have e1_ := lf1 hf
              subst e1_
              have hP9 := hP.sub (ws' := [(hq, .inr (3, [.ref qm, .ref qf, .ref ql, .int nc, .int nd, .int nf, .int na, .int nz, .int no, .int ns, .int nv, .int np, .ref qi, .int nn, .ref qo, .int nt])), (qm, .inl (cI, 104, .inl nm)), (qf, .inl (cI, 104, .inl nb)), (ql, .inl (cI, 4, .inl nl)), (qi, .inl (cI, 24, .inl ni)), (qo, .inl (cI, 16, .inl nu))]) [0, 1, 2, 3, 4, 5] rfl
              have hD9 := hD.sub (ws' := [(hq, .inr (3, [.ref qm, .ref qf, .ref ql, .int nc, .int nd, .int nf, .int na, .int nz, .int no, .int ns, .int nv, .int np, .ref qi, .int nn, .ref qo, .int nt])), (qm, .inl (cI, 104, .inl nm)), (qf, .inl (cI, 104, .inl nb)), (ql, .inl (cI, 4, .inl nl)), (qi, .inl (cI, 24, .inl ni)), (qo, .inl (cI, 16, .inl nu))]) [0, 1, 2, 3, 4, 5] (by decide) rfl
              exact W.iret (v := 27010) hx hb hr (fun t ht hW => ⟨⟨27010, (), rfl, rfl, by rw [ht]; exact hP9, va_K.moved hW.alike hK, hD9⟩, hS.F ht⟩) hS.2.2 d_Rf_refuse_130
            have hf := ifn hf hc39
            refine lv_sipush (v := 27013) hx hb d_Rf_refuse_105 (by decide) ?_
            have e1_ := lf1 hf
            subst e1_
            have hP9 := hP.sub (ws' := [(hq, .inr (3, [.ref qm, .ref qf, .ref ql, .int nc, .int nd, .int nf, .int na, .int nz, .int no, .int ns, .int nv, .int np, .ref qi, .int nn, .ref qo, .int nt])), (qm, .inl (cI, 104, .inl nm)), (qf, .inl (cI, 104, .inl nb)), (ql, .inl (cI, 4, .inl nl)), (qi, .inl (cI, 24, .inl ni)), (qo, .inl (cI, 16, .inl nu))]) [0, 1, 2, 3, 4, 5] rfl
            have hD9 := hD.sub (ws' := [(hq, .inr (3, [.ref qm, .ref qf, .ref ql, .int nc, .int nd, .int nf, .int na, .int nz, .int no, .int ns, .int nv, .int np, .ref qi, .int nn, .ref qo, .int nt])), (qm, .inl (cI, 104, .inl nm)), (qf, .inl (cI, 104, .inl nb)), (ql, .inl (cI, 4, .inl nl)), (qi, .inl (cI, 24, .inl ni)), (qo, .inl (cI, 16, .inl nu))]) [0, 1, 2, 3, 4, 5] (by decide) rfl
            exact W.iret (v := 27013) hx hb hr (fun t ht hW => ⟨⟨27013, (), rfl, rfl, by rw [ht]; exact hP9, va_K.moved hW.alike hK, hD9⟩, hS.F ht⟩) hS.2.2 d_Rf_refuse_108
          have hf := ifn hf hc34
          refine lv_sipush (v := 27270) hx hb d_Rf_refuse_87 (by decide) ?_
          have e1_ := lf1 hf
          subst e1_
          have hP9 := hP.sub (ws' := [(hq, .inr (3, [.ref qm, .ref qf, .ref ql, .int nc, .int nd, .int nf, .int na, .int nz, .int no, .int ns, .int nv, .int np, .ref qi, .int nn, .ref qo, .int nt])), (qm, .inl (cI, 104, .inl nm)), (qf, .inl (cI, 104, .inl nb)), (ql, .inl (cI, 4, .inl nl)), (qi, .inl (cI, 24, .inl ni)), (qo, .inl (cI, 16, .inl nu))]) [0, 1, 2, 3, 4, 5] rfl
          have hD9 := hD.sub (ws' := [(hq, .inr (3, [.ref qm, .ref qf, .ref ql, .int nc, .int nd, .int nf, .int na, .int nz, .int no, .int ns, .int nv, .int np, .ref qi, .int nn, .ref qo, .int nt])), (qm, .inl (cI, 104, .inl nm)), (qf, .inl (cI, 104, .inl nb)), (ql, .inl (cI, 4, .inl nl)), (qi, .inl (cI, 24, .inl ni)), (qo, .inl (cI, 16, .inl nu))]) [0, 1, 2, 3, 4, 5] (by decide) rfl
          exact W.iret (v := 27270) hx hb hr (fun t ht hW => ⟨⟨27270, (), rfl, rfl, by rw [ht]; exact hP9, va_K.moved hW.alike hK, hD9⟩, hS.F ht⟩) hS.2.2 d_Rf_refuse_90
        have hf := ifn hf hc32
        refine lv_sipush (v := 26368) hx hb d_Rf_refuse_75 (by decide) ?_
        have e1_ := lf1 hf
        subst e1_
        have hP9 := hP.sub (ws' := [(hq, .inr (3, [.ref qm, .ref qf, .ref ql, .int nc, .int nd, .int nf, .int na, .int nz, .int no, .int ns, .int nv, .int np, .ref qi, .int nn, .ref qo, .int nt])), (qm, .inl (cI, 104, .inl nm)), (qf, .inl (cI, 104, .inl nb)), (ql, .inl (cI, 4, .inl nl)), (qi, .inl (cI, 24, .inl ni)), (qo, .inl (cI, 16, .inl nu))]) [0, 1, 2, 3, 4, 5] rfl
        have hD9 := hD.sub (ws' := [(hq, .inr (3, [.ref qm, .ref qf, .ref ql, .int nc, .int nd, .int nf, .int na, .int nz, .int no, .int ns, .int nv, .int np, .ref qi, .int nn, .ref qo, .int nt])), (qm, .inl (cI, 104, .inl nm)), (qf, .inl (cI, 104, .inl nb)), (ql, .inl (cI, 4, .inl nl)), (qi, .inl (cI, 24, .inl ni)), (qo, .inl (cI, 16, .inl nu))]) [0, 1, 2, 3, 4, 5] (by decide) rfl
        exact W.iret (v := 26368) hx hb hr (fun t ht hW => ⟨⟨26368, (), rfl, rfl, by rw [ht]; exact hP9, va_K.moved hW.alike hK, hD9⟩, hS.F ht⟩) hS.2.2 d_Rf_refuse_78
      have hf := ift hf hc28
      refine lv_sipush (v := 27904) hx hb d_Rf_refuse_55 (by decide) ?_
      have e1_ := lf1 hf
      subst e1_
      have hP9 := hP.sub (ws' := [(hq, .inr (3, [.ref qm, .ref qf, .ref ql, .int nc, .int nd, .int nf, .int na, .int nz, .int no, .int ns, .int nv, .int np, .ref qi, .int nn, .ref qo, .int nt])), (qm, .inl (cI, 104, .inl nm)), (qf, .inl (cI, 104, .inl nb)), (ql, .inl (cI, 4, .inl nl)), (qi, .inl (cI, 24, .inl ni)), (qo, .inl (cI, 16, .inl nu))]) [0, 1, 2, 3, 4, 5] rfl
      have hD9 := hD.sub (ws' := [(hq, .inr (3, [.ref qm, .ref qf, .ref ql, .int nc, .int nd, .int nf, .int na, .int nz, .int no, .int ns, .int nv, .int np, .ref qi, .int nn, .ref qo, .int nt])), (qm, .inl (cI, 104, .inl nm)), (qf, .inl (cI, 104, .inl nb)), (ql, .inl (cI, 4, .inl nl)), (qi, .inl (cI, 24, .inl ni)), (qo, .inl (cI, 16, .inl nu))]) [0, 1, 2, 3, 4, 5] (by decide) rfl
      exact W.iret (v := 27904) hx hb hr (fun t ht hW => ⟨⟨27904, (), rfl, rfl, by rw [ht]; exact hP9, va_K.moved hW.alike hK, hD9⟩, hS.F ht⟩) hS.2.2 d_Rf_refuse_58
    have hf := ifn hf hc26
    refine lv_sipush (v := 28160) hx hb d_Rf_refuse_44 (by decide) ?_
    have e1_ := lf1 hf
    subst e1_
    have hP9 := hP.sub (ws' := [(hq, .inr (3, [.ref qm, .ref qf, .ref ql, .int nc, .int nd, .int nf, .int na, .int nz, .int no, .int ns, .int nv, .int np, .ref qi, .int nn, .ref qo, .int nt])), (qm, .inl (cI, 104, .inl nm)), (qf, .inl (cI, 104, .inl nb)), (ql, .inl (cI, 4, .inl nl)), (qi, .inl (cI, 24, .inl ni)), (qo, .inl (cI, 16, .inl nu))]) [0, 1, 2, 3, 4, 5] rfl
    have hD9 := hD.sub (ws' := [(hq, .inr (3, [.ref qm, .ref qf, .ref ql, .int nc, .int nd, .int nf, .int na, .int nz, .int no, .int ns, .int nv, .int np, .ref qi, .int nn, .ref qo, .int nt])), (qm, .inl (cI, 104, .inl nm)), (qf, .inl (cI, 104, .inl nb)), (ql, .inl (cI, 4, .inl nl)), (qi, .inl (cI, 24, .inl ni)), (qo, .inl (cI, 16, .inl nu))]) [0, 1, 2, 3, 4, 5] (by decide) rfl
    exact W.iret (v := 28160) hx hb hr (fun t ht hW => ⟨⟨28160, (), rfl, rfl, by rw [ht]; exact hP9, va_K.moved hW.alike hK, hD9⟩, hS.F ht⟩) hS.2.2 d_Rf_refuse_47
  have hf := ift hf hc24
  refine lv_sipush (v := 26368) hx hb d_Rf_refuse_28 (by decide) ?_
  have e1_ := lf1 hf
  subst e1_
  have hP9 := hP.sub (ws' := [(hq, .inr (3, [.ref qm, .ref qf, .ref ql, .int nc, .int nd, .int nf, .int na, .int nz, .int no, .int ns, .int nv, .int np, .ref qi, .int nn, .ref qo, .int nt])), (qm, .inl (cI, 104, .inl nm)), (qf, .inl (cI, 104, .inl nb)), (ql, .inl (cI, 4, .inl nl)), (qi, .inl (cI, 24, .inl ni)), (qo, .inl (cI, 16, .inl nu))]) [0, 1, 2, 3, 4, 5] rfl
  have hD9 := hD.sub (ws' := [(hq, .inr (3, [.ref qm, .ref qf, .ref ql, .int nc, .int nd, .int nf, .int na, .int nz, .int no, .int ns, .int nv, .int np, .ref qi, .int nn, .ref qo, .int nt])), (qm, .inl (cI, 104, .inl nm)), (qf, .inl (cI, 104, .inl nb)), (ql, .inl (cI, 4, .inl nl)), (qi, .inl (cI, 24, .inl ni)), (qo, .inl (cI, 16, .inl nu))]) [0, 1, 2, 3, 4, 5] (by decide) rfl
  exact W.iret (v := 26368) hx hb hr (fun t ht hW => ⟨⟨26368, (), rfl, rfl, by rw [ht]; exact hP9, va_K.moved hW.alike hK, hD9⟩, hS.F ht⟩) hS.2.2 d_Rf_refuse_31
theorem d_Rf_store_0 : decode b_Rf_store 0 = .ok (.aload_n 0, 1) := by decide +kernel
theorem d_Rf_store_1 : decode b_Rf_store 1 = .ok (.getfield 36, 3) := by decide +kernel
theorem d_Rf_store_4 : decode b_Rf_store 4 = .ok (.ifCond .eq 18, 3) := by decide +kernel
theorem d_Rf_store_7 : decode b_Rf_store 7 = .ok (.aload_n 0, 1) := by decide +kernel
theorem d_Rf_store_8 : decode b_Rf_store 8 = .ok (.getfield 64, 3) := by decide +kernel
theorem d_Rf_store_11 : decode b_Rf_store 11 = .ok (.iload_n 2, 1) := by decide +kernel
theorem d_Rf_store_12 : decode b_Rf_store 12 = .ok (.iadd, 1) := by decide +kernel
theorem d_Rf_store_13 : decode b_Rf_store 13 = .ok (.bipush 20, 2) := by decide +kernel
theorem d_Rf_store_15 : decode b_Rf_store 15 = .ok (.if_icmp .le 7, 3) := by decide +kernel
theorem d_Rf_store_18 : decode b_Rf_store 18 = .ok (.sipush 27268, 3) := by decide +kernel
theorem d_Rf_store_21 : decode b_Rf_store 21 = .ok (.ireturn, 1) := by decide +kernel
theorem d_Rf_store_22 : decode b_Rf_store 22 = .ok (.iconst 0, 1) := by decide +kernel
theorem d_Rf_store_23 : decode b_Rf_store 23 = .ok (.istore_n 3, 1) := by decide +kernel
theorem d_Rf_store_24 : decode b_Rf_store 24 = .ok (.iload_n 3, 1) := by decide +kernel
theorem d_Rf_store_25 : decode b_Rf_store 25 = .ok (.iload_n 2, 1) := by decide +kernel
theorem d_Rf_store_26 : decode b_Rf_store 26 = .ok (.if_icmp .ge 29, 3) := by decide +kernel
theorem d_Rf_store_29 : decode b_Rf_store 29 = .ok (.aload_n 0, 1) := by decide +kernel
theorem d_Rf_store_30 : decode b_Rf_store 30 = .ok (.iload_n 1, 1) := by decide +kernel
theorem d_Rf_store_31 : decode b_Rf_store 31 = .ok (.iload_n 3, 1) := by decide +kernel
theorem d_Rf_store_32 : decode b_Rf_store 32 = .ok (.iadd, 1) := by decide +kernel
theorem d_Rf_store_33 : decode b_Rf_store 33 = .ok (.aload_n 0, 1) := by decide +kernel
theorem d_Rf_store_34 : decode b_Rf_store 34 = .ok (.getfield 27, 3) := by decide +kernel
theorem d_Rf_store_37 : decode b_Rf_store 37 = .ok (.iconst 5, 1) := by decide +kernel
theorem d_Rf_store_38 : decode b_Rf_store 38 = .ok (.iload_n 3, 1) := by decide +kernel
theorem d_Rf_store_39 : decode b_Rf_store 39 = .ok (.iadd, 1) := by decide +kernel
theorem d_Rf_store_40 : decode b_Rf_store 40 = .ok (.iaload, 1) := by decide +kernel
theorem d_Rf_store_41 : decode b_Rf_store 41 = .ok (.invokevirtual 132, 3) := by decide +kernel
theorem d_Rf_store_44 : decode b_Rf_store 44 = .ok (.ifCond .ne 5, 3) := by decide +kernel
theorem d_Rf_store_47 : decode b_Rf_store 47 = .ok (.iconst (-1), 1) := by decide +kernel
theorem d_Rf_store_48 : decode b_Rf_store 48 = .ok (.ireturn, 1) := by decide +kernel
theorem d_Rf_store_49 : decode b_Rf_store 49 = .ok (.iinc 3 1, 3) := by decide +kernel
theorem d_Rf_store_52 : decode b_Rf_store 52 = .ok (.goto (-28), 3) := by decide +kernel
theorem d_Rf_store_55 : decode b_Rf_store 55 = .ok (.aload_n 0, 1) := by decide +kernel
theorem d_Rf_store_56 : decode b_Rf_store 56 = .ok (.getfield 36, 3) := by decide +kernel
theorem d_Rf_store_59 : decode b_Rf_store 59 = .ok (.ifCond .ne 10, 3) := by decide +kernel
theorem d_Rf_store_62 : decode b_Rf_store 62 = .ok (.aload_n 0, 1) := by decide +kernel
theorem d_Rf_store_63 : decode b_Rf_store 63 = .ok (.invokevirtual 136, 3) := by decide +kernel
theorem d_Rf_store_66 : decode b_Rf_store 66 = .ok (.ifCond .eq 8, 3) := by decide +kernel
theorem d_Rf_store_69 : decode b_Rf_store 69 = .ok (.ldc 103, 2) := by decide +kernel
theorem d_Rf_store_71 : decode b_Rf_store 71 = .ok (.goto 4, 3) := by decide +kernel
theorem d_Rf_store_74 : decode b_Rf_store 74 = .ok (.iconst (-1), 1) := by decide +kernel
theorem d_Rf_store_75 : decode b_Rf_store 75 = .ok (.ireturn, 1) := by decide +kernel
def fRf_store_L24 : Nat → StR → Int32 → Int32 → Int32 → Option (Int32 × StR)
  | 0, _, _, _, _ => none
  | n + 1, (nm, nb, nl, nc, nd, nf, na, nz, no, ns, nv, np, ni, nn, nu, nt), v1, v2, v3 => if v2 ≤ v3 then (if np = 0 then (bd17 (fRf_settle (nm, nb, nl, nc, nd, nf, na, nz, no, ns, nv, np, ni, nn, nu, nt)) fun r4 nm4 nb4 nl4 nc4 nd4 nf4 na4 nz4 no4 ns4 nv4 np4 ni4 nn4 nu4 nt4 => if r4 = 0 then (some ((-1), nm4, nb4, nl4, nc4, nd4, nf4, na4, nz4, no4, ns4, nv4, np4, ni4, nn4, nu4, nt4)) else (some (36864, nm4, nb4, nl4, nc4, nd4, nf4, na4, nz4, no4, ns4, nv4, np4, ni4, nn4, nu4, nt4))) else (some (36864, nm, nb, nl, nc, nd, nf, na, nz, no, ns, nv, np, ni, nn, nu, nt))) else (ix (5 + v3) 24 fun j6 => bd17 (fRf_change (nm, nb, nl, nc, nd, nf, na, nz, no, ns, nv, np, ni, nn, nu, nt) (v1 + v3) (ni j6)) fun r7 nm7 nb7 nl7 nc7 nd7 nf7 na7 nz7 no7 ns7 nv7 np7 ni7 nn7 nu7 nt7 => if r7 = 0 then (some ((-1), nm7, nb7, nl7, nc7, nd7, nf7, na7, nz7, no7, ns7, nv7, np7, ni7, nn7, nu7, nt7)) else (fRf_store_L24 n (nm7, nb7, nl7, nc7, nd7, nf7, na7, nz7, no7, ns7, nv7, np7, ni7, nn7, nu7, nt7) v1 v2 (v3 + 1)))
def fRf_store (σ : StR) (a1 : Int32) (a2 : Int32) : Option (Int32 × StR) := match σ with | (nm, nb, nl, nc, nd, nf, na, nz, no, ns, nv, np, ni, nn, nu, nt) => if np = 0 then (fRf_store_L24 300 (nm, nb, nl, nc, nd, nf, na, nz, no, ns, nv, np, ni, nn, nu, nt) a1 a2 0) else (if (nc + a2) ≤ 20 then (fRf_store_L24 300 (nm, nb, nl, nc, nd, nf, na, nz, no, ns, nv, np, ni, nn, nu, nt) a1 a2 0) else (some (27268, nm, nb, nl, nc, nd, nf, na, nz, no, ns, nv, np, ni, nn, nu, nt)))
set_option maxHeartbeats 4000000 in
set_option maxRecDepth 100000 in
theorem ctRf_store (l : Launch) (dC : Nat → ClassId) (dI : Nat → Nat → Nat) (cI : ClassId) (hq qm qf ql qi qo : Nat) (nm : Nat → Int32) (nb : Nat → Int32) (nl : Nat → Int32) (nc : Int32) (nd : Int32) (nf : Int32) (na : Int32) (nz : Int32) (no : Int32) (ns : Int32) (nv : Int32) (np : Int32) (ni : Nat → Int32) (nn : Int32) (nu : Nat → Int32) (nt : Int32) (a1 : Int32) (a2 : Int32) (r : Int32) (nm' : Nat → Int32) (nb' : Nat → Int32) (nl' : Nat → Int32) (nc' : Int32) (nd' : Int32) (nf' : Int32) (na' : Int32) (nz' : Int32) (no' : Int32) (ns' : Int32) (nv' : Int32) (np' : Int32) (ni' : Nat → Int32) (nn' : Int32) (nu' : Nat → Int32) (nt' : Int32) (hf : fRf_store (nm, nb, nl, nc, nd, nf, na, nz, no, ns, nv, np, ni, nn, nu, nt) a1 a2 = some (r, nm', nb', nl', nc', nd', nf', na', nz', no', ns', nv', np', ni', nn', nu', nt')) : CtI l y_Rf_store w_Rf_store ({ frames := 4, cells := 0, slots := 0, locals := 85 }) (dC, dI) [(cI, .int)] [.ref hq, .int a1, .int a2] [(hq, .inr (3, [.ref qm, .ref qf, .ref ql, .int nc, .int nd, .int nf, .int na, .int nz, .int no, .int ns, .int nv, .int np, .ref qi, .int nn, .ref qo, .int nt])), (qm, .inl (cI, 104, .inl nm)), (qf, .inl (cI, 104, .inl nb)), (ql, .inl (cI, 4, .inl nl)), (qi, .inl (cI, 24, .inl ni)), (qo, .inl (cI, 16, .inl nu))] [(hq, .inr (3, [.ref qm, .ref qf, .ref ql, .int nc', .int nd', .int nf', .int na', .int nz', .int no', .int ns', .int nv', .int np', .ref qi, .int nn', .ref qo, .int nt'])), (qm, .inl (cI, 104, .inl nm')), (qf, .inl (cI, 104, .inl nb')), (ql, .inl (cI, 4, .inl nl')), (qi, .inl (cI, 24, .inl ni')), (qo, .inl (cI, 16, .inl nu'))] r := by
  intro sz
  refine Met.ofW (cc := b_Rf_store) (maxL := 4) (ret := some .int) (by decide) rfl ?_
  intro p e s m args below meth c s₁ B hml hv
  obtain ⟨rfl, hsz, hP, hK, hD0⟩ := hv
  have hx := B.exec
  have hb := B.bytes
  have hr := B.returns
  have hts := atoms_spec (ws := w_Rf_store) B.pre
  have hown : s.vm.findClass R_Rf = some m.cls := findClass_of_methodNamed B.named
  have hlocks := B.notSynchronized
  subst hsz
  have hD := hD0.self (sz := s.heap.size)
  generalize hAe : va_A [(hq, .inr (3, [.ref qm, .ref qf, .ref ql, .int nc, .int nd, .int nf, .int na, .int nz, .int no, .int ns, .int nv, .int np, .ref qi, .int nn, .ref qo, .int nt])), (qm, .inl (cI, 104, .inl nm)), (qf, .inl (cI, 104, .inl nb)), (ql, .inl (cI, 4, .inl nl)), (qi, .inl (cI, 24, .inl ni)), (qo, .inl (cI, 16, .inl nu))] s.heap.size = A at hD ⊢
  have hA : ∀ q : Nat, s.heap.size ≤ q → A q := fun q h => by rw [← hAe]; exact Or.inr h
  have hS : va_S A s.heap s.heap [] := va_S.rf
  have hP : va_P (dC, dI) vwCl [(hq, .inr (3, [.ref qm, .ref qf, .ref ql, .int nc, .int nd, .int nf, .int na, .int nz, .int no, .int ns, .int nv, .int np, .ref qi, .int nn, .ref qo, .int nt])), (qm, .inl (cI, 104, .inl nm)), (qf, .inl (cI, 104, .inl nb)), (ql, .inl (cI, 4, .inl nl)), (qi, .inl (cI, 24, .inl ni)), (qo, .inl (cI, 16, .inl nu))] s.heap := hP
  have hl := lv_entry ([.ref hq, .int a1, .int a2]) (n := 4) (Nat.le_of_ble_eq_true rfl)
  rw [lg_entry_eq]
  generalize (lg_sl ([.ref hq, .int a1, .int a2]) ++ List.replicate (4 - (lg_sl ([.ref hq, .int a1, .int a2])).length) Slot.unset).toArray = ls at hl ⊢
  have hl : lv_has ls 4 [(0, .ref hq), (1, .int a1), (2, .int a2)] := hl
  have inRf : ∀ w ∈ u_ws R_Rf F_Rf 16, w ∈ w_Rf_store := fun w h => List.mem_cons_of_mem _ (in_Rf w h)
  have kc103 := hts _ (List.mem_cons_of_mem _ wq521)
  have kf27 := hts _ (List.mem_cons_of_mem _ wq418)
  have kf36 := hts _ (List.mem_cons_of_mem _ wq417)
  have kf64 := hts _ (List.mem_cons_of_mem _ wq409)
  rw [fRf_store] at hf
  refine lv_aload_n hx hb d_Rf_store_0 rfl (lv_at hl 0 rfl) ?_
  refine va_get (D := (dC, dI)) (ci := 3) (v := .int np) (C := R_Rf) (T := F_Rf) (N := 16) hx hb hts inRf hown hK hP 0 rfl rfl 11 (by decide) kf36 (fun _ h9 => h9) rfl d_Rf_store_1 ?_
  refine lv_if_eq (tgt := 22) hx hb d_Rf_store_4 rfl (fun hc1 => ?_) (fun hc1 => ?_)
  · have hf := ift hf hc1
    refine lv_iconst (v := 0) hx hb d_Rf_store_22 (by decide) ?_
    refine lv_istore_n hx hb d_Rf_store_23 rfl hl (by decide) rfl (fun ls hl => ?_)
    have hl : lv_has ls 4 [(3, .int 0), (0, .ref hq), (1, .int a1), (2, .int a2)] := hl
    have hl := lv_sub (l' := [(0, .ref hq), (1, .int a1), (2, .int a2), (3, .int 0)]) hl [1, 2, 3, 0] rfl
    refine xloop (σ := (Nat → Int32) × (Nat → Int32) × (Nat → Int32) × (Int32) × (Int32) × (Int32) × (Int32) × (Int32) × (Int32) × (Int32) × (Int32) × (Int32) × (Nat → Int32) × (Int32) × (Nat → Int32) × (Int32) × (Int32) × (Int32) × (Int32)) (pc := 24) (fun n x H locs ls => va_P (dC, dI) vwCl [(hq, .inr (3, [.ref qm, .ref qf, .ref ql, .int (x.2.2.2.1), .int (x.2.2.2.2.1), .int (x.2.2.2.2.2.1), .int (x.2.2.2.2.2.2.1), .int (x.2.2.2.2.2.2.2.1), .int (x.2.2.2.2.2.2.2.2.1), .int (x.2.2.2.2.2.2.2.2.2.1), .int (x.2.2.2.2.2.2.2.2.2.2.1), .int (x.2.2.2.2.2.2.2.2.2.2.2.1), .ref qi, .int (x.2.2.2.2.2.2.2.2.2.2.2.2.2.1), .ref qo, .int (x.2.2.2.2.2.2.2.2.2.2.2.2.2.2.2.1)])), (qm, .inl (cI, 104, .inl (x.1))), (qf, .inl (cI, 104, .inl (x.2.1))), (ql, .inl (cI, 4, .inl (x.2.2.1))), (qi, .inl (cI, 24, .inl (x.2.2.2.2.2.2.2.2.2.2.2.2.1))), (qo, .inl (cI, 16, .inl (x.2.2.2.2.2.2.2.2.2.2.2.2.2.2.1)))] H ∧ va_D A [(hq, .inr (3, [.ref qm, .ref qf, .ref ql, .int (x.2.2.2.1), .int (x.2.2.2.2.1), .int (x.2.2.2.2.2.1), .int (x.2.2.2.2.2.2.1), .int (x.2.2.2.2.2.2.2.1), .int (x.2.2.2.2.2.2.2.2.1), .int (x.2.2.2.2.2.2.2.2.2.1), .int (x.2.2.2.2.2.2.2.2.2.2.1), .int (x.2.2.2.2.2.2.2.2.2.2.2.1), .ref qi, .int (x.2.2.2.2.2.2.2.2.2.2.2.2.2.1), .ref qo, .int (x.2.2.2.2.2.2.2.2.2.2.2.2.2.2.2.1)])), (qm, .inl (cI, 104, .inl (x.1))), (qf, .inl (cI, 104, .inl (x.2.1))), (ql, .inl (cI, 4, .inl (x.2.2.1))), (qi, .inl (cI, 24, .inl (x.2.2.2.2.2.2.2.2.2.2.2.2.1))), (qo, .inl (cI, 16, .inl (x.2.2.2.2.2.2.2.2.2.2.2.2.2.2.1)))] ∧ va_S A s.heap H locs ∧ lv_has ls 4 [(0, .ref hq), (1, .int (x.2.2.2.2.2.2.2.2.2.2.2.2.2.2.2.2.1)), (2, .int (x.2.2.2.2.2.2.2.2.2.2.2.2.2.2.2.2.2.1)), (3, .int (x.2.2.2.2.2.2.2.2.2.2.2.2.2.2.2.2.2.2))] ∧ fRf_store_L24 n (x.1, x.2.1, x.2.2.1, x.2.2.2.1, x.2.2.2.2.1, x.2.2.2.2.2.1, x.2.2.2.2.2.2.1, x.2.2.2.2.2.2.2.1, x.2.2.2.2.2.2.2.2.1, x.2.2.2.2.2.2.2.2.2.1, x.2.2.2.2.2.2.2.2.2.2.1, x.2.2.2.2.2.2.2.2.2.2.2.1, x.2.2.2.2.2.2.2.2.2.2.2.2.1, x.2.2.2.2.2.2.2.2.2.2.2.2.2.1, x.2.2.2.2.2.2.2.2.2.2.2.2.2.2.1, x.2.2.2.2.2.2.2.2.2.2.2.2.2.2.2.1) x.2.2.2.2.2.2.2.2.2.2.2.2.2.2.2.2.1 x.2.2.2.2.2.2.2.2.2.2.2.2.2.2.2.2.2.1 x.2.2.2.2.2.2.2.2.2.2.2.2.2.2.2.2.2.2 = some (r, nm', nb', nl', nc', nd', nf', na', nz', no', ns', nv', np', ni', nn', nu', nt')) ?_ (fun x H locs ls h => by have h9 := h.2.2.2.2; rw [fRf_store_L24] at h9; cases h9) 300 (nm, nb, nl, nc, nd, nf, na, nz, no, ns, nv, np, ni, nn, nu, nt, a1, a2, 0) _ _ ls ⟨hP, hD, hS, hl, hf⟩
    intro n ih x H locs ls hI
    obtain ⟨nm, nb, nl, nc, nd, nf, na, nz, no, ns, nv, np, ni, nn, nu, nt, v1, v2, v3⟩ := x
    obtain ⟨hP, hD, hS, hl, hf⟩ := hI
    have hP : va_P (dC, dI) vwCl [(hq, .inr (3, [.ref qm, .ref qf, .ref ql, .int nc, .int nd, .int nf, .int na, .int nz, .int no, .int ns, .int nv, .int np, .ref qi, .int nn, .ref qo, .int nt])), (qm, .inl (cI, 104, .inl nm)), (qf, .inl (cI, 104, .inl nb)), (ql, .inl (cI, 4, .inl nl)), (qi, .inl (cI, 24, .inl ni)), (qo, .inl (cI, 16, .inl nu))] H := hP
    have hD : va_D A [(hq, .inr (3, [.ref qm, .ref qf, .ref ql, .int nc, .int nd, .int nf, .int na, .int nz, .int no, .int ns, .int nv, .int np, .ref qi, .int nn, .ref qo, .int nt])), (qm, .inl (cI, 104, .inl nm)), (qf, .inl (cI, 104, .inl nb)), (ql, .inl (cI, 4, .inl nl)), (qi, .inl (cI, 24, .inl ni)), (qo, .inl (cI, 16, .inl nu))] := hD
    have hl : lv_has ls 4 [(0, .ref hq), (1, .int v1), (2, .int v2), (3, .int v3)] := hl
    rw [fRf_store_L24] at hf
    refine lv_iload_n hx hb d_Rf_store_24 rfl (lv_at hl 3 rfl) ?_
    refine lv_iload_n hx hb d_Rf_store_25 rfl (lv_at hl 2 rfl) ?_
    refine lv_icmp_ge (tgt := 55) hx hb d_Rf_store_26 rfl (fun hc2 => ?_) (fun hc2 => ?_)
    · have hf := ift hf hc2
      refine lv_aload_n hx hb d_Rf_store_55 rfl (lv_at hl 0 rfl) ?_
      refine va_get (D := (dC, dI)) (ci := 3) (v := .int np) (C := R_Rf) (T := F_Rf) (N := 16) hx hb hts inRf hown hK hP 0 rfl rfl 11 (by decide) kf36 (fun _ h9 => h9) rfl d_Rf_store_56 ?_
      refine lv_if_ne (tgt := 69) hx hb d_Rf_store_59 rfl (fun hc3 => ?_) (fun hc3 => ?_)
      · have hf := ifn hf hc3
        refine lv_ldc (v := 36864) hx hb hown kc103 d_Rf_store_69 ?_
        refine lv_goto (tgt := 75) hx hb d_Rf_store_71 rfl ?_
        obtain ⟨e1_, e2_, e3_, e4_, e5_, e6_, e7_, e8_, e9_, e10_, e11_, e12_, e13_, e14_, e15_, e16_, e17_⟩ := lf17 hf
        subst e1_; subst e2_; subst e3_; subst e4_; subst e5_; subst e6_; subst e7_; subst e8_; subst e9_; subst e10_; subst e11_; subst e12_; subst e13_; subst e14_; subst e15_; subst e16_; subst e17_
        have hP9 := hP.sub (ws' := [(hq, .inr (3, [.ref qm, .ref qf, .ref ql, .int nc, .int nd, .int nf, .int na, .int nz, .int no, .int ns, .int nv, .int np, .ref qi, .int nn, .ref qo, .int nt])), (qm, .inl (cI, 104, .inl nm)), (qf, .inl (cI, 104, .inl nb)), (ql, .inl (cI, 4, .inl nl)), (qi, .inl (cI, 24, .inl ni)), (qo, .inl (cI, 16, .inl nu))]) [0, 1, 2, 3, 4, 5] rfl
        have hD9 := hD.sub (ws' := [(hq, .inr (3, [.ref qm, .ref qf, .ref ql, .int nc, .int nd, .int nf, .int na, .int nz, .int no, .int ns, .int nv, .int np, .ref qi, .int nn, .ref qo, .int nt])), (qm, .inl (cI, 104, .inl nm)), (qf, .inl (cI, 104, .inl nb)), (ql, .inl (cI, 4, .inl nl)), (qi, .inl (cI, 24, .inl ni)), (qo, .inl (cI, 16, .inl nu))]) [0, 1, 2, 3, 4, 5] (by decide) rfl
        exact W.iret (v := 36864) hx hb hr (fun t ht hW => ⟨⟨36864, (), rfl, rfl, by rw [ht]; exact hP9, va_K.moved hW.alike hK, hD9⟩, hS.F ht⟩) hS.2.2 d_Rf_store_75
      have hf := ift hf hc3
      refine lv_aload_n hx hb d_Rf_store_62 rfl (lv_at hl 0 rfl) ?_
      obtain ⟨r4, nm4, nb4, nl4, nc4, nd4, nf4, na4, nz4, no4, ns4, nv4, np4, ni4, nn4, nu4, nt4, hg, hf⟩ := bd17_some hf
      refine xcz (wr := []) (ctRf_settle l dC dI cI hq qm qf ql qi qo nm nb nl nc nd nf na nz no ns nv np ni nn nu nt r4 nm4 nb4 nl4 nc4 nd4 nf4 na4 nz4 no4 ns4 nv4 np4 ni4 nn4 nu4 nt4 hg) ⟨hx, hb, hml, hown, hts⟩ (cwV (C := R_Rf) 0 hts (gV wq534 wq536 wq35 wq46 wq537) rfl rfl rfl (by decide +kernel) ⟨Nat.le_of_ble_eq_true rfl, Nat.le_of_ble_eq_true rfl⟩) hK hP hD hS hA [0, 1, 2, 3, 4, 5] [] rfl rfl rfl rfl (by decide) (ci := 3) (q0 := 0) rfl rfl rfl rfl hl.1 rfl (Nat.le_of_ble_eq_true rfl) d_Rf_store_63 ⟨Nat.zero_le _, Nat.zero_le _⟩ (fun H locs hn4 hP hD hS => ?_)
      have hP : va_P (dC, dI) vwCl [(hq, .inr (3, [.ref qm, .ref qf, .ref ql, .int nc4, .int nd4, .int nf4, .int na4, .int nz4, .int no4, .int ns4, .int nv4, .int np4, .ref qi, .int nn4, .ref qo, .int nt4])), (qm, .inl (cI, 104, .inl nm4)), (qf, .inl (cI, 104, .inl nb4)), (ql, .inl (cI, 4, .inl nl4)), (qi, .inl (cI, 24, .inl ni4)), (qo, .inl (cI, 16, .inl nu4))] H := hP
      have hD : va_D A [(hq, .inr (3, [.ref qm, .ref qf, .ref ql, .int nc4, .int nd4, .int nf4, .int na4, .int nz4, .int no4, .int ns4, .int nv4, .int np4, .ref qi, .int nn4, .ref qo, .int nt4])), (qm, .inl (cI, 104, .inl nm4)), (qf, .inl (cI, 104, .inl nb4)), (ql, .inl (cI, 4, .inl nl4)), (qi, .inl (cI, 24, .inl ni4)), (qo, .inl (cI, 16, .inl nu4))] := hD
      refine lv_if_eq (tgt := 74) hx hb d_Rf_store_66 rfl (fun hc5 => ?_) (fun hc5 => ?_)
      · have hf := ift hf hc5
        refine lv_iconst (v := (-1)) hx hb d_Rf_store_74 (by decide) ?_
        obtain ⟨e1_, e2_, e3_, e4_, e5_, e6_, e7_, e8_, e9_, e10_, e11_, e12_, e13_, e14_, e15_, e16_, e17_⟩ := lf17 hf
        subst e1_; subst e2_; subst e3_; subst e4_; subst e5_; subst e6_; subst e7_; subst e8_; subst e9_; subst e10_; subst e11_; subst e12_; subst e13_; subst e14_; subst e15_; subst e16_; subst e17_
        have hP9 := hP.sub (ws' := [(hq, .inr (3, [.ref qm, .ref qf, .ref ql, .int nc4, .int nd4, .int nf4, .int na4, .int nz4, .int no4, .int ns4, .int nv4, .int np4, .ref qi, .int nn4, .ref qo, .int nt4])), (qm, .inl (cI, 104, .inl nm4)), (qf, .inl (cI, 104, .inl nb4)), (ql, .inl (cI, 4, .inl nl4)), (qi, .inl (cI, 24, .inl ni4)), (qo, .inl (cI, 16, .inl nu4))]) [0, 1, 2, 3, 4, 5] rfl
        have hD9 := hD.sub (ws' := [(hq, .inr (3, [.ref qm, .ref qf, .ref ql, .int nc4, .int nd4, .int nf4, .int na4, .int nz4, .int no4, .int ns4, .int nv4, .int np4, .ref qi, .int nn4, .ref qo, .int nt4])), (qm, .inl (cI, 104, .inl nm4)), (qf, .inl (cI, 104, .inl nb4)), (ql, .inl (cI, 4, .inl nl4)), (qi, .inl (cI, 24, .inl ni4)), (qo, .inl (cI, 16, .inl nu4))]) [0, 1, 2, 3, 4, 5] (by decide) rfl
        exact W.iret (v := (-1)) hx hb hr (fun t ht hW => ⟨⟨(-1), (), rfl, rfl, by rw [ht]; exact hP9, va_K.moved hW.alike hK, hD9⟩, hS.F ht⟩) hS.2.2 d_Rf_store_75
      have hf := ifn hf hc5
      refine lv_ldc (v := 36864) hx hb hown kc103 d_Rf_store_69 ?_
      refine lv_goto (tgt := 75) hx hb d_Rf_store_71 rfl ?_
      obtain ⟨e1_, e2_, e3_, e4_, e5_, e6_, e7_, e8_, e9_, e10_, e11_, e12_, e13_, e14_, e15_, e16_, e17_⟩ := lf17 hf
      subst e1_; subst e2_; subst e3_; subst e4_; subst e5_; subst e6_; subst e7_; subst e8_; subst e9_; subst e10_; subst e11_; subst e12_; subst e13_; subst e14_; subst e15_; subst e16_; subst e17_
      have hP9 := hP.sub (ws' := [(hq, .inr (3, [.ref qm, .ref qf, .ref ql, .int nc4, .int nd4, .int nf4, .int na4, .int nz4, .int no4, .int ns4, .int nv4, .int np4, .ref qi, .int nn4, .ref qo, .int nt4])), (qm, .inl (cI, 104, .inl nm4)), (qf, .inl (cI, 104, .inl nb4)), (ql, .inl (cI, 4, .inl nl4)), (qi, .inl (cI, 24, .inl ni4)), (qo, .inl (cI, 16, .inl nu4))]) [0, 1, 2, 3, 4, 5] rfl
      have hD9 := hD.sub (ws' := [(hq, .inr (3, [.ref qm, .ref qf, .ref ql, .int nc4, .int nd4, .int nf4, .int na4, .int nz4, .int no4, .int ns4, .int nv4, .int np4, .ref qi, .int nn4, .ref qo, .int nt4])), (qm, .inl (cI, 104, .inl nm4)), (qf, .inl (cI, 104, .inl nb4)), (ql, .inl (cI, 4, .inl nl4)), (qi, .inl (cI, 24, .inl ni4)), (qo, .inl (cI, 16, .inl nu4))]) [0, 1, 2, 3, 4, 5] (by decide) rfl
      exact W.iret (v := 36864) hx hb hr (fun t ht hW => ⟨⟨36864, (), rfl, rfl, by rw [ht]; exact hP9, va_K.moved hW.alike hK, hD9⟩, hS.F ht⟩) hS.2.2 d_Rf_store_75
    have hf := ifn hf hc2
    refine lv_aload_n hx hb d_Rf_store_29 rfl (lv_at hl 0 rfl) ?_
    refine lv_iload_n hx hb d_Rf_store_30 rfl (lv_at hl 1 rfl) ?_
    refine lv_iload_n hx hb d_Rf_store_31 rfl (lv_at hl 3 rfl) ?_
    refine lv_iadd hx hb d_Rf_store_32 ?_
    refine lv_aload_n hx hb d_Rf_store_33 rfl (lv_at hl 0 rfl) ?_
    refine va_get (D := (dC, dI)) (ci := 3) (v := .ref qi) (C := R_Rf) (T := F_Rf) (N := 16) hx hb hts inRf hown hK hP 0 rfl rfl 12 (by decide) kf27 (fun _ h9 => h9) rfl d_Rf_store_34 ?_
    refine lv_iconst (v := 5) hx hb d_Rf_store_37 (by decide) ?_
    refine lv_iload_n hx hb d_Rf_store_38 rfl (lv_at hl 3 rfl) ?_
    refine lv_iadd hx hb d_Rf_store_39 ?_
    obtain ⟨hin_, hf⟩ := ix_some hf
    refine va_iald hx hb hK hP 4 0 rfl rfl hin_ d_Rf_store_40 ?_
    obtain ⟨r7, nm7, nb7, nl7, nc7, nd7, nf7, na7, nz7, no7, ns7, nv7, np7, ni7, nn7, nu7, nt7, hg, hf⟩ := bd17_some hf
    refine xcz (wr := []) (ctRf_change l dC dI cI hq qm qf ql qi qo nm nb nl nc nd nf na nz no ns nv np ni nn nu nt (v1 + v3) (ni (5 + v3 : Int32).toNatClampNeg) r7 nm7 nb7 nl7 nc7 nd7 nf7 na7 nz7 no7 ns7 nv7 np7 ni7 nn7 nu7 nt7 hg) ⟨hx, hb, hml, hown, hts⟩ (cwV (C := R_Rf) 2 hts (gV wq530 wq532 wq34 wq46 wq533) rfl rfl rfl (by decide +kernel) ⟨Nat.le_of_ble_eq_true rfl, Nat.le_of_ble_eq_true rfl⟩) hK hP hD hS hA [0, 1, 2, 3, 4, 5] [] rfl rfl rfl rfl (by decide) (ci := 3) (q0 := 0) rfl rfl rfl rfl hl.1 rfl (Nat.le_of_ble_eq_true rfl) d_Rf_store_41 ⟨Nat.zero_le _, Nat.zero_le _⟩ (fun H locs hn7 hP hD hS => ?_)
    have hP : va_P (dC, dI) vwCl [(hq, .inr (3, [.ref qm, .ref qf, .ref ql, .int nc7, .int nd7, .int nf7, .int na7, .int nz7, .int no7, .int ns7, .int nv7, .int np7, .ref qi, .int nn7, .ref qo, .int nt7])), (qm, .inl (cI, 104, .inl nm7)), (qf, .inl (cI, 104, .inl nb7)), (ql, .inl (cI, 4, .inl nl7)), (qi, .inl (cI, 24, .inl ni7)), (qo, .inl (cI, 16, .inl nu7))] H := hP
    have hD : va_D A [(hq, .inr (3, [.ref qm, .ref qf, .ref ql, .int nc7, .int nd7, .int nf7, .int na7, .int nz7, .int no7, .int ns7, .int nv7, .int np7, .ref qi, .int nn7, .ref qo, .int nt7])), (qm, .inl (cI, 104, .inl nm7)), (qf, .inl (cI, 104, .inl nb7)), (ql, .inl (cI, 4, .inl nl7)), (qi, .inl (cI, 24, .inl ni7)), (qo, .inl (cI, 16, .inl nu7))] := hD
    refine lv_if_ne (tgt := 49) hx hb d_Rf_store_44 rfl (fun hc8 => ?_) (fun hc8 => ?_)
    · have hf := ifn hf hc8
      refine lv_iinc (v := v3 + 1) hx hb d_Rf_store_49 hl (k := 3) rfl rfl (by decide) rfl (fun ls hl => ?_)
      have hl : lv_has ls 4 [(3, .int (v3 + 1)), (0, .ref hq), (1, .int v1), (2, .int v2)] := hl
      refine lv_goto (tgt := 24) hx hb d_Rf_store_52 rfl ?_
      have hl := lv_sub (l' := [(0, .ref hq), (1, .int v1), (2, .int v2), (3, .int (v3 + 1))]) hl [1, 2, 3, 0] rfl
      exact ih (nm7, nb7, nl7, nc7, nd7, nf7, na7, nz7, no7, ns7, nv7, np7, ni7, nn7, nu7, nt7, v1, v2, v3 + 1) _ _ ls ⟨hP, hD, hS, hl, hf⟩
    have hf := ift hf hc8
    refine lv_iconst (v := (-1)) hx hb d_Rf_store_47 (by decide) ?_
    obtain ⟨e1_, e2_, e3_, e4_, e5_, e6_, e7_, e8_, e9_, e10_, e11_, e12_, e13_, e14_, e15_, e16_, e17_⟩ := lf17 hf
    subst e1_; subst e2_; subst e3_; subst e4_; subst e5_; subst e6_; subst e7_; subst e8_; subst e9_; subst e10_; subst e11_; subst e12_; subst e13_; subst e14_; subst e15_; subst e16_; subst e17_
    have hP9 := hP.sub (ws' := [(hq, .inr (3, [.ref qm, .ref qf, .ref ql, .int nc7, .int nd7, .int nf7, .int na7, .int nz7, .int no7, .int ns7, .int nv7, .int np7, .ref qi, .int nn7, .ref qo, .int nt7])), (qm, .inl (cI, 104, .inl nm7)), (qf, .inl (cI, 104, .inl nb7)), (ql, .inl (cI, 4, .inl nl7)), (qi, .inl (cI, 24, .inl ni7)), (qo, .inl (cI, 16, .inl nu7))]) [0, 1, 2, 3, 4, 5] rfl
    have hD9 := hD.sub (ws' := [(hq, .inr (3, [.ref qm, .ref qf, .ref ql, .int nc7, .int nd7, .int nf7, .int na7, .int nz7, .int no7, .int ns7, .int nv7, .int np7, .ref qi, .int nn7, .ref qo, .int nt7])), (qm, .inl (cI, 104, .inl nm7)), (qf, .inl (cI, 104, .inl nb7)), (ql, .inl (cI, 4, .inl nl7)), (qi, .inl (cI, 24, .inl ni7)), (qo, .inl (cI, 16, .inl nu7))]) [0, 1, 2, 3, 4, 5] (by decide) rfl
    exact W.iret (v := (-1)) hx hb hr (fun t ht hW => ⟨⟨(-1), (), rfl, rfl, by rw [ht]; exact hP9, va_K.moved hW.alike hK, hD9⟩, hS.F ht⟩) hS.2.2 d_Rf_store_48
  have hf := ifn hf hc1
  refine lv_aload_n hx hb d_Rf_store_7 rfl (lv_at hl 0 rfl) ?_
  refine va_get (D := (dC, dI)) (ci := 3) (v := .int nc) (C := R_Rf) (T := F_Rf) (N := 16) hx hb hts inRf hown hK hP 0 rfl rfl 3 (by decide) kf64 (fun _ h9 => h9) rfl d_Rf_store_8 ?_
  refine lv_iload_n hx hb d_Rf_store_11 rfl (lv_at hl 2 rfl) ?_
  refine lv_iadd hx hb d_Rf_store_12 ?_
  refine lv_bipush (v := 20) hx hb d_Rf_store_13 (by decide) ?_
  refine lv_icmp_le (tgt := 22) hx hb d_Rf_store_15 rfl (fun hc9 => ?_) (fun hc9 => ?_)
  · have hf := ift hf hc9
    refine lv_iconst (v := 0) hx hb d_Rf_store_22 (by decide) ?_
    refine lv_istore_n hx hb d_Rf_store_23 rfl hl (by decide) rfl (fun ls hl => ?_)
    have hl : lv_has ls 4 [(3, .int 0), (0, .ref hq), (1, .int a1), (2, .int a2)] := hl
    have hl := lv_sub (l' := [(0, .ref hq), (1, .int a1), (2, .int a2), (3, .int 0)]) hl [1, 2, 3, 0] rfl
    refine xloop (σ := (Nat → Int32) × (Nat → Int32) × (Nat → Int32) × (Int32) × (Int32) × (Int32) × (Int32) × (Int32) × (Int32) × (Int32) × (Int32) × (Int32) × (Nat → Int32) × (Int32) × (Nat → Int32) × (Int32) × (Int32) × (Int32) × (Int32)) (pc := 24) (fun n x H locs ls => va_P (dC, dI) vwCl [(hq, .inr (3, [.ref qm, .ref qf, .ref ql, .int (x.2.2.2.1), .int (x.2.2.2.2.1), .int (x.2.2.2.2.2.1), .int (x.2.2.2.2.2.2.1), .int (x.2.2.2.2.2.2.2.1), .int (x.2.2.2.2.2.2.2.2.1), .int (x.2.2.2.2.2.2.2.2.2.1), .int (x.2.2.2.2.2.2.2.2.2.2.1), .int (x.2.2.2.2.2.2.2.2.2.2.2.1), .ref qi, .int (x.2.2.2.2.2.2.2.2.2.2.2.2.2.1), .ref qo, .int (x.2.2.2.2.2.2.2.2.2.2.2.2.2.2.2.1)])), (qm, .inl (cI, 104, .inl (x.1))), (qf, .inl (cI, 104, .inl (x.2.1))), (ql, .inl (cI, 4, .inl (x.2.2.1))), (qi, .inl (cI, 24, .inl (x.2.2.2.2.2.2.2.2.2.2.2.2.1))), (qo, .inl (cI, 16, .inl (x.2.2.2.2.2.2.2.2.2.2.2.2.2.2.1)))] H ∧ va_D A [(hq, .inr (3, [.ref qm, .ref qf, .ref ql, .int (x.2.2.2.1), .int (x.2.2.2.2.1), .int (x.2.2.2.2.2.1), .int (x.2.2.2.2.2.2.1), .int (x.2.2.2.2.2.2.2.1), .int (x.2.2.2.2.2.2.2.2.1), .int (x.2.2.2.2.2.2.2.2.2.1), .int (x.2.2.2.2.2.2.2.2.2.2.1), .int (x.2.2.2.2.2.2.2.2.2.2.2.1), .ref qi, .int (x.2.2.2.2.2.2.2.2.2.2.2.2.2.1), .ref qo, .int (x.2.2.2.2.2.2.2.2.2.2.2.2.2.2.2.1)])), (qm, .inl (cI, 104, .inl (x.1))), (qf, .inl (cI, 104, .inl (x.2.1))), (ql, .inl (cI, 4, .inl (x.2.2.1))), (qi, .inl (cI, 24, .inl (x.2.2.2.2.2.2.2.2.2.2.2.2.1))), (qo, .inl (cI, 16, .inl (x.2.2.2.2.2.2.2.2.2.2.2.2.2.2.1)))] ∧ va_S A s.heap H locs ∧ lv_has ls 4 [(0, .ref hq), (1, .int (x.2.2.2.2.2.2.2.2.2.2.2.2.2.2.2.2.1)), (2, .int (x.2.2.2.2.2.2.2.2.2.2.2.2.2.2.2.2.2.1)), (3, .int (x.2.2.2.2.2.2.2.2.2.2.2.2.2.2.2.2.2.2))] ∧ fRf_store_L24 n (x.1, x.2.1, x.2.2.1, x.2.2.2.1, x.2.2.2.2.1, x.2.2.2.2.2.1, x.2.2.2.2.2.2.1, x.2.2.2.2.2.2.2.1, x.2.2.2.2.2.2.2.2.1, x.2.2.2.2.2.2.2.2.2.1, x.2.2.2.2.2.2.2.2.2.2.1, x.2.2.2.2.2.2.2.2.2.2.2.1, x.2.2.2.2.2.2.2.2.2.2.2.2.1, x.2.2.2.2.2.2.2.2.2.2.2.2.2.1, x.2.2.2.2.2.2.2.2.2.2.2.2.2.2.1, x.2.2.2.2.2.2.2.2.2.2.2.2.2.2.2.1) x.2.2.2.2.2.2.2.2.2.2.2.2.2.2.2.2.1 x.2.2.2.2.2.2.2.2.2.2.2.2.2.2.2.2.2.1 x.2.2.2.2.2.2.2.2.2.2.2.2.2.2.2.2.2.2 = some (r, nm', nb', nl', nc', nd', nf', na', nz', no', ns', nv', np', ni', nn', nu', nt')) ?_ (fun x H locs ls h => by have h9 := h.2.2.2.2; rw [fRf_store_L24] at h9; cases h9) 300 (nm, nb, nl, nc, nd, nf, na, nz, no, ns, nv, np, ni, nn, nu, nt, a1, a2, 0) _ _ ls ⟨hP, hD, hS, hl, hf⟩
    intro n ih x H locs ls hI
    obtain ⟨nm, nb, nl, nc, nd, nf, na, nz, no, ns, nv, np, ni, nn, nu, nt, v1, v2, v3⟩ := x
    obtain ⟨hP, hD, hS, hl, hf⟩ := hI
    have hP : va_P (dC, dI) vwCl [(hq, .inr (3, [.ref qm, .ref qf, .ref ql, .int nc, .int nd, .int nf, .int na, .int nz, .int no, .int ns, .int nv, .int np, .ref qi, .int nn, .ref qo, .int nt])), (qm, .inl (cI, 104, .inl nm)), (qf, .inl (cI, 104, .inl nb)), (ql, .inl (cI, 4, .inl nl)), (qi, .inl (cI, 24, .inl ni)), (qo, .inl (cI, 16, .inl nu))] H := hP
    have hD : va_D A [(hq, .inr (3, [.ref qm, .ref qf, .ref ql, .int nc, .int nd, .int nf, .int na, .int nz, .int no, .int ns, .int nv, .int np, .ref qi, .int nn, .ref qo, .int nt])), (qm, .inl (cI, 104, .inl nm)), (qf, .inl (cI, 104, .inl nb)), (ql, .inl (cI, 4, .inl nl)), (qi, .inl (cI, 24, .inl ni)), (qo, .inl (cI, 16, .inl nu))] := hD
    have hl : lv_has ls 4 [(0, .ref hq), (1, .int v1), (2, .int v2), (3, .int v3)] := hl
    rw [fRf_store_L24] at hf
    refine lv_iload_n hx hb d_Rf_store_24 rfl (lv_at hl 3 rfl) ?_
    refine lv_iload_n hx hb d_Rf_store_25 rfl (lv_at hl 2 rfl) ?_
    refine lv_icmp_ge (tgt := 55) hx hb d_Rf_store_26 rfl (fun hc10 => ?_) (fun hc10 => ?_)
    · have hf := ift hf hc10
      refine lv_aload_n hx hb d_Rf_store_55 rfl (lv_at hl 0 rfl) ?_
      refine va_get (D := (dC, dI)) (ci := 3) (v := .int np) (C := R_Rf) (T := F_Rf) (N := 16) hx hb hts inRf hown hK hP 0 rfl rfl 11 (by decide) kf36 (fun _ h9 => h9) rfl d_Rf_store_56 ?_
      refine lv_if_ne (tgt := 69) hx hb d_Rf_store_59 rfl (fun hc11 => ?_) (fun hc11 => ?_)
      · have hf := ifn hf hc11
        refine lv_ldc (v := 36864) hx hb hown kc103 d_Rf_store_69 ?_
        refine lv_goto (tgt := 75) hx hb d_Rf_store_71 rfl ?_
        obtain ⟨e1_, e2_, e3_, e4_, e5_, e6_, e7_, e8_, e9_, e10_, e11_, e12_, e13_, e14_, e15_, e16_, e17_⟩ := lf17 hf
        subst e1_; subst e2_; subst e3_; subst e4_; subst e5_; subst e6_; subst e7_; subst e8_; subst e9_; subst e10_; subst e11_; subst e12_; subst e13_; subst e14_; subst e15_; subst e16_; subst e17_
        have hP9 := hP.sub (ws' := [(hq, .inr (3, [.ref qm, .ref qf, .ref ql, .int nc, .int nd, .int nf, .int na, .int nz, .int no, .int ns, .int nv, .int np, .ref qi, .int nn, .ref qo, .int nt])), (qm, .inl (cI, 104, .inl nm)), (qf, .inl (cI, 104, .inl nb)), (ql, .inl (cI, 4, .inl nl)), (qi, .inl (cI, 24, .inl ni)), (qo, .inl (cI, 16, .inl nu))]) [0, 1, 2, 3, 4, 5] rfl
        have hD9 := hD.sub (ws' := [(hq, .inr (3, [.ref qm, .ref qf, .ref ql, .int nc, .int nd, .int nf, .int na, .int nz, .int no, .int ns, .int nv, .int np, .ref qi, .int nn, .ref qo, .int nt])), (qm, .inl (cI, 104, .inl nm)), (qf, .inl (cI, 104, .inl nb)), (ql, .inl (cI, 4, .inl nl)), (qi, .inl (cI, 24, .inl ni)), (qo, .inl (cI, 16, .inl nu))]) [0, 1, 2, 3, 4, 5] (by decide) rfl
        exact W.iret (v := 36864) hx hb hr (fun t ht hW => ⟨⟨36864, (), rfl, rfl, by rw [ht]; exact hP9, va_K.moved hW.alike hK, hD9⟩, hS.F ht⟩) hS.2.2 d_Rf_store_75
      have hf := ift hf hc11
      refine lv_aload_n hx hb d_Rf_store_62 rfl (lv_at hl 0 rfl) ?_
      obtain ⟨r12, nm12, nb12, nl12, nc12, nd12, nf12, na12, nz12, no12, ns12, nv12, np12, ni12, nn12, nu12, nt12, hg, hf⟩ := bd17_some hf
      refine xcz (wr := []) (ctRf_settle l dC dI cI hq qm qf ql qi qo nm nb nl nc nd nf na nz no ns nv np ni nn nu nt r12 nm12 nb12 nl12 nc12 nd12 nf12 na12 nz12 no12 ns12 nv12 np12 ni12 nn12 nu12 nt12 hg) ⟨hx, hb, hml, hown, hts⟩ (cwV (C := R_Rf) 0 hts (gV wq534 wq536 wq35 wq46 wq537) rfl rfl rfl (by decide +kernel) ⟨Nat.le_of_ble_eq_true rfl, Nat.le_of_ble_eq_true rfl⟩) hK hP hD hS hA [0, 1, 2, 3, 4, 5] [] rfl rfl rfl rfl (by decide) (ci := 3) (q0 := 0) rfl rfl rfl rfl hl.1 rfl (Nat.le_of_ble_eq_true rfl) d_Rf_store_63 ⟨Nat.zero_le _, Nat.zero_le _⟩ (fun H locs hn12 hP hD hS => ?_)
      have hP : va_P (dC, dI) vwCl [(hq, .inr (3, [.ref qm, .ref qf, .ref ql, .int nc12, .int nd12, .int nf12, .int na12, .int nz12, .int no12, .int ns12, .int nv12, .int np12, .ref qi, .int nn12, .ref qo, .int nt12])), (qm, .inl (cI, 104, .inl nm12)), (qf, .inl (cI, 104, .inl nb12)), (ql, .inl (cI, 4, .inl nl12)), (qi, .inl (cI, 24, .inl ni12)), (qo, .inl (cI, 16, .inl nu12))] H := hP
      have hD : va_D A [(hq, .inr (3, [.ref qm, .ref qf, .ref ql, .int nc12, .int nd12, .int nf12, .int na12, .int nz12, .int no12, .int ns12, .int nv12, .int np12, .ref qi, .int nn12, .ref qo, .int nt12])), (qm, .inl (cI, 104, .inl nm12)), (qf, .inl (cI, 104, .inl nb12)), (ql, .inl (cI, 4, .inl nl12)), (qi, .inl (cI, 24, .inl ni12)), (qo, .inl (cI, 16, .inl nu12))] := hD
      refine lv_if_eq (tgt := 74) hx hb d_Rf_store_66 rfl (fun hc13 => ?_) (fun hc13 => ?_)
      · have hf := ift hf hc13
        refine lv_iconst (v := (-1)) hx hb d_Rf_store_74 (by decide) ?_
        obtain ⟨e1_, e2_, e3_, e4_, e5_, e6_, e7_, e8_, e9_, e10_, e11_, e12_, e13_, e14_, e15_, e16_, e17_⟩ := lf17 hf
        subst e1_; subst e2_; subst e3_; subst e4_; subst e5_; subst e6_; subst e7_; subst e8_; subst e9_; subst e10_; subst e11_; subst e12_; subst e13_; subst e14_; subst e15_; subst e16_; subst e17_
        have hP9 := hP.sub (ws' := [(hq, .inr (3, [.ref qm, .ref qf, .ref ql, .int nc12, .int nd12, .int nf12, .int na12, .int nz12, .int no12, .int ns12, .int nv12, .int np12, .ref qi, .int nn12, .ref qo, .int nt12])), (qm, .inl (cI, 104, .inl nm12)), (qf, .inl (cI, 104, .inl nb12)), (ql, .inl (cI, 4, .inl nl12)), (qi, .inl (cI, 24, .inl ni12)), (qo, .inl (cI, 16, .inl nu12))]) [0, 1, 2, 3, 4, 5] rfl
        have hD9 := hD.sub (ws' := [(hq, .inr (3, [.ref qm, .ref qf, .ref ql, .int nc12, .int nd12, .int nf12, .int na12, .int nz12, .int no12, .int ns12, .int nv12, .int np12, .ref qi, .int nn12, .ref qo, .int nt12])), (qm, .inl (cI, 104, .inl nm12)), (qf, .inl (cI, 104, .inl nb12)), (ql, .inl (cI, 4, .inl nl12)), (qi, .inl (cI, 24, .inl ni12)), (qo, .inl (cI, 16, .inl nu12))]) [0, 1, 2, 3, 4, 5] (by decide) rfl
        exact W.iret (v := (-1)) hx hb hr (fun t ht hW => ⟨⟨(-1), (), rfl, rfl, by rw [ht]; exact hP9, va_K.moved hW.alike hK, hD9⟩, hS.F ht⟩) hS.2.2 d_Rf_store_75
      have hf := ifn hf hc13
      refine lv_ldc (v := 36864) hx hb hown kc103 d_Rf_store_69 ?_
      refine lv_goto (tgt := 75) hx hb d_Rf_store_71 rfl ?_
      obtain ⟨e1_, e2_, e3_, e4_, e5_, e6_, e7_, e8_, e9_, e10_, e11_, e12_, e13_, e14_, e15_, e16_, e17_⟩ := lf17 hf
      subst e1_; subst e2_; subst e3_; subst e4_; subst e5_; subst e6_; subst e7_; subst e8_; subst e9_; subst e10_; subst e11_; subst e12_; subst e13_; subst e14_; subst e15_; subst e16_; subst e17_
      have hP9 := hP.sub (ws' := [(hq, .inr (3, [.ref qm, .ref qf, .ref ql, .int nc12, .int nd12, .int nf12, .int na12, .int nz12, .int no12, .int ns12, .int nv12, .int np12, .ref qi, .int nn12, .ref qo, .int nt12])), (qm, .inl (cI, 104, .inl nm12)), (qf, .inl (cI, 104, .inl nb12)), (ql, .inl (cI, 4, .inl nl12)), (qi, .inl (cI, 24, .inl ni12)), (qo, .inl (cI, 16, .inl nu12))]) [0, 1, 2, 3, 4, 5] rfl
      have hD9 := hD.sub (ws' := [(hq, .inr (3, [.ref qm, .ref qf, .ref ql, .int nc12, .int nd12, .int nf12, .int na12, .int nz12, .int no12, .int ns12, .int nv12, .int np12, .ref qi, .int nn12, .ref qo, .int nt12])), (qm, .inl (cI, 104, .inl nm12)), (qf, .inl (cI, 104, .inl nb12)), (ql, .inl (cI, 4, .inl nl12)), (qi, .inl (cI, 24, .inl ni12)), (qo, .inl (cI, 16, .inl nu12))]) [0, 1, 2, 3, 4, 5] (by decide) rfl
      exact W.iret (v := 36864) hx hb hr (fun t ht hW => ⟨⟨36864, (), rfl, rfl, by rw [ht]; exact hP9, va_K.moved hW.alike hK, hD9⟩, hS.F ht⟩) hS.2.2 d_Rf_store_75
    have hf := ifn hf hc10
    refine lv_aload_n hx hb d_Rf_store_29 rfl (lv_at hl 0 rfl) ?_
    refine lv_iload_n hx hb d_Rf_store_30 rfl (lv_at hl 1 rfl) ?_
    refine lv_iload_n hx hb d_Rf_store_31 rfl (lv_at hl 3 rfl) ?_
    refine lv_iadd hx hb d_Rf_store_32 ?_
    refine lv_aload_n hx hb d_Rf_store_33 rfl (lv_at hl 0 rfl) ?_
    refine va_get (D := (dC, dI)) (ci := 3) (v := .ref qi) (C := R_Rf) (T := F_Rf) (N := 16) hx hb hts inRf hown hK hP 0 rfl rfl 12 (by decide) kf27 (fun _ h9 => h9) rfl d_Rf_store_34 ?_
    refine lv_iconst (v := 5) hx hb d_Rf_store_37 (by decide) ?_
    refine lv_iload_n hx hb d_Rf_store_38 rfl (lv_at hl 3 rfl) ?_
    refine lv_iadd hx hb d_Rf_store_39 ?_
    obtain ⟨hin_, hf⟩ := ix_some hf
    refine va_iald hx hb hK hP 4 0 rfl rfl hin_ d_Rf_store_40 ?_
    obtain ⟨r15, nm15, nb15, nl15, nc15, nd15, nf15, na15, nz15, no15, ns15, nv15, np15, ni15, nn15, nu15, nt15, hg, hf⟩ := bd17_some hf
    refine xcz (wr := []) (ctRf_change l dC dI cI hq qm qf ql qi qo nm nb nl nc nd nf na nz no ns nv np ni nn nu nt (v1 + v3) (ni (5 + v3 : Int32).toNatClampNeg) r15 nm15 nb15 nl15 nc15 nd15 nf15 na15 nz15 no15 ns15 nv15 np15 ni15 nn15 nu15 nt15 hg) ⟨hx, hb, hml, hown, hts⟩ (cwV (C := R_Rf) 2 hts (gV wq530 wq532 wq34 wq46 wq533) rfl rfl rfl (by decide +kernel) ⟨Nat.le_of_ble_eq_true rfl, Nat.le_of_ble_eq_true rfl⟩) hK hP hD hS hA [0, 1, 2, 3, 4, 5] [] rfl rfl rfl rfl (by decide) (ci := 3) (q0 := 0) rfl rfl rfl rfl hl.1 rfl (Nat.le_of_ble_eq_true rfl) d_Rf_store_41 ⟨Nat.zero_le _, Nat.zero_le _⟩ (fun H locs hn15 hP hD hS => ?_)
    have hP : va_P (dC, dI) vwCl [(hq, .inr (3, [.ref qm, .ref qf, .ref ql, .int nc15, .int nd15, .int nf15, .int na15, .int nz15, .int no15, .int ns15, .int nv15, .int np15, .ref qi, .int nn15, .ref qo, .int nt15])), (qm, .inl (cI, 104, .inl nm15)), (qf, .inl (cI, 104, .inl nb15)), (ql, .inl (cI, 4, .inl nl15)), (qi, .inl (cI, 24, .inl ni15)), (qo, .inl (cI, 16, .inl nu15))] H := hP
    have hD : va_D A [(hq, .inr (3, [.ref qm, .ref qf, .ref ql, .int nc15, .int nd15, .int nf15, .int na15, .int nz15, .int no15, .int ns15, .int nv15, .int np15, .ref qi, .int nn15, .ref qo, .int nt15])), (qm, .inl (cI, 104, .inl nm15)), (qf, .inl (cI, 104, .inl nb15)), (ql, .inl (cI, 4, .inl nl15)), (qi, .inl (cI, 24, .inl ni15)), (qo, .inl (cI, 16, .inl nu15))] := hD
    refine lv_if_ne (tgt := 49) hx hb d_Rf_store_44 rfl (fun hc16 => ?_) (fun hc16 => ?_)
    · have hf := ifn hf hc16
      refine lv_iinc (v := v3 + 1) hx hb d_Rf_store_49 hl (k := 3) rfl rfl (by decide) rfl (fun ls hl => ?_)
      have hl : lv_has ls 4 [(3, .int (v3 + 1)), (0, .ref hq), (1, .int v1), (2, .int v2)] := hl
      refine lv_goto (tgt := 24) hx hb d_Rf_store_52 rfl ?_
      have hl := lv_sub (l' := [(0, .ref hq), (1, .int v1), (2, .int v2), (3, .int (v3 + 1))]) hl [1, 2, 3, 0] rfl
      exact ih (nm15, nb15, nl15, nc15, nd15, nf15, na15, nz15, no15, ns15, nv15, np15, ni15, nn15, nu15, nt15, v1, v2, v3 + 1) _ _ ls ⟨hP, hD, hS, hl, hf⟩
    have hf := ift hf hc16
    refine lv_iconst (v := (-1)) hx hb d_Rf_store_47 (by decide) ?_
    obtain ⟨e1_, e2_, e3_, e4_, e5_, e6_, e7_, e8_, e9_, e10_, e11_, e12_, e13_, e14_, e15_, e16_, e17_⟩ := lf17 hf
    subst e1_; subst e2_; subst e3_; subst e4_; subst e5_; subst e6_; subst e7_; subst e8_; subst e9_; subst e10_; subst e11_; subst e12_; subst e13_; subst e14_; subst e15_; subst e16_; subst e17_
    have hP9 := hP.sub (ws' := [(hq, .inr (3, [.ref qm, .ref qf, .ref ql, .int nc15, .int nd15, .int nf15, .int na15, .int nz15, .int no15, .int ns15, .int nv15, .int np15, .ref qi, .int nn15, .ref qo, .int nt15])), (qm, .inl (cI, 104, .inl nm15)), (qf, .inl (cI, 104, .inl nb15)), (ql, .inl (cI, 4, .inl nl15)), (qi, .inl (cI, 24, .inl ni15)), (qo, .inl (cI, 16, .inl nu15))]) [0, 1, 2, 3, 4, 5] rfl
    have hD9 := hD.sub (ws' := [(hq, .inr (3, [.ref qm, .ref qf, .ref ql, .int nc15, .int nd15, .int nf15, .int na15, .int nz15, .int no15, .int ns15, .int nv15, .int np15, .ref qi, .int nn15, .ref qo, .int nt15])), (qm, .inl (cI, 104, .inl nm15)), (qf, .inl (cI, 104, .inl nb15)), (ql, .inl (cI, 4, .inl nl15)), (qi, .inl (cI, 24, .inl ni15)), (qo, .inl (cI, 16, .inl nu15))]) [0, 1, 2, 3, 4, 5] (by decide) rfl
    exact W.iret (v := (-1)) hx hb hr (fun t ht hW => ⟨⟨(-1), (), rfl, rfl, by rw [ht]; exact hP9, va_K.moved hW.alike hK, hD9⟩, hS.F ht⟩) hS.2.2 d_Rf_store_48
  have hf := ifn hf hc9
  refine lv_sipush (v := 27268) hx hb d_Rf_store_18 (by decide) ?_
  obtain ⟨e1_, e2_, e3_, e4_, e5_, e6_, e7_, e8_, e9_, e10_, e11_, e12_, e13_, e14_, e15_, e16_, e17_⟩ := lf17 hf
  subst e1_; subst e2_; subst e3_; subst e4_; subst e5_; subst e6_; subst e7_; subst e8_; subst e9_; subst e10_; subst e11_; subst e12_; subst e13_; subst e14_; subst e15_; subst e16_; subst e17_
  have hP9 := hP.sub (ws' := [(hq, .inr (3, [.ref qm, .ref qf, .ref ql, .int nc, .int nd, .int nf, .int na, .int nz, .int no, .int ns, .int nv, .int np, .ref qi, .int nn, .ref qo, .int nt])), (qm, .inl (cI, 104, .inl nm)), (qf, .inl (cI, 104, .inl nb)), (ql, .inl (cI, 4, .inl nl)), (qi, .inl (cI, 24, .inl ni)), (qo, .inl (cI, 16, .inl nu))]) [0, 1, 2, 3, 4, 5] rfl
  have hD9 := hD.sub (ws' := [(hq, .inr (3, [.ref qm, .ref qf, .ref ql, .int nc, .int nd, .int nf, .int na, .int nz, .int no, .int ns, .int nv, .int np, .ref qi, .int nn, .ref qo, .int nt])), (qm, .inl (cI, 104, .inl nm)), (qf, .inl (cI, 104, .inl nb)), (ql, .inl (cI, 4, .inl nl)), (qi, .inl (cI, 24, .inl ni)), (qo, .inl (cI, 16, .inl nu))]) [0, 1, 2, 3, 4, 5] (by decide) rfl
  exact W.iret (v := 27268) hx hb hr (fun t ht hW => ⟨⟨27268, (), rfl, rfl, by rw [ht]; exact hP9, va_K.moved hW.alike hK, hD9⟩, hS.F ht⟩) hS.2.2 d_Rf_store_21
theorem d_Rf_select_0 : decode b_Rf_select 0 = .ok (.iload_n 1, 1) := by decide +kernel
theorem d_Rf_select_1 : decode b_Rf_select 1 = .ok (.iconst 3, 1) := by decide +kernel
theorem d_Rf_select_2 : decode b_Rf_select 2 = .ok (.if_icmp .le 7, 3) := by decide +kernel
theorem d_Rf_select_5 : decode b_Rf_select 5 = .ok (.sipush 27266, 3) := by decide +kernel
theorem d_Rf_select_8 : decode b_Rf_select 8 = .ok (.ireturn, 1) := by decide +kernel
theorem d_Rf_select_9 : decode b_Rf_select 9 = .ok (.aload_n 0, 1) := by decide +kernel
theorem d_Rf_select_10 : decode b_Rf_select 10 = .ok (.getfield 36, 3) := by decide +kernel
theorem d_Rf_select_13 : decode b_Rf_select 13 = .ok (.ifCond .eq 12, 3) := by decide +kernel
theorem d_Rf_select_16 : decode b_Rf_select 16 = .ok (.aload_n 0, 1) := by decide +kernel
theorem d_Rf_select_17 : decode b_Rf_select 17 = .ok (.invokevirtual 71, 3) := by decide +kernel
theorem d_Rf_select_20 : decode b_Rf_select 20 = .ok (.ifCond .ne 5, 3) := by decide +kernel
theorem d_Rf_select_23 : decode b_Rf_select 23 = .ok (.iconst (-1), 1) := by decide +kernel
theorem d_Rf_select_24 : decode b_Rf_select 24 = .ok (.ireturn, 1) := by decide +kernel
theorem d_Rf_select_25 : decode b_Rf_select 25 = .ok (.aload_n 0, 1) := by decide +kernel
theorem d_Rf_select_26 : decode b_Rf_select 26 = .ok (.iconst 0, 1) := by decide +kernel
theorem d_Rf_select_27 : decode b_Rf_select 27 = .ok (.putfield 36, 3) := by decide +kernel
theorem d_Rf_select_30 : decode b_Rf_select 30 = .ok (.aload_n 0, 1) := by decide +kernel
theorem d_Rf_select_31 : decode b_Rf_select 31 = .ok (.iload_n 1, 1) := by decide +kernel
theorem d_Rf_select_32 : decode b_Rf_select 32 = .ok (.putfield 23, 3) := by decide +kernel
theorem d_Rf_select_35 : decode b_Rf_select 35 = .ok (.aload_n 0, 1) := by decide +kernel
theorem d_Rf_select_36 : decode b_Rf_select 36 = .ok (.iconst 0, 1) := by decide +kernel
theorem d_Rf_select_37 : decode b_Rf_select 37 = .ok (.putfield 33, 3) := by decide +kernel
theorem d_Rf_select_40 : decode b_Rf_select 40 = .ok (.aload_n 0, 1) := by decide +kernel
theorem d_Rf_select_41 : decode b_Rf_select 41 = .ok (.getfield 30, 3) := by decide +kernel
theorem d_Rf_select_44 : decode b_Rf_select 44 = .ok (.iconst 0, 1) := by decide +kernel
theorem d_Rf_select_45 : decode b_Rf_select 45 = .ok (.aload_n 0, 1) := by decide +kernel
theorem d_Rf_select_46 : decode b_Rf_select 46 = .ok (.getfield 16, 3) := by decide +kernel
theorem d_Rf_select_49 : decode b_Rf_select 49 = .ok (.iload_n 1, 1) := by decide +kernel
theorem d_Rf_select_50 : decode b_Rf_select 50 = .ok (.iaload, 1) := by decide +kernel
theorem d_Rf_select_51 : decode b_Rf_select 51 = .ok (.iastore, 1) := by decide +kernel
theorem d_Rf_select_52 : decode b_Rf_select 52 = .ok (.aload_n 0, 1) := by decide +kernel
theorem d_Rf_select_53 : decode b_Rf_select 53 = .ok (.iconst 1, 1) := by decide +kernel
theorem d_Rf_select_54 : decode b_Rf_select 54 = .ok (.putfield 42, 3) := by decide +kernel
theorem d_Rf_select_57 : decode b_Rf_select 57 = .ok (.ldc 103, 2) := by decide +kernel
theorem d_Rf_select_59 : decode b_Rf_select 59 = .ok (.ireturn, 1) := by decide +kernel
def fRf_select (σ : StR) (a1 : Int32) : Option (Int32 × StR) := match σ with | (nm, nb, nl, nc, nd, nf, na, nz, no, ns, nv, np, ni, nn, nu, nt) => if a1 ≤ 3 then (if np = 0 then (ix a1 4 fun j3 => ix 0 16 fun j4 => some (36864, nm, nb, nl, nc, nd, nf, na, nz, no, a1, 0, 0, ni, nn, upd nu j4 (nl j3), 1)) else (bd17 (fRf_undo (nm, nb, nl, nc, nd, nf, na, nz, no, ns, nv, np, ni, nn, nu, nt)) fun r5 nm5 nb5 nl5 nc5 nd5 nf5 na5 nz5 no5 ns5 nv5 np5 ni5 nn5 nu5 nt5 => if r5 = 0 then (some ((-1), nm5, nb5, nl5, nc5, nd5, nf5, na5, nz5, no5, ns5, nv5, np5, ni5, nn5, nu5, nt5)) else (ix a1 4 fun j7 => ix 0 16 fun j8 => some (36864, nm5, nb5, nl5, nc5, nd5, nf5, na5, nz5, no5, a1, 0, 0, ni5, nn5, upd nu5 j8 (nl5 j7), 1)))) else (some (27266, nm, nb, nl, nc, nd, nf, na, nz, no, ns, nv, np, ni, nn, nu, nt))
set_option maxHeartbeats 4000000 in
set_option maxRecDepth 100000 in
theorem ctRf_select (l : Launch) (dC : Nat → ClassId) (dI : Nat → Nat → Nat) (cI : ClassId) (hq qm qf ql qi qo : Nat) (nm : Nat → Int32) (nb : Nat → Int32) (nl : Nat → Int32) (nc : Int32) (nd : Int32) (nf : Int32) (na : Int32) (nz : Int32) (no : Int32) (ns : Int32) (nv : Int32) (np : Int32) (ni : Nat → Int32) (nn : Int32) (nu : Nat → Int32) (nt : Int32) (a1 : Int32) (r : Int32) (nm' : Nat → Int32) (nb' : Nat → Int32) (nl' : Nat → Int32) (nc' : Int32) (nd' : Int32) (nf' : Int32) (na' : Int32) (nz' : Int32) (no' : Int32) (ns' : Int32) (nv' : Int32) (np' : Int32) (ni' : Nat → Int32) (nn' : Int32) (nu' : Nat → Int32) (nt' : Int32) (hf : fRf_select (nm, nb, nl, nc, nd, nf, na, nz, no, ns, nv, np, ni, nn, nu, nt) a1 = some (r, nm', nb', nl', nc', nd', nf', na', nz', no', ns', nv', np', ni', nn', nu', nt')) : CtI l y_Rf_select w_Rf_select ({ frames := 4, cells := 0, slots := 0, locals := 83 }) (dC, dI) [(cI, .int)] [.ref hq, .int a1] [(hq, .inr (3, [.ref qm, .ref qf, .ref ql, .int nc, .int nd, .int nf, .int na, .int nz, .int no, .int ns, .int nv, .int np, .ref qi, .int nn, .ref qo, .int nt])), (qm, .inl (cI, 104, .inl nm)), (qf, .inl (cI, 104, .inl nb)), (ql, .inl (cI, 4, .inl nl)), (qi, .inl (cI, 24, .inl ni)), (qo, .inl (cI, 16, .inl nu))] [(hq, .inr (3, [.ref qm, .ref qf, .ref ql, .int nc', .int nd', .int nf', .int na', .int nz', .int no', .int ns', .int nv', .int np', .ref qi, .int nn', .ref qo, .int nt'])), (qm, .inl (cI, 104, .inl nm')), (qf, .inl (cI, 104, .inl nb')), (ql, .inl (cI, 4, .inl nl')), (qi, .inl (cI, 24, .inl ni')), (qo, .inl (cI, 16, .inl nu'))] r := by
  intro sz
  refine Met.ofW (cc := b_Rf_select) (maxL := 2) (ret := some .int) (by decide) rfl ?_
  intro p e s m args below meth c s₁ B hml hv
  obtain ⟨rfl, hsz, hP, hK, hD0⟩ := hv
  have hx := B.exec
  have hb := B.bytes
  have hr := B.returns
  have hts := atoms_spec (ws := w_Rf_select) B.pre
  have hown : s.vm.findClass R_Rf = some m.cls := findClass_of_methodNamed B.named
  have hlocks := B.notSynchronized
  subst hsz
  have hD := hD0.self (sz := s.heap.size)
  generalize hAe : va_A [(hq, .inr (3, [.ref qm, .ref qf, .ref ql, .int nc, .int nd, .int nf, .int na, .int nz, .int no, .int ns, .int nv, .int np, .ref qi, .int nn, .ref qo, .int nt])), (qm, .inl (cI, 104, .inl nm)), (qf, .inl (cI, 104, .inl nb)), (ql, .inl (cI, 4, .inl nl)), (qi, .inl (cI, 24, .inl ni)), (qo, .inl (cI, 16, .inl nu))] s.heap.size = A at hD ⊢
  have hA : ∀ q : Nat, s.heap.size ≤ q → A q := fun q h => by rw [← hAe]; exact Or.inr h
  have hS : va_S A s.heap s.heap [] := va_S.rf
  have hP : va_P (dC, dI) vwCl [(hq, .inr (3, [.ref qm, .ref qf, .ref ql, .int nc, .int nd, .int nf, .int na, .int nz, .int no, .int ns, .int nv, .int np, .ref qi, .int nn, .ref qo, .int nt])), (qm, .inl (cI, 104, .inl nm)), (qf, .inl (cI, 104, .inl nb)), (ql, .inl (cI, 4, .inl nl)), (qi, .inl (cI, 24, .inl ni)), (qo, .inl (cI, 16, .inl nu))] s.heap := hP
  have hl := lv_entry ([.ref hq, .int a1]) (n := 2) (Nat.le_of_ble_eq_true rfl)
  rw [lg_entry_eq]
  generalize (lg_sl ([.ref hq, .int a1]) ++ List.replicate (2 - (lg_sl ([.ref hq, .int a1])).length) Slot.unset).toArray = ls at hl ⊢
  have hl : lv_has ls 2 [(0, .ref hq), (1, .int a1)] := hl
  have inRf : ∀ w ∈ u_ws R_Rf F_Rf 16, w ∈ w_Rf_select := fun w h => List.mem_cons_of_mem _ (in_Rf w h)
  have kc103 := hts _ (List.mem_cons_of_mem _ wq521)
  have kf16 := hts _ (List.mem_cons_of_mem _ wq408)
  have kf23 := hts _ (List.mem_cons_of_mem _ wq415)
  have kf30 := hts _ (List.mem_cons_of_mem _ wq420)
  have kf33 := hts _ (List.mem_cons_of_mem _ wq416)
  have kf36 := hts _ (List.mem_cons_of_mem _ wq417)
  have kf42 := hts _ (List.mem_cons_of_mem _ wq421)
  rw [fRf_select] at hf
  refine lv_iload_n hx hb d_Rf_select_0 rfl (lv_at hl 1 rfl) ?_
  refine lv_iconst (v := 3) hx hb d_Rf_select_1 (by decide) ?_
  refine lv_icmp_le (tgt := 9) hx hb d_Rf_select_2 rfl (fun hc1 => ?_) (fun hc1 => ?_)
  · have hf := ift hf hc1
    refine lv_aload_n hx hb d_Rf_select_9 rfl (lv_at hl 0 rfl) ?_
    refine va_get (D := (dC, dI)) (ci := 3) (v := .int np) (C := R_Rf) (T := F_Rf) (N := 16) hx hb hts inRf hown hK hP 0 rfl rfl 11 (by decide) kf36 (fun _ h9 => h9) rfl d_Rf_select_10 ?_
    refine lv_if_eq (tgt := 25) hx hb d_Rf_select_13 rfl (fun hc2 => ?_) (fun hc2 => ?_)
    · have hf := ift hf hc2
      refine lv_aload_n hx hb d_Rf_select_25 rfl (lv_at hl 0 rfl) ?_
      refine lv_iconst (v := 0) hx hb d_Rf_select_26 (by decide) ?_
      refine va_put (D := (dC, dI)) (ci := 3) (v := .int 0) (ty := .boolean) (C := R_Rf) (T := F_Rf) (N := 16) hx hb hts inRf t_Rf t_Rf_ok n_Rf hown hK hP hD hS 0 rfl rfl 11 (by decide) kf36 (fun _ h9 => h9) rfl (by decide +kernel) rfl rfl (Nat.le_of_ble_eq_true rfl) d_Rf_select_27 (fun H locs hP hD hS => ?_)
      have hP : va_P (dC, dI) vwCl [(hq, .inr (3, [.ref qm, .ref qf, .ref ql, .int nc, .int nd, .int nf, .int na, .int nz, .int no, .int ns, .int nv, .int 0, .ref qi, .int nn, .ref qo, .int nt])), (qm, .inl (cI, 104, .inl nm)), (qf, .inl (cI, 104, .inl nb)), (ql, .inl (cI, 4, .inl nl)), (qi, .inl (cI, 24, .inl ni)), (qo, .inl (cI, 16, .inl nu))] H := hP
      have hD : va_D A [(hq, .inr (3, [.ref qm, .ref qf, .ref ql, .int nc, .int nd, .int nf, .int na, .int nz, .int no, .int ns, .int nv, .int 0, .ref qi, .int nn, .ref qo, .int nt])), (qm, .inl (cI, 104, .inl nm)), (qf, .inl (cI, 104, .inl nb)), (ql, .inl (cI, 4, .inl nl)), (qi, .inl (cI, 24, .inl ni)), (qo, .inl (cI, 16, .inl nu))] := hD
      refine lv_aload_n hx hb d_Rf_select_30 rfl (lv_at hl 0 rfl) ?_
      refine lv_iload_n hx hb d_Rf_select_31 rfl (lv_at hl 1 rfl) ?_
      refine va_put (D := (dC, dI)) (ci := 3) (v := .int a1) (ty := .int) (C := R_Rf) (T := F_Rf) (N := 16) hx hb hts inRf t_Rf t_Rf_ok n_Rf hown hK hP hD hS 0 rfl rfl 9 (by decide) kf23 (fun _ h9 => h9) rfl (by decide +kernel) rfl rfl (Nat.le_of_ble_eq_true rfl) d_Rf_select_32 (fun H locs hP hD hS => ?_)
      have hP : va_P (dC, dI) vwCl [(hq, .inr (3, [.ref qm, .ref qf, .ref ql, .int nc, .int nd, .int nf, .int na, .int nz, .int no, .int a1, .int nv, .int 0, .ref qi, .int nn, .ref qo, .int nt])), (qm, .inl (cI, 104, .inl nm)), (qf, .inl (cI, 104, .inl nb)), (ql, .inl (cI, 4, .inl nl)), (qi, .inl (cI, 24, .inl ni)), (qo, .inl (cI, 16, .inl nu))] H := hP
      have hD : va_D A [(hq, .inr (3, [.ref qm, .ref qf, .ref ql, .int nc, .int nd, .int nf, .int na, .int nz, .int no, .int a1, .int nv, .int 0, .ref qi, .int nn, .ref qo, .int nt])), (qm, .inl (cI, 104, .inl nm)), (qf, .inl (cI, 104, .inl nb)), (ql, .inl (cI, 4, .inl nl)), (qi, .inl (cI, 24, .inl ni)), (qo, .inl (cI, 16, .inl nu))] := hD
      refine lv_aload_n hx hb d_Rf_select_35 rfl (lv_at hl 0 rfl) ?_
      refine lv_iconst (v := 0) hx hb d_Rf_select_36 (by decide) ?_
      refine va_put (D := (dC, dI)) (ci := 3) (v := .int 0) (ty := .boolean) (C := R_Rf) (T := F_Rf) (N := 16) hx hb hts inRf t_Rf t_Rf_ok n_Rf hown hK hP hD hS 0 rfl rfl 10 (by decide) kf33 (fun _ h9 => h9) rfl (by decide +kernel) rfl rfl (Nat.le_of_ble_eq_true rfl) d_Rf_select_37 (fun H locs hP hD hS => ?_)
      have hP : va_P (dC, dI) vwCl [(hq, .inr (3, [.ref qm, .ref qf, .ref ql, .int nc, .int nd, .int nf, .int na, .int nz, .int no, .int a1, .int 0, .int 0, .ref qi, .int nn, .ref qo, .int nt])), (qm, .inl (cI, 104, .inl nm)), (qf, .inl (cI, 104, .inl nb)), (ql, .inl (cI, 4, .inl nl)), (qi, .inl (cI, 24, .inl ni)), (qo, .inl (cI, 16, .inl nu))] H := hP
      have hD : va_D A [(hq, .inr (3, [.ref qm, .ref qf, .ref ql, .int nc, .int nd, .int nf, .int na, .int nz, .int no, .int a1, .int 0, .int 0, .ref qi, .int nn, .ref qo, .int nt])), (qm, .inl (cI, 104, .inl nm)), (qf, .inl (cI, 104, .inl nb)), (ql, .inl (cI, 4, .inl nl)), (qi, .inl (cI, 24, .inl ni)), (qo, .inl (cI, 16, .inl nu))] := hD
      refine lv_aload_n hx hb d_Rf_select_40 rfl (lv_at hl 0 rfl) ?_
      refine va_get (D := (dC, dI)) (ci := 3) (v := .ref qo) (C := R_Rf) (T := F_Rf) (N := 16) hx hb hts inRf hown hK hP 0 rfl rfl 14 (by decide) kf30 (fun _ h9 => h9) rfl d_Rf_select_41 ?_
      refine lv_iconst (v := 0) hx hb d_Rf_select_44 (by decide) ?_
      refine lv_aload_n hx hb d_Rf_select_45 rfl (lv_at hl 0 rfl) ?_
      refine va_get (D := (dC, dI)) (ci := 3) (v := .ref ql) (C := R_Rf) (T := F_Rf) (N := 16) hx hb hts inRf hown hK hP 0 rfl rfl 2 (by decide) kf16 (fun _ h9 => h9) rfl d_Rf_select_46 ?_
      refine lv_iload_n hx hb d_Rf_select_49 rfl (lv_at hl 1 rfl) ?_
      obtain ⟨hin_, hf⟩ := ix_some hf
      refine va_iald hx hb hK hP 3 0 rfl rfl hin_ d_Rf_select_50 ?_
      obtain ⟨hin_, hf⟩ := ix_some hf
      refine va_iast hx hb hK hP hD hS 5 0 rfl rfl hin_ d_Rf_select_51 (fun H locs hP hD hS => ?_)
      have hP : va_P (dC, dI) vwCl [(hq, .inr (3, [.ref qm, .ref qf, .ref ql, .int nc, .int nd, .int nf, .int na, .int nz, .int no, .int a1, .int 0, .int 0, .ref qi, .int nn, .ref qo, .int nt])), (qm, .inl (cI, 104, .inl nm)), (qf, .inl (cI, 104, .inl nb)), (ql, .inl (cI, 4, .inl nl)), (qi, .inl (cI, 24, .inl ni)), (qo, .inl (cI, 16, .inl (upd nu (0 : Int32).toNatClampNeg (nl (a1 : Int32).toNatClampNeg))))] H := hP
      have hD : va_D A [(hq, .inr (3, [.ref qm, .ref qf, .ref ql, .int nc, .int nd, .int nf, .int na, .int nz, .int no, .int a1, .int 0, .int 0, .ref qi, .int nn, .ref qo, .int nt])), (qm, .inl (cI, 104, .inl nm)), (qf, .inl (cI, 104, .inl nb)), (ql, .inl (cI, 4, .inl nl)), (qi, .inl (cI, 24, .inl ni)), (qo, .inl (cI, 16, .inl (upd nu (0 : Int32).toNatClampNeg (nl (a1 : Int32).toNatClampNeg))))] := hD
      refine lv_aload_n hx hb d_Rf_select_52 rfl (lv_at hl 0 rfl) ?_
      refine lv_iconst (v := 1) hx hb d_Rf_select_53 (by decide) ?_
      refine va_put (D := (dC, dI)) (ci := 3) (v := .int 1) (ty := .int) (C := R_Rf) (T := F_Rf) (N := 16) hx hb hts inRf t_Rf t_Rf_ok n_Rf hown hK hP hD hS 0 rfl rfl 15 (by decide) kf42 (fun _ h9 => h9) rfl (by decide +kernel) rfl rfl (Nat.le_of_ble_eq_true rfl) d_Rf_select_54 (fun H locs hP hD hS => ?_)
      have hP : va_P (dC, dI) vwCl [(hq, .inr (3, [.ref qm, .ref qf, .ref ql, .int nc, .int nd, .int nf, .int na, .int nz, .int no, .int a1, .int 0, .int 0, .ref qi, .int nn, .ref qo, .int 1])), (qm, .inl (cI, 104, .inl nm)), (qf, .inl (cI, 104, .inl nb)), (ql, .inl (cI, 4, .inl nl)), (qi, .inl (cI, 24, .inl ni)), (qo, .inl (cI, 16, .inl (upd nu (0 : Int32).toNatClampNeg (nl (a1 : Int32).toNatClampNeg))))] H := hP
      have hD : va_D A [(hq, .inr (3, [.ref qm, .ref qf, .ref ql, .int nc, .int nd, .int nf, .int na, .int nz, .int no, .int a1, .int 0, .int 0, .ref qi, .int nn, .ref qo, .int 1])), (qm, .inl (cI, 104, .inl nm)), (qf, .inl (cI, 104, .inl nb)), (ql, .inl (cI, 4, .inl nl)), (qi, .inl (cI, 24, .inl ni)), (qo, .inl (cI, 16, .inl (upd nu (0 : Int32).toNatClampNeg (nl (a1 : Int32).toNatClampNeg))))] := hD
      refine lv_ldc (v := 36864) hx hb hown kc103 d_Rf_select_57 ?_
      obtain ⟨e1_, e2_, e3_, e4_, e5_, e6_, e7_, e8_, e9_, e10_, e11_, e12_, e13_, e14_, e15_, e16_, e17_⟩ := lf17 hf
      subst e1_; subst e2_; subst e3_; subst e4_; subst e5_; subst e6_; subst e7_; subst e8_; subst e9_; subst e10_; subst e11_; subst e12_; subst e13_; subst e14_; subst e15_; subst e16_; subst e17_
      have hP9 := hP.sub (ws' := [(hq, .inr (3, [.ref qm, .ref qf, .ref ql, .int nc, .int nd, .int nf, .int na, .int nz, .int no, .int a1, .int 0, .int 0, .ref qi, .int nn, .ref qo, .int 1])), (qm, .inl (cI, 104, .inl nm)), (qf, .inl (cI, 104, .inl nb)), (ql, .inl (cI, 4, .inl nl)), (qi, .inl (cI, 24, .inl ni)), (qo, .inl (cI, 16, .inl (upd nu (0 : Int32).toNatClampNeg (nl (a1 : Int32).toNatClampNeg))))]) [0, 1, 2, 3, 4, 5] rfl
      have hD9 := hD.sub (ws' := [(hq, .inr (3, [.ref qm, .ref qf, .ref ql, .int nc, .int nd, .int nf, .int na, .int nz, .int no, .int a1, .int 0, .int 0, .ref qi, .int nn, .ref qo, .int 1])), (qm, .inl (cI, 104, .inl nm)), (qf, .inl (cI, 104, .inl nb)), (ql, .inl (cI, 4, .inl nl)), (qi, .inl (cI, 24, .inl ni)), (qo, .inl (cI, 16, .inl (upd nu (0 : Int32).toNatClampNeg (nl (a1 : Int32).toNatClampNeg))))]) [0, 1, 2, 3, 4, 5] (by decide) rfl
      exact W.iret (v := 36864) hx hb hr (fun t ht hW => ⟨⟨36864, (), rfl, rfl, by rw [ht]; exact hP9, va_K.moved hW.alike hK, hD9⟩, hS.F ht⟩) hS.2.2 d_Rf_select_59
    have hf := ifn hf hc2
    refine lv_aload_n hx hb d_Rf_select_16 rfl (lv_at hl 0 rfl) ?_
    obtain ⟨r5, nm5, nb5, nl5, nc5, nd5, nf5, na5, nz5, no5, ns5, nv5, np5, ni5, nn5, nu5, nt5, hg, hf⟩ := bd17_some hf
    refine xcz (wr := []) (ctRf_undo l dC dI cI hq qm qf ql qi qo nm nb nl nc nd nf na nz no ns nv np ni nn nu nt r5 nm5 nb5 nl5 nc5 nd5 nf5 na5 nz5 no5 ns5 nv5 np5 ni5 nn5 nu5 nt5 hg) ⟨hx, hb, hml, hown, hts⟩ (cwV (C := R_Rf) 0 hts (gV wq467 wq469 wq23 wq46 wq470) rfl rfl rfl (by decide +kernel) ⟨Nat.le_of_ble_eq_true rfl, Nat.le_of_ble_eq_true rfl⟩) hK hP hD hS hA [0, 1, 2, 3, 4, 5] [] rfl rfl rfl rfl (by decide) (ci := 3) (q0 := 0) rfl rfl rfl rfl hl.1 rfl (Nat.le_of_ble_eq_true rfl) d_Rf_select_17 ⟨Nat.zero_le _, Nat.zero_le _⟩ (fun H locs hn5 hP hD hS => ?_)
    have hP : va_P (dC, dI) vwCl [(hq, .inr (3, [.ref qm, .ref qf, .ref ql, .int nc5, .int nd5, .int nf5, .int na5, .int nz5, .int no5, .int ns5, .int nv5, .int np5, .ref qi, .int nn5, .ref qo, .int nt5])), (qm, .inl (cI, 104, .inl nm5)), (qf, .inl (cI, 104, .inl nb5)), (ql, .inl (cI, 4, .inl nl5)), (qi, .inl (cI, 24, .inl ni5)), (qo, .inl (cI, 16, .inl nu5))] H := hP
    have hD : va_D A [(hq, .inr (3, [.ref qm, .ref qf, .ref ql, .int nc5, .int nd5, .int nf5, .int na5, .int nz5, .int no5, .int ns5, .int nv5, .int np5, .ref qi, .int nn5, .ref qo, .int nt5])), (qm, .inl (cI, 104, .inl nm5)), (qf, .inl (cI, 104, .inl nb5)), (ql, .inl (cI, 4, .inl nl5)), (qi, .inl (cI, 24, .inl ni5)), (qo, .inl (cI, 16, .inl nu5))] := hD
    refine lv_if_ne (tgt := 25) hx hb d_Rf_select_20 rfl (fun hc6 => ?_) (fun hc6 => ?_)
    · have hf := ifn hf hc6
      refine lv_aload_n hx hb d_Rf_select_25 rfl (lv_at hl 0 rfl) ?_
      refine lv_iconst (v := 0) hx hb d_Rf_select_26 (by decide) ?_
      refine va_put (D := (dC, dI)) (ci := 3) (v := .int 0) (ty := .boolean) (C := R_Rf) (T := F_Rf) (N := 16) hx hb hts inRf t_Rf t_Rf_ok n_Rf hown hK hP hD hS 0 rfl rfl 11 (by decide) kf36 (fun _ h9 => h9) rfl (by decide +kernel) rfl rfl (Nat.le_of_ble_eq_true rfl) d_Rf_select_27 (fun H locs hP hD hS => ?_)
      have hP : va_P (dC, dI) vwCl [(hq, .inr (3, [.ref qm, .ref qf, .ref ql, .int nc5, .int nd5, .int nf5, .int na5, .int nz5, .int no5, .int ns5, .int nv5, .int 0, .ref qi, .int nn5, .ref qo, .int nt5])), (qm, .inl (cI, 104, .inl nm5)), (qf, .inl (cI, 104, .inl nb5)), (ql, .inl (cI, 4, .inl nl5)), (qi, .inl (cI, 24, .inl ni5)), (qo, .inl (cI, 16, .inl nu5))] H := hP
      have hD : va_D A [(hq, .inr (3, [.ref qm, .ref qf, .ref ql, .int nc5, .int nd5, .int nf5, .int na5, .int nz5, .int no5, .int ns5, .int nv5, .int 0, .ref qi, .int nn5, .ref qo, .int nt5])), (qm, .inl (cI, 104, .inl nm5)), (qf, .inl (cI, 104, .inl nb5)), (ql, .inl (cI, 4, .inl nl5)), (qi, .inl (cI, 24, .inl ni5)), (qo, .inl (cI, 16, .inl nu5))] := hD
      refine lv_aload_n hx hb d_Rf_select_30 rfl (lv_at hl 0 rfl) ?_
      refine lv_iload_n hx hb d_Rf_select_31 rfl (lv_at hl 1 rfl) ?_
      refine va_put (D := (dC, dI)) (ci := 3) (v := .int a1) (ty := .int) (C := R_Rf) (T := F_Rf) (N := 16) hx hb hts inRf t_Rf t_Rf_ok n_Rf hown hK hP hD hS 0 rfl rfl 9 (by decide) kf23 (fun _ h9 => h9) rfl (by decide +kernel) rfl rfl (Nat.le_of_ble_eq_true rfl) d_Rf_select_32 (fun H locs hP hD hS => ?_)
      have hP : va_P (dC, dI) vwCl [(hq, .inr (3, [.ref qm, .ref qf, .ref ql, .int nc5, .int nd5, .int nf5, .int na5, .int nz5, .int no5, .int a1, .int nv5, .int 0, .ref qi, .int nn5, .ref qo, .int nt5])), (qm, .inl (cI, 104, .inl nm5)), (qf, .inl (cI, 104, .inl nb5)), (ql, .inl (cI, 4, .inl nl5)), (qi, .inl (cI, 24, .inl ni5)), (qo, .inl (cI, 16, .inl nu5))] H := hP
      have hD : va_D A [(hq, .inr (3, [.ref qm, .ref qf, .ref ql, .int nc5, .int nd5, .int nf5, .int na5, .int nz5, .int no5, .int a1, .int nv5, .int 0, .ref qi, .int nn5, .ref qo, .int nt5])), (qm, .inl (cI, 104, .inl nm5)), (qf, .inl (cI, 104, .inl nb5)), (ql, .inl (cI, 4, .inl nl5)), (qi, .inl (cI, 24, .inl ni5)), (qo, .inl (cI, 16, .inl nu5))] := hD
      refine lv_aload_n hx hb d_Rf_select_35 rfl (lv_at hl 0 rfl) ?_
      refine lv_iconst (v := 0) hx hb d_Rf_select_36 (by decide) ?_
      refine va_put (D := (dC, dI)) (ci := 3) (v := .int 0) (ty := .boolean) (C := R_Rf) (T := F_Rf) (N := 16) hx hb hts inRf t_Rf t_Rf_ok n_Rf hown hK hP hD hS 0 rfl rfl 10 (by decide) kf33 (fun _ h9 => h9) rfl (by decide +kernel) rfl rfl (Nat.le_of_ble_eq_true rfl) d_Rf_select_37 (fun H locs hP hD hS => ?_)
      have hP : va_P (dC, dI) vwCl [(hq, .inr (3, [.ref qm, .ref qf, .ref ql, .int nc5, .int nd5, .int nf5, .int na5, .int nz5, .int no5, .int a1, .int 0, .int 0, .ref qi, .int nn5, .ref qo, .int nt5])), (qm, .inl (cI, 104, .inl nm5)), (qf, .inl (cI, 104, .inl nb5)), (ql, .inl (cI, 4, .inl nl5)), (qi, .inl (cI, 24, .inl ni5)), (qo, .inl (cI, 16, .inl nu5))] H := hP
      have hD : va_D A [(hq, .inr (3, [.ref qm, .ref qf, .ref ql, .int nc5, .int nd5, .int nf5, .int na5, .int nz5, .int no5, .int a1, .int 0, .int 0, .ref qi, .int nn5, .ref qo, .int nt5])), (qm, .inl (cI, 104, .inl nm5)), (qf, .inl (cI, 104, .inl nb5)), (ql, .inl (cI, 4, .inl nl5)), (qi, .inl (cI, 24, .inl ni5)), (qo, .inl (cI, 16, .inl nu5))] := hD
      refine lv_aload_n hx hb d_Rf_select_40 rfl (lv_at hl 0 rfl) ?_
      refine va_get (D := (dC, dI)) (ci := 3) (v := .ref qo) (C := R_Rf) (T := F_Rf) (N := 16) hx hb hts inRf hown hK hP 0 rfl rfl 14 (by decide) kf30 (fun _ h9 => h9) rfl d_Rf_select_41 ?_
      refine lv_iconst (v := 0) hx hb d_Rf_select_44 (by decide) ?_
      refine lv_aload_n hx hb d_Rf_select_45 rfl (lv_at hl 0 rfl) ?_
      refine va_get (D := (dC, dI)) (ci := 3) (v := .ref ql) (C := R_Rf) (T := F_Rf) (N := 16) hx hb hts inRf hown hK hP 0 rfl rfl 2 (by decide) kf16 (fun _ h9 => h9) rfl d_Rf_select_46 ?_
      refine lv_iload_n hx hb d_Rf_select_49 rfl (lv_at hl 1 rfl) ?_
      obtain ⟨hin_, hf⟩ := ix_some hf
      refine va_iald hx hb hK hP 3 0 rfl rfl hin_ d_Rf_select_50 ?_
      obtain ⟨hin_, hf⟩ := ix_some hf
      refine va_iast hx hb hK hP hD hS 5 0 rfl rfl hin_ d_Rf_select_51 (fun H locs hP hD hS => ?_)
      have hP : va_P (dC, dI) vwCl [(hq, .inr (3, [.ref qm, .ref qf, .ref ql, .int nc5, .int nd5, .int nf5, .int na5, .int nz5, .int no5, .int a1, .int 0, .int 0, .ref qi, .int nn5, .ref qo, .int nt5])), (qm, .inl (cI, 104, .inl nm5)), (qf, .inl (cI, 104, .inl nb5)), (ql, .inl (cI, 4, .inl nl5)), (qi, .inl (cI, 24, .inl ni5)), (qo, .inl (cI, 16, .inl (upd nu5 (0 : Int32).toNatClampNeg (nl5 (a1 : Int32).toNatClampNeg))))] H := hP
      have hD : va_D A [(hq, .inr (3, [.ref qm, .ref qf, .ref ql, .int nc5, .int nd5, .int nf5, .int na5, .int nz5, .int no5, .int a1, .int 0, .int 0, .ref qi, .int nn5, .ref qo, .int nt5])), (qm, .inl (cI, 104, .inl nm5)), (qf, .inl (cI, 104, .inl nb5)), (ql, .inl (cI, 4, .inl nl5)), (qi, .inl (cI, 24, .inl ni5)), (qo, .inl (cI, 16, .inl (upd nu5 (0 : Int32).toNatClampNeg (nl5 (a1 : Int32).toNatClampNeg))))] := hD
      refine lv_aload_n hx hb d_Rf_select_52 rfl (lv_at hl 0 rfl) ?_
      refine lv_iconst (v := 1) hx hb d_Rf_select_53 (by decide) ?_
      refine va_put (D := (dC, dI)) (ci := 3) (v := .int 1) (ty := .int) (C := R_Rf) (T := F_Rf) (N := 16) hx hb hts inRf t_Rf t_Rf_ok n_Rf hown hK hP hD hS 0 rfl rfl 15 (by decide) kf42 (fun _ h9 => h9) rfl (by decide +kernel) rfl rfl (Nat.le_of_ble_eq_true rfl) d_Rf_select_54 (fun H locs hP hD hS => ?_)
      have hP : va_P (dC, dI) vwCl [(hq, .inr (3, [.ref qm, .ref qf, .ref ql, .int nc5, .int nd5, .int nf5, .int na5, .int nz5, .int no5, .int a1, .int 0, .int 0, .ref qi, .int nn5, .ref qo, .int 1])), (qm, .inl (cI, 104, .inl nm5)), (qf, .inl (cI, 104, .inl nb5)), (ql, .inl (cI, 4, .inl nl5)), (qi, .inl (cI, 24, .inl ni5)), (qo, .inl (cI, 16, .inl (upd nu5 (0 : Int32).toNatClampNeg (nl5 (a1 : Int32).toNatClampNeg))))] H := hP
      have hD : va_D A [(hq, .inr (3, [.ref qm, .ref qf, .ref ql, .int nc5, .int nd5, .int nf5, .int na5, .int nz5, .int no5, .int a1, .int 0, .int 0, .ref qi, .int nn5, .ref qo, .int 1])), (qm, .inl (cI, 104, .inl nm5)), (qf, .inl (cI, 104, .inl nb5)), (ql, .inl (cI, 4, .inl nl5)), (qi, .inl (cI, 24, .inl ni5)), (qo, .inl (cI, 16, .inl (upd nu5 (0 : Int32).toNatClampNeg (nl5 (a1 : Int32).toNatClampNeg))))] := hD
      refine lv_ldc (v := 36864) hx hb hown kc103 d_Rf_select_57 ?_
      obtain ⟨e1_, e2_, e3_, e4_, e5_, e6_, e7_, e8_, e9_, e10_, e11_, e12_, e13_, e14_, e15_, e16_, e17_⟩ := lf17 hf
      subst e1_; subst e2_; subst e3_; subst e4_; subst e5_; subst e6_; subst e7_; subst e8_; subst e9_; subst e10_; subst e11_; subst e12_; subst e13_; subst e14_; subst e15_; subst e16_; subst e17_
      have hP9 := hP.sub (ws' := [(hq, .inr (3, [.ref qm, .ref qf, .ref ql, .int nc5, .int nd5, .int nf5, .int na5, .int nz5, .int no5, .int a1, .int 0, .int 0, .ref qi, .int nn5, .ref qo, .int 1])), (qm, .inl (cI, 104, .inl nm5)), (qf, .inl (cI, 104, .inl nb5)), (ql, .inl (cI, 4, .inl nl5)), (qi, .inl (cI, 24, .inl ni5)), (qo, .inl (cI, 16, .inl (upd nu5 (0 : Int32).toNatClampNeg (nl5 (a1 : Int32).toNatClampNeg))))]) [0, 1, 2, 3, 4, 5] rfl
      have hD9 := hD.sub (ws' := [(hq, .inr (3, [.ref qm, .ref qf, .ref ql, .int nc5, .int nd5, .int nf5, .int na5, .int nz5, .int no5, .int a1, .int 0, .int 0, .ref qi, .int nn5, .ref qo, .int 1])), (qm, .inl (cI, 104, .inl nm5)), (qf, .inl (cI, 104, .inl nb5)), (ql, .inl (cI, 4, .inl nl5)), (qi, .inl (cI, 24, .inl ni5)), (qo, .inl (cI, 16, .inl (upd nu5 (0 : Int32).toNatClampNeg (nl5 (a1 : Int32).toNatClampNeg))))]) [0, 1, 2, 3, 4, 5] (by decide) rfl
      exact W.iret (v := 36864) hx hb hr (fun t ht hW => ⟨⟨36864, (), rfl, rfl, by rw [ht]; exact hP9, va_K.moved hW.alike hK, hD9⟩, hS.F ht⟩) hS.2.2 d_Rf_select_59
    have hf := ift hf hc6
    refine lv_iconst (v := (-1)) hx hb d_Rf_select_23 (by decide) ?_
    obtain ⟨e1_, e2_, e3_, e4_, e5_, e6_, e7_, e8_, e9_, e10_, e11_, e12_, e13_, e14_, e15_, e16_, e17_⟩ := lf17 hf
    subst e1_; subst e2_; subst e3_; subst e4_; subst e5_; subst e6_; subst e7_; subst e8_; subst e9_; subst e10_; subst e11_; subst e12_; subst e13_; subst e14_; subst e15_; subst e16_; subst e17_
    have hP9 := hP.sub (ws' := [(hq, .inr (3, [.ref qm, .ref qf, .ref ql, .int nc5, .int nd5, .int nf5, .int na5, .int nz5, .int no5, .int ns5, .int nv5, .int np5, .ref qi, .int nn5, .ref qo, .int nt5])), (qm, .inl (cI, 104, .inl nm5)), (qf, .inl (cI, 104, .inl nb5)), (ql, .inl (cI, 4, .inl nl5)), (qi, .inl (cI, 24, .inl ni5)), (qo, .inl (cI, 16, .inl nu5))]) [0, 1, 2, 3, 4, 5] rfl
    have hD9 := hD.sub (ws' := [(hq, .inr (3, [.ref qm, .ref qf, .ref ql, .int nc5, .int nd5, .int nf5, .int na5, .int nz5, .int no5, .int ns5, .int nv5, .int np5, .ref qi, .int nn5, .ref qo, .int nt5])), (qm, .inl (cI, 104, .inl nm5)), (qf, .inl (cI, 104, .inl nb5)), (ql, .inl (cI, 4, .inl nl5)), (qi, .inl (cI, 24, .inl ni5)), (qo, .inl (cI, 16, .inl nu5))]) [0, 1, 2, 3, 4, 5] (by decide) rfl
    exact W.iret (v := (-1)) hx hb hr (fun t ht hW => ⟨⟨(-1), (), rfl, rfl, by rw [ht]; exact hP9, va_K.moved hW.alike hK, hD9⟩, hS.F ht⟩) hS.2.2 d_Rf_select_24
  have hf := ifn hf hc1
  refine lv_sipush (v := 27266) hx hb d_Rf_select_5 (by decide) ?_
  obtain ⟨e1_, e2_, e3_, e4_, e5_, e6_, e7_, e8_, e9_, e10_, e11_, e12_, e13_, e14_, e15_, e16_, e17_⟩ := lf17 hf
  subst e1_; subst e2_; subst e3_; subst e4_; subst e5_; subst e6_; subst e7_; subst e8_; subst e9_; subst e10_; subst e11_; subst e12_; subst e13_; subst e14_; subst e15_; subst e16_; subst e17_
  have hP9 := hP.sub (ws' := [(hq, .inr (3, [.ref qm, .ref qf, .ref ql, .int nc, .int nd, .int nf, .int na, .int nz, .int no, .int ns, .int nv, .int np, .ref qi, .int nn, .ref qo, .int nt])), (qm, .inl (cI, 104, .inl nm)), (qf, .inl (cI, 104, .inl nb)), (ql, .inl (cI, 4, .inl nl)), (qi, .inl (cI, 24, .inl ni)), (qo, .inl (cI, 16, .inl nu))]) [0, 1, 2, 3, 4, 5] rfl
  have hD9 := hD.sub (ws' := [(hq, .inr (3, [.ref qm, .ref qf, .ref ql, .int nc, .int nd, .int nf, .int na, .int nz, .int no, .int ns, .int nv, .int np, .ref qi, .int nn, .ref qo, .int nt])), (qm, .inl (cI, 104, .inl nm)), (qf, .inl (cI, 104, .inl nb)), (ql, .inl (cI, 4, .inl nl)), (qi, .inl (cI, 24, .inl ni)), (qo, .inl (cI, 16, .inl nu))]) [0, 1, 2, 3, 4, 5] (by decide) rfl
  exact W.iret (v := 27266) hx hb hr (fun t ht hW => ⟨⟨27266, (), rfl, rfl, by rw [ht]; exact hP9, va_K.moved hW.alike hK, hD9⟩, hS.F ht⟩) hS.2.2 d_Rf_select_8
theorem d_Rf_verify_0 : decode b_Rf_verify 0 = .ok (.aload_n 0, 1) := by decide +kernel
theorem d_Rf_verify_1 : decode b_Rf_verify 1 = .ok (.getfield 23, 3) := by decide +kernel
theorem d_Rf_verify_4 : decode b_Rf_verify 4 = .ok (.istore_n 1, 1) := by decide +kernel
theorem d_Rf_verify_5 : decode b_Rf_verify 5 = .ok (.aload_n 0, 1) := by decide +kernel
theorem d_Rf_verify_6 : decode b_Rf_verify 6 = .ok (.getfield 16, 3) := by decide +kernel
theorem d_Rf_verify_9 : decode b_Rf_verify 9 = .ok (.iload_n 1, 1) := by decide +kernel
theorem d_Rf_verify_10 : decode b_Rf_verify 10 = .ok (.iaload, 1) := by decide +kernel
theorem d_Rf_verify_11 : decode b_Rf_verify 11 = .ok (.ifCond .ne 7, 3) := by decide +kernel
theorem d_Rf_verify_14 : decode b_Rf_verify 14 = .ok (.sipush 27011, 3) := by decide +kernel
theorem d_Rf_verify_17 : decode b_Rf_verify 17 = .ok (.ireturn, 1) := by decide +kernel
theorem d_Rf_verify_18 : decode b_Rf_verify 18 = .ok (.aload_n 0, 1) := by decide +kernel
theorem d_Rf_verify_19 : decode b_Rf_verify 19 = .ok (.invokevirtual 60, 3) := by decide +kernel
theorem d_Rf_verify_22 : decode b_Rf_verify 22 = .ok (.ifCond .ne 5, 3) := by decide +kernel
theorem d_Rf_verify_25 : decode b_Rf_verify 25 = .ok (.iconst (-1), 1) := by decide +kernel
theorem d_Rf_verify_26 : decode b_Rf_verify 26 = .ok (.ireturn, 1) := by decide +kernel
theorem d_Rf_verify_27 : decode b_Rf_verify 27 = .ok (.aload_n 0, 1) := by decide +kernel
theorem d_Rf_verify_28 : decode b_Rf_verify 28 = .ok (.getfield 16, 3) := by decide +kernel
theorem d_Rf_verify_31 : decode b_Rf_verify 31 = .ok (.iload_n 1, 1) := by decide +kernel
theorem d_Rf_verify_32 : decode b_Rf_verify 32 = .ok (.dup2, 1) := by decide +kernel
theorem d_Rf_verify_33 : decode b_Rf_verify 33 = .ok (.iaload, 1) := by decide +kernel
theorem d_Rf_verify_34 : decode b_Rf_verify 34 = .ok (.iconst 1, 1) := by decide +kernel
theorem d_Rf_verify_35 : decode b_Rf_verify 35 = .ok (.isub, 1) := by decide +kernel
theorem d_Rf_verify_36 : decode b_Rf_verify 36 = .ok (.iastore, 1) := by decide +kernel
theorem d_Rf_verify_37 : decode b_Rf_verify 37 = .ok (.aload_n 0, 1) := by decide +kernel
theorem d_Rf_verify_38 : decode b_Rf_verify 38 = .ok (.iconst 0, 1) := by decide +kernel
theorem d_Rf_verify_39 : decode b_Rf_verify 39 = .ok (.putfield 33, 3) := by decide +kernel
theorem d_Rf_verify_42 : decode b_Rf_verify 42 = .ok (.aload_n 0, 1) := by decide +kernel
theorem d_Rf_verify_43 : decode b_Rf_verify 43 = .ok (.getfield 27, 3) := by decide +kernel
theorem d_Rf_verify_46 : decode b_Rf_verify 46 = .ok (.iconst 5, 1) := by decide +kernel
theorem d_Rf_verify_47 : decode b_Rf_verify 47 = .ok (.iaload, 1) := by decide +kernel
theorem d_Rf_verify_48 : decode b_Rf_verify 48 = .ok (.aload_n 0, 1) := by decide +kernel
theorem d_Rf_verify_49 : decode b_Rf_verify 49 = .ok (.getfield 7, 3) := by decide +kernel
theorem d_Rf_verify_52 : decode b_Rf_verify 52 = .ok (.bipush 64, 2) := by decide +kernel
theorem d_Rf_verify_54 : decode b_Rf_verify 54 = .ok (.iconst 2, 1) := by decide +kernel
theorem d_Rf_verify_55 : decode b_Rf_verify 55 = .ok (.iload_n 1, 1) := by decide +kernel
theorem d_Rf_verify_56 : decode b_Rf_verify 56 = .ok (.imul, 1) := by decide +kernel
theorem d_Rf_verify_57 : decode b_Rf_verify 57 = .ok (.iadd, 1) := by decide +kernel
theorem d_Rf_verify_58 : decode b_Rf_verify 58 = .ok (.iaload, 1) := by decide +kernel
theorem d_Rf_verify_59 : decode b_Rf_verify 59 = .ok (.if_icmp .ne 24, 3) := by decide +kernel
theorem d_Rf_verify_62 : decode b_Rf_verify 62 = .ok (.aload_n 0, 1) := by decide +kernel
theorem d_Rf_verify_63 : decode b_Rf_verify 63 = .ok (.getfield 27, 3) := by decide +kernel
theorem d_Rf_verify_66 : decode b_Rf_verify 66 = .ok (.bipush 6, 2) := by decide +kernel
theorem d_Rf_verify_68 : decode b_Rf_verify 68 = .ok (.iaload, 1) := by decide +kernel
theorem d_Rf_verify_69 : decode b_Rf_verify 69 = .ok (.aload_n 0, 1) := by decide +kernel
theorem d_Rf_verify_70 : decode b_Rf_verify 70 = .ok (.getfield 7, 3) := by decide +kernel
theorem d_Rf_verify_73 : decode b_Rf_verify 73 = .ok (.bipush 65, 2) := by decide +kernel
theorem d_Rf_verify_75 : decode b_Rf_verify 75 = .ok (.iconst 2, 1) := by decide +kernel
theorem d_Rf_verify_76 : decode b_Rf_verify 76 = .ok (.iload_n 1, 1) := by decide +kernel
theorem d_Rf_verify_77 : decode b_Rf_verify 77 = .ok (.imul, 1) := by decide +kernel
theorem d_Rf_verify_78 : decode b_Rf_verify 78 = .ok (.iadd, 1) := by decide +kernel
theorem d_Rf_verify_79 : decode b_Rf_verify 79 = .ok (.iaload, 1) := by decide +kernel
theorem d_Rf_verify_80 : decode b_Rf_verify 80 = .ok (.if_icmp .eq 14, 3) := by decide +kernel
theorem d_Rf_verify_83 : decode b_Rf_verify 83 = .ok (.sipush 25536, 3) := by decide +kernel
theorem d_Rf_verify_86 : decode b_Rf_verify 86 = .ok (.aload_n 0, 1) := by decide +kernel
theorem d_Rf_verify_87 : decode b_Rf_verify 87 = .ok (.getfield 16, 3) := by decide +kernel
theorem d_Rf_verify_90 : decode b_Rf_verify 90 = .ok (.iload_n 1, 1) := by decide +kernel
theorem d_Rf_verify_91 : decode b_Rf_verify 91 = .ok (.iaload, 1) := by decide +kernel
theorem d_Rf_verify_92 : decode b_Rf_verify 92 = .ok (.iadd, 1) := by decide +kernel
theorem d_Rf_verify_93 : decode b_Rf_verify 93 = .ok (.ireturn, 1) := by decide +kernel
theorem d_Rf_verify_94 : decode b_Rf_verify 94 = .ok (.aload_n 0, 1) := by decide +kernel
theorem d_Rf_verify_95 : decode b_Rf_verify 95 = .ok (.invokevirtual 60, 3) := by decide +kernel
theorem d_Rf_verify_98 : decode b_Rf_verify 98 = .ok (.ifCond .ne 5, 3) := by decide +kernel
theorem d_Rf_verify_101 : decode b_Rf_verify 101 = .ok (.iconst (-1), 1) := by decide +kernel
theorem d_Rf_verify_102 : decode b_Rf_verify 102 = .ok (.ireturn, 1) := by decide +kernel
theorem d_Rf_verify_103 : decode b_Rf_verify 103 = .ok (.aload_n 0, 1) := by decide +kernel
theorem d_Rf_verify_104 : decode b_Rf_verify 104 = .ok (.getfield 16, 3) := by decide +kernel
theorem d_Rf_verify_107 : decode b_Rf_verify 107 = .ok (.iload_n 1, 1) := by decide +kernel
theorem d_Rf_verify_108 : decode b_Rf_verify 108 = .ok (.iconst 3, 1) := by decide +kernel
theorem d_Rf_verify_109 : decode b_Rf_verify 109 = .ok (.iastore, 1) := by decide +kernel
theorem d_Rf_verify_110 : decode b_Rf_verify 110 = .ok (.aload_n 0, 1) := by decide +kernel
theorem d_Rf_verify_111 : decode b_Rf_verify 111 = .ok (.iconst 1, 1) := by decide +kernel
theorem d_Rf_verify_112 : decode b_Rf_verify 112 = .ok (.putfield 33, 3) := by decide +kernel
theorem d_Rf_verify_115 : decode b_Rf_verify 115 = .ok (.ldc 103, 2) := by decide +kernel
theorem d_Rf_verify_117 : decode b_Rf_verify 117 = .ok (.ireturn, 1) := by decide +kernel
def fRf_verify (σ : StR) : Option (Int32 × StR) := match σ with | (nm, nb, nl, nc, nd, nf, na, nz, no, ns, nv, np, ni, nn, nu, nt) => ix ns 4 fun j1 => if (nl j1) = 0 then (some (27011, nm, nb, nl, nc, nd, nf, na, nz, no, ns, nv, np, ni, nn, nu, nt)) else (bd17 (fRf_write (nm, nb, nl, nc, nd, nf, na, nz, no, ns, nv, np, ni, nn, nu, nt)) fun r3 nm3 nb3 nl3 nc3 nd3 nf3 na3 nz3 no3 ns3 nv3 np3 ni3 nn3 nu3 nt3 => if r3 = 0 then (some ((-1), nm3, nb3, nl3, nc3, nd3, nf3, na3, nz3, no3, ns3, nv3, np3, ni3, nn3, nu3, nt3)) else (ix ns 4 fun j5 => ix ns 4 fun j6 => ix 5 24 fun j7 => ix (64 + (2 * ns)) 104 fun j8 => if (ni3 j7) = (nm3 j8) then (ix 6 24 fun j11 => ix (65 + (2 * ns)) 104 fun j12 => if (ni3 j11) = (nm3 j12) then (bd17 (fRf_write (nm3, nb3, upd nl3 j6 ((nl3 j5) - 1), nc3, nd3, nf3, na3, nz3, no3, ns3, 0, np3, ni3, nn3, nu3, nt3)) fun r14 nm14 nb14 nl14 nc14 nd14 nf14 na14 nz14 no14 ns14 nv14 np14 ni14 nn14 nu14 nt14 => if r14 = 0 then (some ((-1), nm14, nb14, nl14, nc14, nd14, nf14, na14, nz14, no14, ns14, nv14, np14, ni14, nn14, nu14, nt14)) else (ix ns 4 fun j16 => some (36864, nm14, nb14, upd nl14 j16 3, nc14, nd14, nf14, na14, nz14, no14, ns14, 1, np14, ni14, nn14, nu14, nt14))) else (ix ns 4 fun j17 => some (25536 + ((upd nl3 j6 ((nl3 j5) - 1)) j17), nm3, nb3, upd nl3 j6 ((nl3 j5) - 1), nc3, nd3, nf3, na3, nz3, no3, ns3, 0, np3, ni3, nn3, nu3, nt3))) else (ix ns 4 fun j10 => some (25536 + ((upd nl3 j6 ((nl3 j5) - 1)) j10), nm3, nb3, upd nl3 j6 ((nl3 j5) - 1), nc3, nd3, nf3, na3, nz3, no3, ns3, 0, np3, ni3, nn3, nu3, nt3))))
set_option maxHeartbeats 4000000 in
set_option maxRecDepth 100000 in
theorem ctRf_verify (l : Launch) (dC : Nat → ClassId) (dI : Nat → Nat → Nat) (cI : ClassId) (hq qm qf ql qi qo : Nat) (nm : Nat → Int32) (nb : Nat → Int32) (nl : Nat → Int32) (nc : Int32) (nd : Int32) (nf : Int32) (na : Int32) (nz : Int32) (no : Int32) (ns : Int32) (nv : Int32) (np : Int32) (ni : Nat → Int32) (nn : Int32) (nu : Nat → Int32) (nt : Int32) (r : Int32) (nm' : Nat → Int32) (nb' : Nat → Int32) (nl' : Nat → Int32) (nc' : Int32) (nd' : Int32) (nf' : Int32) (na' : Int32) (nz' : Int32) (no' : Int32) (ns' : Int32) (nv' : Int32) (np' : Int32) (ni' : Nat → Int32) (nn' : Int32) (nu' : Nat → Int32) (nt' : Int32) (hf : fRf_verify (nm, nb, nl, nc, nd, nf, na, nz, no, ns, nv, np, ni, nn, nu, nt) = some (r, nm', nb', nl', nc', nd', nf', na', nz', no', ns', nv', np', ni', nn', nu', nt')) : CtI l y_Rf_verify w_Rf_verify ({ frames := 2, cells := 0, slots := 0, locals := 40 }) (dC, dI) [(cI, .int)] [.ref hq] [(hq, .inr (3, [.ref qm, .ref qf, .ref ql, .int nc, .int nd, .int nf, .int na, .int nz, .int no, .int ns, .int nv, .int np, .ref qi, .int nn, .ref qo, .int nt])), (qm, .inl (cI, 104, .inl nm)), (qf, .inl (cI, 104, .inl nb)), (ql, .inl (cI, 4, .inl nl)), (qi, .inl (cI, 24, .inl ni)), (qo, .inl (cI, 16, .inl nu))] [(hq, .inr (3, [.ref qm, .ref qf, .ref ql, .int nc', .int nd', .int nf', .int na', .int nz', .int no', .int ns', .int nv', .int np', .ref qi, .int nn', .ref qo, .int nt'])), (qm, .inl (cI, 104, .inl nm')), (qf, .inl (cI, 104, .inl nb')), (ql, .inl (cI, 4, .inl nl')), (qi, .inl (cI, 24, .inl ni')), (qo, .inl (cI, 16, .inl nu'))] r := by
  intro sz
  refine Met.ofW (cc := b_Rf_verify) (maxL := 2) (ret := some .int) (by decide) rfl ?_
  intro p e s m args below meth c s₁ B hml hv
  obtain ⟨rfl, hsz, hP, hK, hD0⟩ := hv
  have hx := B.exec
  have hb := B.bytes
  have hr := B.returns
  have hts := atoms_spec (ws := w_Rf_verify) B.pre
  have hown : s.vm.findClass R_Rf = some m.cls := findClass_of_methodNamed B.named
  have hlocks := B.notSynchronized
  subst hsz
  have hD := hD0.self (sz := s.heap.size)
  generalize hAe : va_A [(hq, .inr (3, [.ref qm, .ref qf, .ref ql, .int nc, .int nd, .int nf, .int na, .int nz, .int no, .int ns, .int nv, .int np, .ref qi, .int nn, .ref qo, .int nt])), (qm, .inl (cI, 104, .inl nm)), (qf, .inl (cI, 104, .inl nb)), (ql, .inl (cI, 4, .inl nl)), (qi, .inl (cI, 24, .inl ni)), (qo, .inl (cI, 16, .inl nu))] s.heap.size = A at hD ⊢
  have hA : ∀ q : Nat, s.heap.size ≤ q → A q := fun q h => by rw [← hAe]; exact Or.inr h
  have hS : va_S A s.heap s.heap [] := va_S.rf
  have hP : va_P (dC, dI) vwCl [(hq, .inr (3, [.ref qm, .ref qf, .ref ql, .int nc, .int nd, .int nf, .int na, .int nz, .int no, .int ns, .int nv, .int np, .ref qi, .int nn, .ref qo, .int nt])), (qm, .inl (cI, 104, .inl nm)), (qf, .inl (cI, 104, .inl nb)), (ql, .inl (cI, 4, .inl nl)), (qi, .inl (cI, 24, .inl ni)), (qo, .inl (cI, 16, .inl nu))] s.heap := hP
  have hl := lv_entry ([.ref hq]) (n := 2) (Nat.le_of_ble_eq_true rfl)
  rw [lg_entry_eq]
  generalize (lg_sl ([.ref hq]) ++ List.replicate (2 - (lg_sl ([.ref hq])).length) Slot.unset).toArray = ls at hl ⊢
  have hl : lv_has ls 2 [(0, .ref hq)] := hl
  have inRf : ∀ w ∈ u_ws R_Rf F_Rf 16, w ∈ w_Rf_verify := fun w h => List.mem_cons_of_mem _ (in_Rf w h)
  have kc103 := hts _ (List.mem_cons_of_mem _ wq521)
  have kf16 := hts _ (List.mem_cons_of_mem _ wq408)
  have kf23 := hts _ (List.mem_cons_of_mem _ wq415)
  have kf27 := hts _ (List.mem_cons_of_mem _ wq418)
  have kf33 := hts _ (List.mem_cons_of_mem _ wq416)
  have kf7 := hts _ (List.mem_cons_of_mem _ wq406)
  rw [fRf_verify] at hf
  refine lv_aload_n hx hb d_Rf_verify_0 rfl (lv_at hl 0 rfl) ?_
  refine va_get (D := (dC, dI)) (ci := 3) (v := .int ns) (C := R_Rf) (T := F_Rf) (N := 16) hx hb hts inRf hown hK hP 0 rfl rfl 9 (by decide) kf23 (fun _ h9 => h9) rfl d_Rf_verify_1 ?_
  refine lv_istore_n hx hb d_Rf_verify_4 rfl hl (by decide) rfl (fun ls hl => ?_)
  have hl : lv_has ls 2 [(1, .int ns), (0, .ref hq)] := hl
  refine lv_aload_n hx hb d_Rf_verify_5 rfl (lv_at hl 1 rfl) ?_
  refine va_get (D := (dC, dI)) (ci := 3) (v := .ref ql) (C := R_Rf) (T := F_Rf) (N := 16) hx hb hts inRf hown hK hP 0 rfl rfl 2 (by decide) kf16 (fun _ h9 => h9) rfl d_Rf_verify_6 ?_
  refine lv_iload_n hx hb d_Rf_verify_9 rfl (lv_at hl 0 rfl) ?_
  obtain ⟨hin_, hf⟩ := ix_some hf
  refine va_iald hx hb hK hP 3 0 rfl rfl hin_ d_Rf_verify_10 ?_
  refine lv_if_ne (tgt := 18) hx hb d_Rf_verify_11 rfl (fun hc2 => ?_) (fun hc2 => ?_)
  · have hf := ifn hf hc2
    refine lv_aload_n hx hb d_Rf_verify_18 rfl (lv_at hl 1 rfl) ?_
    obtain ⟨r3, nm3, nb3, nl3, nc3, nd3, nf3, na3, nz3, no3, ns3, nv3, np3, ni3, nn3, nu3, nt3, hg, hf⟩ := bd17_some hf
    refine xcz (wr := []) (ctRf_write l dC dI cI hq qm qf ql qi qo nm nb nl nc nd nf na nz no ns nv np ni nn nu nt r3 nm3 nb3 nl3 nc3 nd3 nf3 na3 nz3 no3 ns3 nv3 np3 ni3 nn3 nu3 nt3 hg) ⟨hx, hb, hml, hown, hts⟩ (cwV (C := R_Rf) 0 hts (gV wq475 wq477 wq25 wq46 wq478) rfl rfl rfl (by decide +kernel) ⟨Nat.le_of_ble_eq_true rfl, Nat.le_of_ble_eq_true rfl⟩) hK hP hD hS hA [0, 1, 2, 3, 4, 5] [] rfl rfl rfl rfl (by decide) (ci := 3) (q0 := 0) rfl rfl rfl rfl hl.1 rfl (Nat.le_of_ble_eq_true rfl) d_Rf_verify_19 ⟨Nat.zero_le _, Nat.zero_le _⟩ (fun H locs hn3 hP hD hS => ?_)
    have hP : va_P (dC, dI) vwCl [(hq, .inr (3, [.ref qm, .ref qf, .ref ql, .int nc3, .int nd3, .int nf3, .int na3, .int nz3, .int no3, .int ns3, .int nv3, .int np3, .ref qi, .int nn3, .ref qo, .int nt3])), (qm, .inl (cI, 104, .inl nm3)), (qf, .inl (cI, 104, .inl nb3)), (ql, .inl (cI, 4, .inl nl3)), (qi, .inl (cI, 24, .inl ni3)), (qo, .inl (cI, 16, .inl nu3))] H := hP
    have hD : va_D A [(hq, .inr (3, [.ref qm, .ref qf, .ref ql, .int nc3, .int nd3, .int nf3, .int na3, .int nz3, .int no3, .int ns3, .int nv3, .int np3, .ref qi, .int nn3, .ref qo, .int nt3])), (qm, .inl (cI, 104, .inl nm3)), (qf, .inl (cI, 104, .inl nb3)), (ql, .inl (cI, 4, .inl nl3)), (qi, .inl (cI, 24, .inl ni3)), (qo, .inl (cI, 16, .inl nu3))] := hD
    refine lv_if_ne (tgt := 27) hx hb d_Rf_verify_22 rfl (fun hc4 => ?_) (fun hc4 => ?_)
    · have hf := ifn hf hc4
      refine lv_aload_n hx hb d_Rf_verify_27 rfl (lv_at hl 1 rfl) ?_
      refine va_get (D := (dC, dI)) (ci := 3) (v := .ref ql) (C := R_Rf) (T := F_Rf) (N := 16) hx hb hts inRf hown hK hP 0 rfl rfl 2 (by decide) kf16 (fun _ h9 => h9) rfl d_Rf_verify_28 ?_
      refine lv_iload_n hx hb d_Rf_verify_31 rfl (lv_at hl 0 rfl) ?_
      refine lv_dup2_11 hx hb d_Rf_verify_32 rfl rfl ?_
      obtain ⟨hin_, hf⟩ := ix_some hf
      refine va_iald hx hb hK hP 3 0 rfl rfl hin_ d_Rf_verify_33 ?_
      refine lv_iconst (v := 1) hx hb d_Rf_verify_34 (by decide) ?_
      refine lv_isub hx hb d_Rf_verify_35 ?_
      obtain ⟨hin_, hf⟩ := ix_some hf
      refine va_iast hx hb hK hP hD hS 3 0 rfl rfl hin_ d_Rf_verify_36 (fun H locs hP hD hS => ?_)
      have hP : va_P (dC, dI) vwCl [(hq, .inr (3, [.ref qm, .ref qf, .ref ql, .int nc3, .int nd3, .int nf3, .int na3, .int nz3, .int no3, .int ns3, .int nv3, .int np3, .ref qi, .int nn3, .ref qo, .int nt3])), (qm, .inl (cI, 104, .inl nm3)), (qf, .inl (cI, 104, .inl nb3)), (ql, .inl (cI, 4, .inl (upd nl3 (ns : Int32).toNatClampNeg ((nl3 (ns : Int32).toNatClampNeg) - 1)))), (qi, .inl (cI, 24, .inl ni3)), (qo, .inl (cI, 16, .inl nu3))] H := hP
      have hD : va_D A [(hq, .inr (3, [.ref qm, .ref qf, .ref ql, .int nc3, .int nd3, .int nf3, .int na3, .int nz3, .int no3, .int ns3, .int nv3, .int np3, .ref qi, .int nn3, .ref qo, .int nt3])), (qm, .inl (cI, 104, .inl nm3)), (qf, .inl (cI, 104, .inl nb3)), (ql, .inl (cI, 4, .inl (upd nl3 (ns : Int32).toNatClampNeg ((nl3 (ns : Int32).toNatClampNeg) - 1)))), (qi, .inl (cI, 24, .inl ni3)), (qo, .inl (cI, 16, .inl nu3))] := hD
      refine lv_aload_n hx hb d_Rf_verify_37 rfl (lv_at hl 1 rfl) ?_
      refine lv_iconst (v := 0) hx hb d_Rf_verify_38 (by decide) ?_
      refine va_put (D := (dC, dI)) (ci := 3) (v := .int 0) (ty := .boolean) (C := R_Rf) (T := F_Rf) (N := 16) hx hb hts inRf t_Rf t_Rf_ok n_Rf hown hK hP hD hS 0 rfl rfl 10 (by decide) kf33 (fun _ h9 => h9) rfl (by decide +kernel) rfl rfl (Nat.le_of_ble_eq_true rfl) d_Rf_verify_39 (fun H locs hP hD hS => ?_)
      have hP : va_P (dC, dI) vwCl [(hq, .inr (3, [.ref qm, .ref qf, .ref ql, .int nc3, .int nd3, .int nf3, .int na3, .int nz3, .int no3, .int ns3, .int 0, .int np3, .ref qi, .int nn3, .ref qo, .int nt3])), (qm, .inl (cI, 104, .inl nm3)), (qf, .inl (cI, 104, .inl nb3)), (ql, .inl (cI, 4, .inl (upd nl3 (ns : Int32).toNatClampNeg ((nl3 (ns : Int32).toNatClampNeg) - 1)))), (qi, .inl (cI, 24, .inl ni3)), (qo, .inl (cI, 16, .inl nu3))] H := hP
      have hD : va_D A [(hq, .inr (3, [.ref qm, .ref qf, .ref ql, .int nc3, .int nd3, .int nf3, .int na3, .int nz3, .int no3, .int ns3, .int 0, .int np3, .ref qi, .int nn3, .ref qo, .int nt3])), (qm, .inl (cI, 104, .inl nm3)), (qf, .inl (cI, 104, .inl nb3)), (ql, .inl (cI, 4, .inl (upd nl3 (ns : Int32).toNatClampNeg ((nl3 (ns : Int32).toNatClampNeg) - 1)))), (qi, .inl (cI, 24, .inl ni3)), (qo, .inl (cI, 16, .inl nu3))] := hD
      refine lv_aload_n hx hb d_Rf_verify_42 rfl (lv_at hl 1 rfl) ?_
      refine va_get (D := (dC, dI)) (ci := 3) (v := .ref qi) (C := R_Rf) (T := F_Rf) (N := 16) hx hb hts inRf hown hK hP 0 rfl rfl 12 (by decide) kf27 (fun _ h9 => h9) rfl d_Rf_verify_43 ?_
      refine lv_iconst (v := 5) hx hb d_Rf_verify_46 (by decide) ?_
      obtain ⟨hin_, hf⟩ := ix_some hf
      refine va_iald hx hb hK hP 4 0 rfl rfl hin_ d_Rf_verify_47 ?_
      refine lv_aload_n hx hb d_Rf_verify_48 rfl (lv_at hl 1 rfl) ?_
      refine va_get (D := (dC, dI)) (ci := 3) (v := .ref qm) (C := R_Rf) (T := F_Rf) (N := 16) hx hb hts inRf hown hK hP 0 rfl rfl 0 (by decide) kf7 (fun _ h9 => h9) rfl d_Rf_verify_49 ?_
      refine lv_bipush (v := 64) hx hb d_Rf_verify_52 (by decide) ?_
      refine lv_iconst (v := 2) hx hb d_Rf_verify_54 (by decide) ?_
      refine lv_iload_n hx hb d_Rf_verify_55 rfl (lv_at hl 0 rfl) ?_
      refine lv_imul hx hb d_Rf_verify_56 ?_
      refine lv_iadd hx hb d_Rf_verify_57 ?_
      obtain ⟨hin_, hf⟩ := ix_some hf
      refine va_iald hx hb hK hP 1 0 rfl rfl hin_ d_Rf_verify_58 ?_
      refine lv_icmp_ne (tgt := 83) hx hb d_Rf_verify_59 rfl (fun hc9 => ?_) (fun hc9 => ?_)
      · have hf := ifn hf hc9
        refine lv_sipush (v := 25536) hx hb d_Rf_verify_83 (by decide) ?_
        refine lv_aload_n hx hb d_Rf_verify_86 rfl (lv_at hl 1 rfl) ?_
        refine va_get (D := (dC, dI)) (ci := 3) (v := .ref ql) (C := R_Rf) (T := F_Rf) (N := 16) hx hb hts inRf hown hK hP 0 rfl rfl 2 (by decide) kf16 (fun _ h9 => h9) rfl d_Rf_verify_87 ?_
        refine lv_iload_n hx hb d_Rf_verify_90 rfl (lv_at hl 0 rfl) ?_
        obtain ⟨hin_, hf⟩ := ix_some hf
        refine va_iald hx hb hK hP 3 0 rfl rfl hin_ d_Rf_verify_91 ?_
        refine lv_iadd hx hb d_Rf_verify_92 ?_
        obtain ⟨e1_, e2_, e3_, e4_, e5_, e6_, e7_, e8_, e9_, e10_, e11_, e12_, e13_, e14_, e15_, e16_, e17_⟩ := lf17 hf
        subst e1_; subst e2_; subst e3_; subst e4_; subst e5_; subst e6_; subst e7_; subst e8_; subst e9_; subst e10_; subst e11_; subst e12_; subst e13_; subst e14_; subst e15_; subst e16_; subst e17_
        have hP9 := hP.sub (ws' := [(hq, .inr (3, [.ref qm, .ref qf, .ref ql, .int nc3, .int nd3, .int nf3, .int na3, .int nz3, .int no3, .int ns3, .int 0, .int np3, .ref qi, .int nn3, .ref qo, .int nt3])), (qm, .inl (cI, 104, .inl nm3)), (qf, .inl (cI, 104, .inl nb3)), (ql, .inl (cI, 4, .inl (upd nl3 (ns : Int32).toNatClampNeg ((nl3 (ns : Int32).toNatClampNeg) - 1)))), (qi, .inl (cI, 24, .inl ni3)), (qo, .inl (cI, 16, .inl nu3))]) [0, 1, 2, 3, 4, 5] rfl
        have hD9 := hD.sub (ws' := [(hq, .inr (3, [.ref qm, .ref qf, .ref ql, .int nc3, .int nd3, .int nf3, .int na3, .int nz3, .int no3, .int ns3, .int 0, .int np3, .ref qi, .int nn3, .ref qo, .int nt3])), (qm, .inl (cI, 104, .inl nm3)), (qf, .inl (cI, 104, .inl nb3)), (ql, .inl (cI, 4, .inl (upd nl3 (ns : Int32).toNatClampNeg ((nl3 (ns : Int32).toNatClampNeg) - 1)))), (qi, .inl (cI, 24, .inl ni3)), (qo, .inl (cI, 16, .inl nu3))]) [0, 1, 2, 3, 4, 5] (by decide) rfl
        exact W.iret (v := 25536 + ((upd nl3 (ns : Int32).toNatClampNeg ((nl3 (ns : Int32).toNatClampNeg) - 1)) (ns : Int32).toNatClampNeg)) hx hb hr (fun t ht hW => ⟨⟨25536 + ((upd nl3 (ns : Int32).toNatClampNeg ((nl3 (ns : Int32).toNatClampNeg) - 1)) (ns : Int32).toNatClampNeg), (), rfl, rfl, by rw [ht]; exact hP9, va_K.moved hW.alike hK, hD9⟩, hS.F ht⟩) hS.2.2 d_Rf_verify_93
      have hf := ift hf hc9
      refine lv_aload_n hx hb d_Rf_verify_62 rfl (lv_at hl 1 rfl) ?_
      refine va_get (D := (dC, dI)) (ci := 3) (v := .ref qi) (C := R_Rf) (T := F_Rf) (N := 16) hx hb hts inRf hown hK hP 0 rfl rfl 12 (by decide) kf27 (fun _ h9 => h9) rfl d_Rf_verify_63 ?_
      refine lv_bipush (v := 6) hx hb d_Rf_verify_66 (by decide) ?_
      obtain ⟨hin_, hf⟩ := ix_some hf
      refine va_iald hx hb hK hP 4 0 rfl rfl hin_ d_Rf_verify_68 ?_
      refine lv_aload_n hx hb d_Rf_verify_69 rfl (lv_at hl 1 rfl) ?_
      refine va_get (D := (dC, dI)) (ci := 3) (v := .ref qm) (C := R_Rf) (T := F_Rf) (N := 16) hx hb hts inRf hown hK hP 0 rfl rfl 0 (by decide) kf7 (fun _ h9 => h9) rfl d_Rf_verify_70 ?_
      refine lv_bipush (v := 65) hx hb d_Rf_verify_73 (by decide) ?_
      refine lv_iconst (v := 2) hx hb d_Rf_verify_75 (by decide) ?_
      refine lv_iload_n hx hb d_Rf_verify_76 rfl (lv_at hl 0 rfl) ?_
      refine lv_imul hx hb d_Rf_verify_77 ?_
      refine lv_iadd hx hb d_Rf_verify_78 ?_
      obtain ⟨hin_, hf⟩ := ix_some hf
      refine va_iald hx hb hK hP 1 0 rfl rfl hin_ d_Rf_verify_79 ?_
      refine lv_icmp_eq (tgt := 94) hx hb d_Rf_verify_80 rfl (fun hc13 => ?_) (fun hc13 => ?_)
      · have hf := ift hf hc13
        refine lv_aload_n hx hb d_Rf_verify_94 rfl (lv_at hl 1 rfl) ?_
        obtain ⟨r14, nm14, nb14, nl14, nc14, nd14, nf14, na14, nz14, no14, ns14, nv14, np14, ni14, nn14, nu14, nt14, hg, hf⟩ := bd17_some hf
        refine xcz (wr := []) (ctRf_write l dC dI cI hq qm qf ql qi qo nm3 nb3 (upd nl3 (ns : Int32).toNatClampNeg ((nl3 (ns : Int32).toNatClampNeg) - 1)) nc3 nd3 nf3 na3 nz3 no3 ns3 0 np3 ni3 nn3 nu3 nt3 r14 nm14 nb14 nl14 nc14 nd14 nf14 na14 nz14 no14 ns14 nv14 np14 ni14 nn14 nu14 nt14 hg) ⟨hx, hb, hml, hown, hts⟩ (cwV (C := R_Rf) 0 hts (gV wq475 wq477 wq25 wq46 wq478) rfl rfl rfl (by decide +kernel) ⟨Nat.le_of_ble_eq_true rfl, Nat.le_of_ble_eq_true rfl⟩) hK hP hD hS hA [0, 1, 2, 3, 4, 5] [] rfl rfl rfl rfl (by decide) (ci := 3) (q0 := 0) rfl rfl rfl rfl hl.1 rfl (Nat.le_of_ble_eq_true rfl) d_Rf_verify_95 ⟨Nat.zero_le _, Nat.zero_le _⟩ (fun H locs hn14 hP hD hS => ?_)
        have hP : va_P (dC, dI) vwCl [(hq, .inr (3, [.ref qm, .ref qf, .ref ql, .int nc14, .int nd14, .int nf14, .int na14, .int nz14, .int no14, .int ns14, .int nv14, .int np14, .ref qi, .int nn14, .ref qo, .int nt14])), (qm, .inl (cI, 104, .inl nm14)), (qf, .inl (cI, 104, .inl nb14)), (ql, .inl (cI, 4, .inl nl14)), (qi, .inl (cI, 24, .inl ni14)), (qo, .inl (cI, 16, .inl nu14))] H := hP
        have hD : va_D A [(hq, .inr (3, [.ref qm, .ref qf, .ref ql, .int nc14, .int nd14, .int nf14, .int na14, .int nz14, .int no14, .int ns14, .int nv14, .int np14, .ref qi, .int nn14, .ref qo, .int nt14])), (qm, .inl (cI, 104, .inl nm14)), (qf, .inl (cI, 104, .inl nb14)), (ql, .inl (cI, 4, .inl nl14)), (qi, .inl (cI, 24, .inl ni14)), (qo, .inl (cI, 16, .inl nu14))] := hD
        refine lv_if_ne (tgt := 103) hx hb d_Rf_verify_98 rfl (fun hc15 => ?_) (fun hc15 => ?_)
        · have hf := ifn hf hc15
          refine lv_aload_n hx hb d_Rf_verify_103 rfl (lv_at hl 1 rfl) ?_
          refine va_get (D := (dC, dI)) (ci := 3) (v := .ref ql) (C := R_Rf) (T := F_Rf) (N := 16) hx hb hts inRf hown hK hP 0 rfl rfl 2 (by decide) kf16 (fun _ h9 => h9) rfl d_Rf_verify_104 ?_
          refine lv_iload_n hx hb d_Rf_verify_107 rfl (lv_at hl 0 rfl) ?_
          refine lv_iconst (v := 3) hx hb d_Rf_verify_108 (by decide) ?_
          obtain ⟨hin_, hf⟩ := ix_some hf
          refine va_iast hx hb hK hP hD hS 3 0 rfl rfl hin_ d_Rf_verify_109 (fun H locs hP hD hS => ?_)
          have hP : va_P (dC, dI) vwCl [(hq, .inr (3, [.ref qm, .ref qf, .ref ql, .int nc14, .int nd14, .int nf14, .int na14, .int nz14, .int no14, .int ns14, .int nv14, .int np14, .ref qi, .int nn14, .ref qo, .int nt14])), (qm, .inl (cI, 104, .inl nm14)), (qf, .inl (cI, 104, .inl nb14)), (ql, .inl (cI, 4, .inl (upd nl14 (ns : Int32).toNatClampNeg 3))), (qi, .inl (cI, 24, .inl ni14)), (qo, .inl (cI, 16, .inl nu14))] H := hP
          have hD : va_D A [(hq, .inr (3, [.ref qm, .ref qf, .ref ql, .int nc14, .int nd14, .int nf14, .int na14, .int nz14, .int no14, .int ns14, .int nv14, .int np14, .ref qi, .int nn14, .ref qo, .int nt14])), (qm, .inl (cI, 104, .inl nm14)), (qf, .inl (cI, 104, .inl nb14)), (ql, .inl (cI, 4, .inl (upd nl14 (ns : Int32).toNatClampNeg 3))), (qi, .inl (cI, 24, .inl ni14)), (qo, .inl (cI, 16, .inl nu14))] := hD
          refine lv_aload_n hx hb d_Rf_verify_110 rfl (lv_at hl 1 rfl) ?_
          refine lv_iconst (v := 1) hx hb d_Rf_verify_111 (by decide) ?_
          refine va_put (D := (dC, dI)) (ci := 3) (v := .int 1) (ty := .boolean) (C := R_Rf) (T := F_Rf) (N := 16) hx hb hts inRf t_Rf t_Rf_ok n_Rf hown hK hP hD hS 0 rfl rfl 10 (by decide) kf33 (fun _ h9 => h9) rfl (by decide +kernel) rfl rfl (Nat.le_of_ble_eq_true rfl) d_Rf_verify_112 (fun H locs hP hD hS => ?_)
          have hP : va_P (dC, dI) vwCl [(hq, .inr (3, [.ref qm, .ref qf, .ref ql, .int nc14, .int nd14, .int nf14, .int na14, .int nz14, .int no14, .int ns14, .int 1, .int np14, .ref qi, .int nn14, .ref qo, .int nt14])), (qm, .inl (cI, 104, .inl nm14)), (qf, .inl (cI, 104, .inl nb14)), (ql, .inl (cI, 4, .inl (upd nl14 (ns : Int32).toNatClampNeg 3))), (qi, .inl (cI, 24, .inl ni14)), (qo, .inl (cI, 16, .inl nu14))] H := hP
          have hD : va_D A [(hq, .inr (3, [.ref qm, .ref qf, .ref ql, .int nc14, .int nd14, .int nf14, .int na14, .int nz14, .int no14, .int ns14, .int 1, .int np14, .ref qi, .int nn14, .ref qo, .int nt14])), (qm, .inl (cI, 104, .inl nm14)), (qf, .inl (cI, 104, .inl nb14)), (ql, .inl (cI, 4, .inl (upd nl14 (ns : Int32).toNatClampNeg 3))), (qi, .inl (cI, 24, .inl ni14)), (qo, .inl (cI, 16, .inl nu14))] := hD
          refine lv_ldc (v := 36864) hx hb hown kc103 d_Rf_verify_115 ?_
          obtain ⟨e1_, e2_, e3_, e4_, e5_, e6_, e7_, e8_, e9_, e10_, e11_, e12_, e13_, e14_, e15_, e16_, e17_⟩ := lf17 hf
          subst e1_; subst e2_; subst e3_; subst e4_; subst e5_; subst e6_; subst e7_; subst e8_; subst e9_; subst e10_; subst e11_; subst e12_; subst e13_; subst e14_; subst e15_; subst e16_; subst e17_
          have hP9 := hP.sub (ws' := [(hq, .inr (3, [.ref qm, .ref qf, .ref ql, .int nc14, .int nd14, .int nf14, .int na14, .int nz14, .int no14, .int ns14, .int 1, .int np14, .ref qi, .int nn14, .ref qo, .int nt14])), (qm, .inl (cI, 104, .inl nm14)), (qf, .inl (cI, 104, .inl nb14)), (ql, .inl (cI, 4, .inl (upd nl14 (ns : Int32).toNatClampNeg 3))), (qi, .inl (cI, 24, .inl ni14)), (qo, .inl (cI, 16, .inl nu14))]) [0, 1, 2, 3, 4, 5] rfl
          have hD9 := hD.sub (ws' := [(hq, .inr (3, [.ref qm, .ref qf, .ref ql, .int nc14, .int nd14, .int nf14, .int na14, .int nz14, .int no14, .int ns14, .int 1, .int np14, .ref qi, .int nn14, .ref qo, .int nt14])), (qm, .inl (cI, 104, .inl nm14)), (qf, .inl (cI, 104, .inl nb14)), (ql, .inl (cI, 4, .inl (upd nl14 (ns : Int32).toNatClampNeg 3))), (qi, .inl (cI, 24, .inl ni14)), (qo, .inl (cI, 16, .inl nu14))]) [0, 1, 2, 3, 4, 5] (by decide) rfl
          exact W.iret (v := 36864) hx hb hr (fun t ht hW => ⟨⟨36864, (), rfl, rfl, by rw [ht]; exact hP9, va_K.moved hW.alike hK, hD9⟩, hS.F ht⟩) hS.2.2 d_Rf_verify_117
        have hf := ift hf hc15
        refine lv_iconst (v := (-1)) hx hb d_Rf_verify_101 (by decide) ?_
        obtain ⟨e1_, e2_, e3_, e4_, e5_, e6_, e7_, e8_, e9_, e10_, e11_, e12_, e13_, e14_, e15_, e16_, e17_⟩ := lf17 hf
        subst e1_; subst e2_; subst e3_; subst e4_; subst e5_; subst e6_; subst e7_; subst e8_; subst e9_; subst e10_; subst e11_; subst e12_; subst e13_; subst e14_; subst e15_; subst e16_; subst e17_
        have hP9 := hP.sub (ws' := [(hq, .inr (3, [.ref qm, .ref qf, .ref ql, .int nc14, .int nd14, .int nf14, .int na14, .int nz14, .int no14, .int ns14, .int nv14, .int np14, .ref qi, .int nn14, .ref qo, .int nt14])), (qm, .inl (cI, 104, .inl nm14)), (qf, .inl (cI, 104, .inl nb14)), (ql, .inl (cI, 4, .inl nl14)), (qi, .inl (cI, 24, .inl ni14)), (qo, .inl (cI, 16, .inl nu14))]) [0, 1, 2, 3, 4, 5] rfl
        have hD9 := hD.sub (ws' := [(hq, .inr (3, [.ref qm, .ref qf, .ref ql, .int nc14, .int nd14, .int nf14, .int na14, .int nz14, .int no14, .int ns14, .int nv14, .int np14, .ref qi, .int nn14, .ref qo, .int nt14])), (qm, .inl (cI, 104, .inl nm14)), (qf, .inl (cI, 104, .inl nb14)), (ql, .inl (cI, 4, .inl nl14)), (qi, .inl (cI, 24, .inl ni14)), (qo, .inl (cI, 16, .inl nu14))]) [0, 1, 2, 3, 4, 5] (by decide) rfl
        exact W.iret (v := (-1)) hx hb hr (fun t ht hW => ⟨⟨(-1), (), rfl, rfl, by rw [ht]; exact hP9, va_K.moved hW.alike hK, hD9⟩, hS.F ht⟩) hS.2.2 d_Rf_verify_102
      have hf := ifn hf hc13
      refine lv_sipush (v := 25536) hx hb d_Rf_verify_83 (by decide) ?_
      refine lv_aload_n hx hb d_Rf_verify_86 rfl (lv_at hl 1 rfl) ?_
      refine va_get (D := (dC, dI)) (ci := 3) (v := .ref ql) (C := R_Rf) (T := F_Rf) (N := 16) hx hb hts inRf hown hK hP 0 rfl rfl 2 (by decide) kf16 (fun _ h9 => h9) rfl d_Rf_verify_87 ?_
      refine lv_iload_n hx hb d_Rf_verify_90 rfl (lv_at hl 0 rfl) ?_
      obtain ⟨hin_, hf⟩ := ix_some hf
      refine va_iald hx hb hK hP 3 0 rfl rfl hin_ d_Rf_verify_91 ?_
      refine lv_iadd hx hb d_Rf_verify_92 ?_
      obtain ⟨e1_, e2_, e3_, e4_, e5_, e6_, e7_, e8_, e9_, e10_, e11_, e12_, e13_, e14_, e15_, e16_, e17_⟩ := lf17 hf
      subst e1_; subst e2_; subst e3_; subst e4_; subst e5_; subst e6_; subst e7_; subst e8_; subst e9_; subst e10_; subst e11_; subst e12_; subst e13_; subst e14_; subst e15_; subst e16_; subst e17_
      have hP9 := hP.sub (ws' := [(hq, .inr (3, [.ref qm, .ref qf, .ref ql, .int nc3, .int nd3, .int nf3, .int na3, .int nz3, .int no3, .int ns3, .int 0, .int np3, .ref qi, .int nn3, .ref qo, .int nt3])), (qm, .inl (cI, 104, .inl nm3)), (qf, .inl (cI, 104, .inl nb3)), (ql, .inl (cI, 4, .inl (upd nl3 (ns : Int32).toNatClampNeg ((nl3 (ns : Int32).toNatClampNeg) - 1)))), (qi, .inl (cI, 24, .inl ni3)), (qo, .inl (cI, 16, .inl nu3))]) [0, 1, 2, 3, 4, 5] rfl
      have hD9 := hD.sub (ws' := [(hq, .inr (3, [.ref qm, .ref qf, .ref ql, .int nc3, .int nd3, .int nf3, .int na3, .int nz3, .int no3, .int ns3, .int 0, .int np3, .ref qi, .int nn3, .ref qo, .int nt3])), (qm, .inl (cI, 104, .inl nm3)), (qf, .inl (cI, 104, .inl nb3)), (ql, .inl (cI, 4, .inl (upd nl3 (ns : Int32).toNatClampNeg ((nl3 (ns : Int32).toNatClampNeg) - 1)))), (qi, .inl (cI, 24, .inl ni3)), (qo, .inl (cI, 16, .inl nu3))]) [0, 1, 2, 3, 4, 5] (by decide) rfl
      exact W.iret (v := 25536 + ((upd nl3 (ns : Int32).toNatClampNeg ((nl3 (ns : Int32).toNatClampNeg) - 1)) (ns : Int32).toNatClampNeg)) hx hb hr (fun t ht hW => ⟨⟨25536 + ((upd nl3 (ns : Int32).toNatClampNeg ((nl3 (ns : Int32).toNatClampNeg) - 1)) (ns : Int32).toNatClampNeg), (), rfl, rfl, by rw [ht]; exact hP9, va_K.moved hW.alike hK, hD9⟩, hS.F ht⟩) hS.2.2 d_Rf_verify_93
    have hf := ift hf hc4
    refine lv_iconst (v := (-1)) hx hb d_Rf_verify_25 (by decide) ?_
    obtain ⟨e1_, e2_, e3_, e4_, e5_, e6_, e7_, e8_, e9_, e10_, e11_, e12_, e13_, e14_, e15_, e16_, e17_⟩ := lf17 hf
    subst e1_; subst e2_; subst e3_; subst e4_; subst e5_; subst e6_; subst e7_; subst e8_; subst e9_; subst e10_; subst e11_; subst e12_; subst e13_; subst e14_; subst e15_; subst e16_; subst e17_
    have hP9 := hP.sub (ws' := [(hq, .inr (3, [.ref qm, .ref qf, .ref ql, .int nc3, .int nd3, .int nf3, .int na3, .int nz3, .int no3, .int ns3, .int nv3, .int np3, .ref qi, .int nn3, .ref qo, .int nt3])), (qm, .inl (cI, 104, .inl nm3)), (qf, .inl (cI, 104, .inl nb3)), (ql, .inl (cI, 4, .inl nl3)), (qi, .inl (cI, 24, .inl ni3)), (qo, .inl (cI, 16, .inl nu3))]) [0, 1, 2, 3, 4, 5] rfl
    have hD9 := hD.sub (ws' := [(hq, .inr (3, [.ref qm, .ref qf, .ref ql, .int nc3, .int nd3, .int nf3, .int na3, .int nz3, .int no3, .int ns3, .int nv3, .int np3, .ref qi, .int nn3, .ref qo, .int nt3])), (qm, .inl (cI, 104, .inl nm3)), (qf, .inl (cI, 104, .inl nb3)), (ql, .inl (cI, 4, .inl nl3)), (qi, .inl (cI, 24, .inl ni3)), (qo, .inl (cI, 16, .inl nu3))]) [0, 1, 2, 3, 4, 5] (by decide) rfl
    exact W.iret (v := (-1)) hx hb hr (fun t ht hW => ⟨⟨(-1), (), rfl, rfl, by rw [ht]; exact hP9, va_K.moved hW.alike hK, hD9⟩, hS.F ht⟩) hS.2.2 d_Rf_verify_26
  have hf := ift hf hc2
  refine lv_sipush (v := 27011) hx hb d_Rf_verify_14 (by decide) ?_
  obtain ⟨e1_, e2_, e3_, e4_, e5_, e6_, e7_, e8_, e9_, e10_, e11_, e12_, e13_, e14_, e15_, e16_, e17_⟩ := lf17 hf
  subst e1_; subst e2_; subst e3_; subst e4_; subst e5_; subst e6_; subst e7_; subst e8_; subst e9_; subst e10_; subst e11_; subst e12_; subst e13_; subst e14_; subst e15_; subst e16_; subst e17_
  have hP9 := hP.sub (ws' := [(hq, .inr (3, [.ref qm, .ref qf, .ref ql, .int nc, .int nd, .int nf, .int na, .int nz, .int no, .int ns, .int nv, .int np, .ref qi, .int nn, .ref qo, .int nt])), (qm, .inl (cI, 104, .inl nm)), (qf, .inl (cI, 104, .inl nb)), (ql, .inl (cI, 4, .inl nl)), (qi, .inl (cI, 24, .inl ni)), (qo, .inl (cI, 16, .inl nu))]) [0, 1, 2, 3, 4, 5] rfl
  have hD9 := hD.sub (ws' := [(hq, .inr (3, [.ref qm, .ref qf, .ref ql, .int nc, .int nd, .int nf, .int na, .int nz, .int no, .int ns, .int nv, .int np, .ref qi, .int nn, .ref qo, .int nt])), (qm, .inl (cI, 104, .inl nm)), (qf, .inl (cI, 104, .inl nb)), (ql, .inl (cI, 4, .inl nl)), (qi, .inl (cI, 24, .inl ni)), (qo, .inl (cI, 16, .inl nu))]) [0, 1, 2, 3, 4, 5] (by decide) rfl
  exact W.iret (v := 27011) hx hb hr (fun t ht hW => ⟨⟨27011, (), rfl, rfl, by rw [ht]; exact hP9, va_K.moved hW.alike hK, hD9⟩, hS.F ht⟩) hS.2.2 d_Rf_verify_17
theorem d_Rf_unblock_0 : decode b_Rf_unblock 0 = .ok (.aload_n 0, 1) := by decide +kernel
theorem d_Rf_unblock_1 : decode b_Rf_unblock 1 = .ok (.getfield 23, 3) := by decide +kernel
theorem d_Rf_unblock_4 : decode b_Rf_unblock 4 = .ok (.ifCond .eq 7, 3) := by decide +kernel
theorem d_Rf_unblock_7 : decode b_Rf_unblock 7 = .ok (.sipush 27010, 3) := by decide +kernel
theorem d_Rf_unblock_10 : decode b_Rf_unblock 10 = .ok (.ireturn, 1) := by decide +kernel
theorem d_Rf_unblock_11 : decode b_Rf_unblock 11 = .ok (.aload_n 0, 1) := by decide +kernel
theorem d_Rf_unblock_12 : decode b_Rf_unblock 12 = .ok (.invokevirtual 60, 3) := by decide +kernel
theorem d_Rf_unblock_15 : decode b_Rf_unblock 15 = .ok (.ifCond .ne 5, 3) := by decide +kernel
theorem d_Rf_unblock_18 : decode b_Rf_unblock 18 = .ok (.iconst (-1), 1) := by decide +kernel
theorem d_Rf_unblock_19 : decode b_Rf_unblock 19 = .ok (.ireturn, 1) := by decide +kernel
theorem d_Rf_unblock_20 : decode b_Rf_unblock 20 = .ok (.aload_n 0, 1) := by decide +kernel
theorem d_Rf_unblock_21 : decode b_Rf_unblock 21 = .ok (.getfield 16, 3) := by decide +kernel
theorem d_Rf_unblock_24 : decode b_Rf_unblock 24 = .ok (.iload_n 1, 1) := by decide +kernel
theorem d_Rf_unblock_25 : decode b_Rf_unblock 25 = .ok (.iconst 3, 1) := by decide +kernel
theorem d_Rf_unblock_26 : decode b_Rf_unblock 26 = .ok (.iastore, 1) := by decide +kernel
theorem d_Rf_unblock_27 : decode b_Rf_unblock 27 = .ok (.ldc 103, 2) := by decide +kernel
theorem d_Rf_unblock_29 : decode b_Rf_unblock 29 = .ok (.ireturn, 1) := by decide +kernel
def fRf_unblock (σ : StR) (a1 : Int32) : Option (Int32 × StR) := match σ with | (nm, nb, nl, nc, nd, nf, na, nz, no, ns, nv, np, ni, nn, nu, nt) => if ns = 0 then (bd17 (fRf_write (nm, nb, nl, nc, nd, nf, na, nz, no, ns, nv, np, ni, nn, nu, nt)) fun r2 nm2 nb2 nl2 nc2 nd2 nf2 na2 nz2 no2 ns2 nv2 np2 ni2 nn2 nu2 nt2 => if r2 = 0 then (some ((-1), nm2, nb2, nl2, nc2, nd2, nf2, na2, nz2, no2, ns2, nv2, np2, ni2, nn2, nu2, nt2)) else (ix a1 4 fun j4 => some (36864, nm2, nb2, upd nl2 j4 3, nc2, nd2, nf2, na2, nz2, no2, ns2, nv2, np2, ni2, nn2, nu2, nt2))) else (some (27010, nm, nb, nl, nc, nd, nf, na, nz, no, ns, nv, np, ni, nn, nu, nt))
set_option maxHeartbeats 4000000 in
set_option maxRecDepth 100000 in
theorem ctRf_unblock (l : Launch) (dC : Nat → ClassId) (dI : Nat → Nat → Nat) (cI : ClassId) (hq qm qf ql qi qo : Nat) (nm : Nat → Int32) (nb : Nat → Int32) (nl : Nat → Int32) (nc : Int32) (nd : Int32) (nf : Int32) (na : Int32) (nz : Int32) (no : Int32) (ns : Int32) (nv : Int32) (np : Int32) (ni : Nat → Int32) (nn : Int32) (nu : Nat → Int32) (nt : Int32) (a1 : Int32) (r : Int32) (nm' : Nat → Int32) (nb' : Nat → Int32) (nl' : Nat → Int32) (nc' : Int32) (nd' : Int32) (nf' : Int32) (na' : Int32) (nz' : Int32) (no' : Int32) (ns' : Int32) (nv' : Int32) (np' : Int32) (ni' : Nat → Int32) (nn' : Int32) (nu' : Nat → Int32) (nt' : Int32) (hf : fRf_unblock (nm, nb, nl, nc, nd, nf, na, nz, no, ns, nv, np, ni, nn, nu, nt) a1 = some (r, nm', nb', nl', nc', nd', nf', na', nz', no', ns', nv', np', ni', nn', nu', nt')) : CtI l y_Rf_unblock w_Rf_unblock ({ frames := 2, cells := 0, slots := 0, locals := 40 }) (dC, dI) [(cI, .int)] [.ref hq, .int a1] [(hq, .inr (3, [.ref qm, .ref qf, .ref ql, .int nc, .int nd, .int nf, .int na, .int nz, .int no, .int ns, .int nv, .int np, .ref qi, .int nn, .ref qo, .int nt])), (qm, .inl (cI, 104, .inl nm)), (qf, .inl (cI, 104, .inl nb)), (ql, .inl (cI, 4, .inl nl)), (qi, .inl (cI, 24, .inl ni)), (qo, .inl (cI, 16, .inl nu))] [(hq, .inr (3, [.ref qm, .ref qf, .ref ql, .int nc', .int nd', .int nf', .int na', .int nz', .int no', .int ns', .int nv', .int np', .ref qi, .int nn', .ref qo, .int nt'])), (qm, .inl (cI, 104, .inl nm')), (qf, .inl (cI, 104, .inl nb')), (ql, .inl (cI, 4, .inl nl')), (qi, .inl (cI, 24, .inl ni')), (qo, .inl (cI, 16, .inl nu'))] r := by
  intro sz
  refine Met.ofW (cc := b_Rf_unblock) (maxL := 2) (ret := some .int) (by decide) rfl ?_
  intro p e s m args below meth c s₁ B hml hv
  obtain ⟨rfl, hsz, hP, hK, hD0⟩ := hv
  have hx := B.exec
  have hb := B.bytes
  have hr := B.returns
  have hts := atoms_spec (ws := w_Rf_unblock) B.pre
  have hown : s.vm.findClass R_Rf = some m.cls := findClass_of_methodNamed B.named
  have hlocks := B.notSynchronized
  subst hsz
  have hD := hD0.self (sz := s.heap.size)
  generalize hAe : va_A [(hq, .inr (3, [.ref qm, .ref qf, .ref ql, .int nc, .int nd, .int nf, .int na, .int nz, .int no, .int ns, .int nv, .int np, .ref qi, .int nn, .ref qo, .int nt])), (qm, .inl (cI, 104, .inl nm)), (qf, .inl (cI, 104, .inl nb)), (ql, .inl (cI, 4, .inl nl)), (qi, .inl (cI, 24, .inl ni)), (qo, .inl (cI, 16, .inl nu))] s.heap.size = A at hD ⊢
  have hA : ∀ q : Nat, s.heap.size ≤ q → A q := fun q h => by rw [← hAe]; exact Or.inr h
  have hS : va_S A s.heap s.heap [] := va_S.rf
  have hP : va_P (dC, dI) vwCl [(hq, .inr (3, [.ref qm, .ref qf, .ref ql, .int nc, .int nd, .int nf, .int na, .int nz, .int no, .int ns, .int nv, .int np, .ref qi, .int nn, .ref qo, .int nt])), (qm, .inl (cI, 104, .inl nm)), (qf, .inl (cI, 104, .inl nb)), (ql, .inl (cI, 4, .inl nl)), (qi, .inl (cI, 24, .inl ni)), (qo, .inl (cI, 16, .inl nu))] s.heap := hP
  have hl := lv_entry ([.ref hq, .int a1]) (n := 2) (Nat.le_of_ble_eq_true rfl)
  rw [lg_entry_eq]
  generalize (lg_sl ([.ref hq, .int a1]) ++ List.replicate (2 - (lg_sl ([.ref hq, .int a1])).length) Slot.unset).toArray = ls at hl ⊢
  have hl : lv_has ls 2 [(0, .ref hq), (1, .int a1)] := hl
  have inRf : ∀ w ∈ u_ws R_Rf F_Rf 16, w ∈ w_Rf_unblock := fun w h => List.mem_cons_of_mem _ (in_Rf w h)
  have kc103 := hts _ (List.mem_cons_of_mem _ wq521)
  have kf16 := hts _ (List.mem_cons_of_mem _ wq408)
  have kf23 := hts _ (List.mem_cons_of_mem _ wq415)
  rw [fRf_unblock] at hf
  refine lv_aload_n hx hb d_Rf_unblock_0 rfl (lv_at hl 0 rfl) ?_
  refine va_get (D := (dC, dI)) (ci := 3) (v := .int ns) (C := R_Rf) (T := F_Rf) (N := 16) hx hb hts inRf hown hK hP 0 rfl rfl 9 (by decide) kf23 (fun _ h9 => h9) rfl d_Rf_unblock_1 ?_
  refine lv_if_eq (tgt := 11) hx hb d_Rf_unblock_4 rfl (fun hc1 => ?_) (fun hc1 => ?_)
  · have hf := ift hf hc1
    refine lv_aload_n hx hb d_Rf_unblock_11 rfl (lv_at hl 0 rfl) ?_
    obtain ⟨r2, nm2, nb2, nl2, nc2, nd2, nf2, na2, nz2, no2, ns2, nv2, np2, ni2, nn2, nu2, nt2, hg, hf⟩ := bd17_some hf
    refine xcz (wr := []) (ctRf_write l dC dI cI hq qm qf ql qi qo nm nb nl nc nd nf na nz no ns nv np ni nn nu nt r2 nm2 nb2 nl2 nc2 nd2 nf2 na2 nz2 no2 ns2 nv2 np2 ni2 nn2 nu2 nt2 hg) ⟨hx, hb, hml, hown, hts⟩ (cwV (C := R_Rf) 0 hts (gV wq475 wq477 wq25 wq46 wq478) rfl rfl rfl (by decide +kernel) ⟨Nat.le_of_ble_eq_true rfl, Nat.le_of_ble_eq_true rfl⟩) hK hP hD hS hA [0, 1, 2, 3, 4, 5] [] rfl rfl rfl rfl (by decide) (ci := 3) (q0 := 0) rfl rfl rfl rfl hl.1 rfl (Nat.le_of_ble_eq_true rfl) d_Rf_unblock_12 ⟨Nat.zero_le _, Nat.zero_le _⟩ (fun H locs hn2 hP hD hS => ?_)
    have hP : va_P (dC, dI) vwCl [(hq, .inr (3, [.ref qm, .ref qf, .ref ql, .int nc2, .int nd2, .int nf2, .int na2, .int nz2, .int no2, .int ns2, .int nv2, .int np2, .ref qi, .int nn2, .ref qo, .int nt2])), (qm, .inl (cI, 104, .inl nm2)), (qf, .inl (cI, 104, .inl nb2)), (ql, .inl (cI, 4, .inl nl2)), (qi, .inl (cI, 24, .inl ni2)), (qo, .inl (cI, 16, .inl nu2))] H := hP
    have hD : va_D A [(hq, .inr (3, [.ref qm, .ref qf, .ref ql, .int nc2, .int nd2, .int nf2, .int na2, .int nz2, .int no2, .int ns2, .int nv2, .int np2, .ref qi, .int nn2, .ref qo, .int nt2])), (qm, .inl (cI, 104, .inl nm2)), (qf, .inl (cI, 104, .inl nb2)), (ql, .inl (cI, 4, .inl nl2)), (qi, .inl (cI, 24, .inl ni2)), (qo, .inl (cI, 16, .inl nu2))] := hD
    refine lv_if_ne (tgt := 20) hx hb d_Rf_unblock_15 rfl (fun hc3 => ?_) (fun hc3 => ?_)
    · have hf := ifn hf hc3
      refine lv_aload_n hx hb d_Rf_unblock_20 rfl (lv_at hl 0 rfl) ?_
      refine va_get (D := (dC, dI)) (ci := 3) (v := .ref ql) (C := R_Rf) (T := F_Rf) (N := 16) hx hb hts inRf hown hK hP 0 rfl rfl 2 (by decide) kf16 (fun _ h9 => h9) rfl d_Rf_unblock_21 ?_
      refine lv_iload_n hx hb d_Rf_unblock_24 rfl (lv_at hl 1 rfl) ?_
      refine lv_iconst (v := 3) hx hb d_Rf_unblock_25 (by decide) ?_
      obtain ⟨hin_, hf⟩ := ix_some hf
      refine va_iast hx hb hK hP hD hS 3 0 rfl rfl hin_ d_Rf_unblock_26 (fun H locs hP hD hS => ?_)
      have hP : va_P (dC, dI) vwCl [(hq, .inr (3, [.ref qm, .ref qf, .ref ql, .int nc2, .int nd2, .int nf2, .int na2, .int nz2, .int no2, .int ns2, .int nv2, .int np2, .ref qi, .int nn2, .ref qo, .int nt2])), (qm, .inl (cI, 104, .inl nm2)), (qf, .inl (cI, 104, .inl nb2)), (ql, .inl (cI, 4, .inl (upd nl2 (a1 : Int32).toNatClampNeg 3))), (qi, .inl (cI, 24, .inl ni2)), (qo, .inl (cI, 16, .inl nu2))] H := hP
      have hD : va_D A [(hq, .inr (3, [.ref qm, .ref qf, .ref ql, .int nc2, .int nd2, .int nf2, .int na2, .int nz2, .int no2, .int ns2, .int nv2, .int np2, .ref qi, .int nn2, .ref qo, .int nt2])), (qm, .inl (cI, 104, .inl nm2)), (qf, .inl (cI, 104, .inl nb2)), (ql, .inl (cI, 4, .inl (upd nl2 (a1 : Int32).toNatClampNeg 3))), (qi, .inl (cI, 24, .inl ni2)), (qo, .inl (cI, 16, .inl nu2))] := hD
      refine lv_ldc (v := 36864) hx hb hown kc103 d_Rf_unblock_27 ?_
      obtain ⟨e1_, e2_, e3_, e4_, e5_, e6_, e7_, e8_, e9_, e10_, e11_, e12_, e13_, e14_, e15_, e16_, e17_⟩ := lf17 hf
      subst e1_; subst e2_; subst e3_; subst e4_; subst e5_; subst e6_; subst e7_; subst e8_; subst e9_; subst e10_; subst e11_; subst e12_; subst e13_; subst e14_; subst e15_; subst e16_; subst e17_
      have hP9 := hP.sub (ws' := [(hq, .inr (3, [.ref qm, .ref qf, .ref ql, .int nc2, .int nd2, .int nf2, .int na2, .int nz2, .int no2, .int ns2, .int nv2, .int np2, .ref qi, .int nn2, .ref qo, .int nt2])), (qm, .inl (cI, 104, .inl nm2)), (qf, .inl (cI, 104, .inl nb2)), (ql, .inl (cI, 4, .inl (upd nl2 (a1 : Int32).toNatClampNeg 3))), (qi, .inl (cI, 24, .inl ni2)), (qo, .inl (cI, 16, .inl nu2))]) [0, 1, 2, 3, 4, 5] rfl
      have hD9 := hD.sub (ws' := [(hq, .inr (3, [.ref qm, .ref qf, .ref ql, .int nc2, .int nd2, .int nf2, .int na2, .int nz2, .int no2, .int ns2, .int nv2, .int np2, .ref qi, .int nn2, .ref qo, .int nt2])), (qm, .inl (cI, 104, .inl nm2)), (qf, .inl (cI, 104, .inl nb2)), (ql, .inl (cI, 4, .inl (upd nl2 (a1 : Int32).toNatClampNeg 3))), (qi, .inl (cI, 24, .inl ni2)), (qo, .inl (cI, 16, .inl nu2))]) [0, 1, 2, 3, 4, 5] (by decide) rfl
      exact W.iret (v := 36864) hx hb hr (fun t ht hW => ⟨⟨36864, (), rfl, rfl, by rw [ht]; exact hP9, va_K.moved hW.alike hK, hD9⟩, hS.F ht⟩) hS.2.2 d_Rf_unblock_29
    have hf := ift hf hc3
    refine lv_iconst (v := (-1)) hx hb d_Rf_unblock_18 (by decide) ?_
    obtain ⟨e1_, e2_, e3_, e4_, e5_, e6_, e7_, e8_, e9_, e10_, e11_, e12_, e13_, e14_, e15_, e16_, e17_⟩ := lf17 hf
    subst e1_; subst e2_; subst e3_; subst e4_; subst e5_; subst e6_; subst e7_; subst e8_; subst e9_; subst e10_; subst e11_; subst e12_; subst e13_; subst e14_; subst e15_; subst e16_; subst e17_
    have hP9 := hP.sub (ws' := [(hq, .inr (3, [.ref qm, .ref qf, .ref ql, .int nc2, .int nd2, .int nf2, .int na2, .int nz2, .int no2, .int ns2, .int nv2, .int np2, .ref qi, .int nn2, .ref qo, .int nt2])), (qm, .inl (cI, 104, .inl nm2)), (qf, .inl (cI, 104, .inl nb2)), (ql, .inl (cI, 4, .inl nl2)), (qi, .inl (cI, 24, .inl ni2)), (qo, .inl (cI, 16, .inl nu2))]) [0, 1, 2, 3, 4, 5] rfl
    have hD9 := hD.sub (ws' := [(hq, .inr (3, [.ref qm, .ref qf, .ref ql, .int nc2, .int nd2, .int nf2, .int na2, .int nz2, .int no2, .int ns2, .int nv2, .int np2, .ref qi, .int nn2, .ref qo, .int nt2])), (qm, .inl (cI, 104, .inl nm2)), (qf, .inl (cI, 104, .inl nb2)), (ql, .inl (cI, 4, .inl nl2)), (qi, .inl (cI, 24, .inl ni2)), (qo, .inl (cI, 16, .inl nu2))]) [0, 1, 2, 3, 4, 5] (by decide) rfl
    exact W.iret (v := (-1)) hx hb hr (fun t ht hW => ⟨⟨(-1), (), rfl, rfl, by rw [ht]; exact hP9, va_K.moved hW.alike hK, hD9⟩, hS.F ht⟩) hS.2.2 d_Rf_unblock_19
  have hf := ifn hf hc1
  refine lv_sipush (v := 27010) hx hb d_Rf_unblock_7 (by decide) ?_
  obtain ⟨e1_, e2_, e3_, e4_, e5_, e6_, e7_, e8_, e9_, e10_, e11_, e12_, e13_, e14_, e15_, e16_, e17_⟩ := lf17 hf
  subst e1_; subst e2_; subst e3_; subst e4_; subst e5_; subst e6_; subst e7_; subst e8_; subst e9_; subst e10_; subst e11_; subst e12_; subst e13_; subst e14_; subst e15_; subst e16_; subst e17_
  have hP9 := hP.sub (ws' := [(hq, .inr (3, [.ref qm, .ref qf, .ref ql, .int nc, .int nd, .int nf, .int na, .int nz, .int no, .int ns, .int nv, .int np, .ref qi, .int nn, .ref qo, .int nt])), (qm, .inl (cI, 104, .inl nm)), (qf, .inl (cI, 104, .inl nb)), (ql, .inl (cI, 4, .inl nl)), (qi, .inl (cI, 24, .inl ni)), (qo, .inl (cI, 16, .inl nu))]) [0, 1, 2, 3, 4, 5] rfl
  have hD9 := hD.sub (ws' := [(hq, .inr (3, [.ref qm, .ref qf, .ref ql, .int nc, .int nd, .int nf, .int na, .int nz, .int no, .int ns, .int nv, .int np, .ref qi, .int nn, .ref qo, .int nt])), (qm, .inl (cI, 104, .inl nm)), (qf, .inl (cI, 104, .inl nb)), (ql, .inl (cI, 4, .inl nl)), (qi, .inl (cI, 24, .inl ni)), (qo, .inl (cI, 16, .inl nu))]) [0, 1, 2, 3, 4, 5] (by decide) rfl
  exact W.iret (v := 27010) hx hb hr (fun t ht hW => ⟨⟨27010, (), rfl, rfl, by rw [ht]; exact hP9, va_K.moved hW.alike hK, hD9⟩, hS.F ht⟩) hS.2.2 d_Rf_unblock_10
theorem d_Rf_begin_0 : decode b_Rf_begin 0 = .ok (.aload_n 0, 1) := by decide +kernel
theorem d_Rf_begin_1 : decode b_Rf_begin 1 = .ok (.getfield 36, 3) := by decide +kernel
theorem d_Rf_begin_4 : decode b_Rf_begin 4 = .ok (.ifCond .eq 7, 3) := by decide +kernel
theorem d_Rf_begin_7 : decode b_Rf_begin 7 = .ok (.sipush 27013, 3) := by decide +kernel
theorem d_Rf_begin_10 : decode b_Rf_begin 10 = .ok (.ireturn, 1) := by decide +kernel
theorem d_Rf_begin_11 : decode b_Rf_begin 11 = .ok (.aload_n 0, 1) := by decide +kernel
theorem d_Rf_begin_12 : decode b_Rf_begin 12 = .ok (.iconst 1, 1) := by decide +kernel
theorem d_Rf_begin_13 : decode b_Rf_begin 13 = .ok (.putfield 36, 3) := by decide +kernel
theorem d_Rf_begin_16 : decode b_Rf_begin 16 = .ok (.ldc 103, 2) := by decide +kernel
theorem d_Rf_begin_18 : decode b_Rf_begin 18 = .ok (.ireturn, 1) := by decide +kernel
def fRf_begin (σ : StR) : Option (Int32 × StR) := match σ with | (nm, nb, nl, nc, nd, nf, na, nz, no, ns, nv, np, ni, nn, nu, nt) => if np = 0 then (some (36864, nm, nb, nl, nc, nd, nf, na, nz, no, ns, nv, 1, ni, nn, nu, nt)) else (some (27013, nm, nb, nl, nc, nd, nf, na, nz, no, ns, nv, np, ni, nn, nu, nt))
set_option maxHeartbeats 4000000 in
set_option maxRecDepth 100000 in
theorem ctRf_begin (l : Launch) (dC : Nat → ClassId) (dI : Nat → Nat → Nat) (cI : ClassId) (hq qm qf ql qi qo : Nat) (nm : Nat → Int32) (nb : Nat → Int32) (nl : Nat → Int32) (nc : Int32) (nd : Int32) (nf : Int32) (na : Int32) (nz : Int32) (no : Int32) (ns : Int32) (nv : Int32) (np : Int32) (ni : Nat → Int32) (nn : Int32) (nu : Nat → Int32) (nt : Int32) (r : Int32) (nm' : Nat → Int32) (nb' : Nat → Int32) (nl' : Nat → Int32) (nc' : Int32) (nd' : Int32) (nf' : Int32) (na' : Int32) (nz' : Int32) (no' : Int32) (ns' : Int32) (nv' : Int32) (np' : Int32) (ni' : Nat → Int32) (nn' : Int32) (nu' : Nat → Int32) (nt' : Int32) (hf : fRf_begin (nm, nb, nl, nc, nd, nf, na, nz, no, ns, nv, np, ni, nn, nu, nt) = some (r, nm', nb', nl', nc', nd', nf', na', nz', no', ns', nv', np', ni', nn', nu', nt')) : CtI l y_Rf_begin w_Rf_begin ({ frames := 0, cells := 0, slots := 0, locals := 0 }) (dC, dI) [(cI, .int)] [.ref hq] [(hq, .inr (3, [.ref qm, .ref qf, .ref ql, .int nc, .int nd, .int nf, .int na, .int nz, .int no, .int ns, .int nv, .int np, .ref qi, .int nn, .ref qo, .int nt])), (qm, .inl (cI, 104, .inl nm)), (qf, .inl (cI, 104, .inl nb)), (ql, .inl (cI, 4, .inl nl)), (qi, .inl (cI, 24, .inl ni)), (qo, .inl (cI, 16, .inl nu))] [(hq, .inr (3, [.ref qm, .ref qf, .ref ql, .int nc', .int nd', .int nf', .int na', .int nz', .int no', .int ns', .int nv', .int np', .ref qi, .int nn', .ref qo, .int nt'])), (qm, .inl (cI, 104, .inl nm')), (qf, .inl (cI, 104, .inl nb')), (ql, .inl (cI, 4, .inl nl')), (qi, .inl (cI, 24, .inl ni')), (qo, .inl (cI, 16, .inl nu'))] r := by
  intro sz
  refine Met.ofW (cc := b_Rf_begin) (maxL := 1) (ret := some .int) (by decide) rfl ?_
  intro p e s m args below meth c s₁ B hml hv
  obtain ⟨rfl, hsz, hP, hK, hD0⟩ := hv
  have hx := B.exec
  have hb := B.bytes
  have hr := B.returns
  have hts := atoms_spec (ws := w_Rf_begin) B.pre
  have hown : s.vm.findClass R_Rf = some m.cls := findClass_of_methodNamed B.named
  have hlocks := B.notSynchronized
  subst hsz
  have hD := hD0.self (sz := s.heap.size)
  generalize hAe : va_A [(hq, .inr (3, [.ref qm, .ref qf, .ref ql, .int nc, .int nd, .int nf, .int na, .int nz, .int no, .int ns, .int nv, .int np, .ref qi, .int nn, .ref qo, .int nt])), (qm, .inl (cI, 104, .inl nm)), (qf, .inl (cI, 104, .inl nb)), (ql, .inl (cI, 4, .inl nl)), (qi, .inl (cI, 24, .inl ni)), (qo, .inl (cI, 16, .inl nu))] s.heap.size = A at hD ⊢
  have hA : ∀ q : Nat, s.heap.size ≤ q → A q := fun q h => by rw [← hAe]; exact Or.inr h
  have hS : va_S A s.heap s.heap [] := va_S.rf
  have hP : va_P (dC, dI) vwCl [(hq, .inr (3, [.ref qm, .ref qf, .ref ql, .int nc, .int nd, .int nf, .int na, .int nz, .int no, .int ns, .int nv, .int np, .ref qi, .int nn, .ref qo, .int nt])), (qm, .inl (cI, 104, .inl nm)), (qf, .inl (cI, 104, .inl nb)), (ql, .inl (cI, 4, .inl nl)), (qi, .inl (cI, 24, .inl ni)), (qo, .inl (cI, 16, .inl nu))] s.heap := hP
  have hl := lv_entry ([.ref hq]) (n := 1) (Nat.le_of_ble_eq_true rfl)
  rw [lg_entry_eq]
  generalize (lg_sl ([.ref hq]) ++ List.replicate (1 - (lg_sl ([.ref hq])).length) Slot.unset).toArray = ls at hl ⊢
  have hl : lv_has ls 1 [(0, .ref hq)] := hl
  have inRf : ∀ w ∈ u_ws R_Rf F_Rf 16, w ∈ w_Rf_begin := fun w h => List.mem_cons_of_mem _ (in_Rf w h)
  have kc103 := hts _ (List.mem_cons_of_mem _ wq521)
  have kf36 := hts _ (List.mem_cons_of_mem _ wq417)
  rw [fRf_begin] at hf
  refine lv_aload_n hx hb d_Rf_begin_0 rfl (lv_at hl 0 rfl) ?_
  refine va_get (D := (dC, dI)) (ci := 3) (v := .int np) (C := R_Rf) (T := F_Rf) (N := 16) hx hb hts inRf hown hK hP 0 rfl rfl 11 (by decide) kf36 (fun _ h9 => h9) rfl d_Rf_begin_1 ?_
  refine lv_if_eq (tgt := 11) hx hb d_Rf_begin_4 rfl (fun hc1 => ?_) (fun hc1 => ?_)
  · have hf := ift hf hc1
    refine lv_aload_n hx hb d_Rf_begin_11 rfl (lv_at hl 0 rfl) ?_
    refine lv_iconst (v := 1) hx hb d_Rf_begin_12 (by decide) ?_
    refine va_put (D := (dC, dI)) (ci := 3) (v := .int 1) (ty := .boolean) (C := R_Rf) (T := F_Rf) (N := 16) hx hb hts inRf t_Rf t_Rf_ok n_Rf hown hK hP hD hS 0 rfl rfl 11 (by decide) kf36 (fun _ h9 => h9) rfl (by decide +kernel) rfl rfl (Nat.le_of_ble_eq_true rfl) d_Rf_begin_13 (fun H locs hP hD hS => ?_)
    have hP : va_P (dC, dI) vwCl [(hq, .inr (3, [.ref qm, .ref qf, .ref ql, .int nc, .int nd, .int nf, .int na, .int nz, .int no, .int ns, .int nv, .int 1, .ref qi, .int nn, .ref qo, .int nt])), (qm, .inl (cI, 104, .inl nm)), (qf, .inl (cI, 104, .inl nb)), (ql, .inl (cI, 4, .inl nl)), (qi, .inl (cI, 24, .inl ni)), (qo, .inl (cI, 16, .inl nu))] H := hP
    have hD : va_D A [(hq, .inr (3, [.ref qm, .ref qf, .ref ql, .int nc, .int nd, .int nf, .int na, .int nz, .int no, .int ns, .int nv, .int 1, .ref qi, .int nn, .ref qo, .int nt])), (qm, .inl (cI, 104, .inl nm)), (qf, .inl (cI, 104, .inl nb)), (ql, .inl (cI, 4, .inl nl)), (qi, .inl (cI, 24, .inl ni)), (qo, .inl (cI, 16, .inl nu))] := hD
    refine lv_ldc (v := 36864) hx hb hown kc103 d_Rf_begin_16 ?_
    obtain ⟨e1_, e2_, e3_, e4_, e5_, e6_, e7_, e8_, e9_, e10_, e11_, e12_, e13_, e14_, e15_, e16_, e17_⟩ := lf17 hf
    subst e1_; subst e2_; subst e3_; subst e4_; subst e5_; subst e6_; subst e7_; subst e8_; subst e9_; subst e10_; subst e11_; subst e12_; subst e13_; subst e14_; subst e15_; subst e16_; subst e17_
    have hP9 := hP.sub (ws' := [(hq, .inr (3, [.ref qm, .ref qf, .ref ql, .int nc, .int nd, .int nf, .int na, .int nz, .int no, .int ns, .int nv, .int 1, .ref qi, .int nn, .ref qo, .int nt])), (qm, .inl (cI, 104, .inl nm)), (qf, .inl (cI, 104, .inl nb)), (ql, .inl (cI, 4, .inl nl)), (qi, .inl (cI, 24, .inl ni)), (qo, .inl (cI, 16, .inl nu))]) [0, 1, 2, 3, 4, 5] rfl
    have hD9 := hD.sub (ws' := [(hq, .inr (3, [.ref qm, .ref qf, .ref ql, .int nc, .int nd, .int nf, .int na, .int nz, .int no, .int ns, .int nv, .int 1, .ref qi, .int nn, .ref qo, .int nt])), (qm, .inl (cI, 104, .inl nm)), (qf, .inl (cI, 104, .inl nb)), (ql, .inl (cI, 4, .inl nl)), (qi, .inl (cI, 24, .inl ni)), (qo, .inl (cI, 16, .inl nu))]) [0, 1, 2, 3, 4, 5] (by decide) rfl
    exact W.iret (v := 36864) hx hb hr (fun t ht hW => ⟨⟨36864, (), rfl, rfl, by rw [ht]; exact hP9, va_K.moved hW.alike hK, hD9⟩, hS.F ht⟩) hS.2.2 d_Rf_begin_18
  have hf := ifn hf hc1
  refine lv_sipush (v := 27013) hx hb d_Rf_begin_7 (by decide) ?_
  obtain ⟨e1_, e2_, e3_, e4_, e5_, e6_, e7_, e8_, e9_, e10_, e11_, e12_, e13_, e14_, e15_, e16_, e17_⟩ := lf17 hf
  subst e1_; subst e2_; subst e3_; subst e4_; subst e5_; subst e6_; subst e7_; subst e8_; subst e9_; subst e10_; subst e11_; subst e12_; subst e13_; subst e14_; subst e15_; subst e16_; subst e17_
  have hP9 := hP.sub (ws' := [(hq, .inr (3, [.ref qm, .ref qf, .ref ql, .int nc, .int nd, .int nf, .int na, .int nz, .int no, .int ns, .int nv, .int np, .ref qi, .int nn, .ref qo, .int nt])), (qm, .inl (cI, 104, .inl nm)), (qf, .inl (cI, 104, .inl nb)), (ql, .inl (cI, 4, .inl nl)), (qi, .inl (cI, 24, .inl ni)), (qo, .inl (cI, 16, .inl nu))]) [0, 1, 2, 3, 4, 5] rfl
  have hD9 := hD.sub (ws' := [(hq, .inr (3, [.ref qm, .ref qf, .ref ql, .int nc, .int nd, .int nf, .int na, .int nz, .int no, .int ns, .int nv, .int np, .ref qi, .int nn, .ref qo, .int nt])), (qm, .inl (cI, 104, .inl nm)), (qf, .inl (cI, 104, .inl nb)), (ql, .inl (cI, 4, .inl nl)), (qi, .inl (cI, 24, .inl ni)), (qo, .inl (cI, 16, .inl nu))]) [0, 1, 2, 3, 4, 5] (by decide) rfl
  exact W.iret (v := 27013) hx hb hr (fun t ht hW => ⟨⟨27013, (), rfl, rfl, by rw [ht]; exact hP9, va_K.moved hW.alike hK, hD9⟩, hS.F ht⟩) hS.2.2 d_Rf_begin_10
theorem d_Rf_end_0 : decode b_Rf_end 0 = .ok (.aload_n 0, 1) := by decide +kernel
theorem d_Rf_end_1 : decode b_Rf_end 1 = .ok (.getfield 36, 3) := by decide +kernel
theorem d_Rf_end_4 : decode b_Rf_end 4 = .ok (.ifCond .ne 7, 3) := by decide +kernel
theorem d_Rf_end_7 : decode b_Rf_end 7 = .ok (.sipush 27013, 3) := by decide +kernel
theorem d_Rf_end_10 : decode b_Rf_end 10 = .ok (.ireturn, 1) := by decide +kernel
theorem d_Rf_end_11 : decode b_Rf_end 11 = .ok (.iload_n 1, 1) := by decide +kernel
theorem d_Rf_end_12 : decode b_Rf_end 12 = .ok (.ifCond .ne 10, 3) := by decide +kernel
theorem d_Rf_end_15 : decode b_Rf_end 15 = .ok (.aload_n 0, 1) := by decide +kernel
theorem d_Rf_end_16 : decode b_Rf_end 16 = .ok (.invokevirtual 136, 3) := by decide +kernel
theorem d_Rf_end_19 : decode b_Rf_end 19 = .ok (.goto 7, 3) := by decide +kernel
theorem d_Rf_end_22 : decode b_Rf_end 22 = .ok (.aload_n 0, 1) := by decide +kernel
theorem d_Rf_end_23 : decode b_Rf_end 23 = .ok (.invokevirtual 71, 3) := by decide +kernel
theorem d_Rf_end_26 : decode b_Rf_end 26 = .ok (.istore_n 2, 1) := by decide +kernel
theorem d_Rf_end_27 : decode b_Rf_end 27 = .ok (.aload_n 0, 1) := by decide +kernel
theorem d_Rf_end_28 : decode b_Rf_end 28 = .ok (.iconst 0, 1) := by decide +kernel
theorem d_Rf_end_29 : decode b_Rf_end 29 = .ok (.putfield 36, 3) := by decide +kernel
theorem d_Rf_end_32 : decode b_Rf_end 32 = .ok (.iload_n 2, 1) := by decide +kernel
theorem d_Rf_end_33 : decode b_Rf_end 33 = .ok (.ifCond .eq 8, 3) := by decide +kernel
theorem d_Rf_end_36 : decode b_Rf_end 36 = .ok (.ldc 103, 2) := by decide +kernel
theorem d_Rf_end_38 : decode b_Rf_end 38 = .ok (.goto 4, 3) := by decide +kernel
theorem d_Rf_end_41 : decode b_Rf_end 41 = .ok (.iconst (-1), 1) := by decide +kernel
theorem d_Rf_end_42 : decode b_Rf_end 42 = .ok (.ireturn, 1) := by decide +kernel
def fRf_end (σ : StR) (a1 : Int32) : Option (Int32 × StR) := match σ with | (nm, nb, nl, nc, nd, nf, na, nz, no, ns, nv, np, ni, nn, nu, nt) => if np = 0 then (some (27013, nm, nb, nl, nc, nd, nf, na, nz, no, ns, nv, np, ni, nn, nu, nt)) else (if a1 = 0 then (bd17 (fRf_settle (nm, nb, nl, nc, nd, nf, na, nz, no, ns, nv, np, ni, nn, nu, nt)) fun r5 nm5 nb5 nl5 nc5 nd5 nf5 na5 nz5 no5 ns5 nv5 np5 ni5 nn5 nu5 nt5 => if r5 = 0 then (some ((-1), nm5, nb5, nl5, nc5, nd5, nf5, na5, nz5, no5, ns5, nv5, 0, ni5, nn5, nu5, nt5)) else (some (36864, nm5, nb5, nl5, nc5, nd5, nf5, na5, nz5, no5, ns5, nv5, 0, ni5, nn5, nu5, nt5))) else (bd17 (fRf_undo (nm, nb, nl, nc, nd, nf, na, nz, no, ns, nv, np, ni, nn, nu, nt)) fun r3 nm3 nb3 nl3 nc3 nd3 nf3 na3 nz3 no3 ns3 nv3 np3 ni3 nn3 nu3 nt3 => if r3 = 0 then (some ((-1), nm3, nb3, nl3, nc3, nd3, nf3, na3, nz3, no3, ns3, nv3, 0, ni3, nn3, nu3, nt3)) else (some (36864, nm3, nb3, nl3, nc3, nd3, nf3, na3, nz3, no3, ns3, nv3, 0, ni3, nn3, nu3, nt3))))
set_option maxHeartbeats 4000000 in
set_option maxRecDepth 100000 in
theorem ctRf_end (l : Launch) (dC : Nat → ClassId) (dI : Nat → Nat → Nat) (cI : ClassId) (hq qm qf ql qi qo : Nat) (nm : Nat → Int32) (nb : Nat → Int32) (nl : Nat → Int32) (nc : Int32) (nd : Int32) (nf : Int32) (na : Int32) (nz : Int32) (no : Int32) (ns : Int32) (nv : Int32) (np : Int32) (ni : Nat → Int32) (nn : Int32) (nu : Nat → Int32) (nt : Int32) (a1 : Int32) (r : Int32) (nm' : Nat → Int32) (nb' : Nat → Int32) (nl' : Nat → Int32) (nc' : Int32) (nd' : Int32) (nf' : Int32) (na' : Int32) (nz' : Int32) (no' : Int32) (ns' : Int32) (nv' : Int32) (np' : Int32) (ni' : Nat → Int32) (nn' : Int32) (nu' : Nat → Int32) (nt' : Int32) (hf : fRf_end (nm, nb, nl, nc, nd, nf, na, nz, no, ns, nv, np, ni, nn, nu, nt) a1 = some (r, nm', nb', nl', nc', nd', nf', na', nz', no', ns', nv', np', ni', nn', nu', nt')) : CtI l y_Rf_end w_Rf_end ({ frames := 4, cells := 0, slots := 0, locals := 83 }) (dC, dI) [(cI, .int)] [.ref hq, .int a1] [(hq, .inr (3, [.ref qm, .ref qf, .ref ql, .int nc, .int nd, .int nf, .int na, .int nz, .int no, .int ns, .int nv, .int np, .ref qi, .int nn, .ref qo, .int nt])), (qm, .inl (cI, 104, .inl nm)), (qf, .inl (cI, 104, .inl nb)), (ql, .inl (cI, 4, .inl nl)), (qi, .inl (cI, 24, .inl ni)), (qo, .inl (cI, 16, .inl nu))] [(hq, .inr (3, [.ref qm, .ref qf, .ref ql, .int nc', .int nd', .int nf', .int na', .int nz', .int no', .int ns', .int nv', .int np', .ref qi, .int nn', .ref qo, .int nt'])), (qm, .inl (cI, 104, .inl nm')), (qf, .inl (cI, 104, .inl nb')), (ql, .inl (cI, 4, .inl nl')), (qi, .inl (cI, 24, .inl ni')), (qo, .inl (cI, 16, .inl nu'))] r := by
  intro sz
  refine Met.ofW (cc := b_Rf_end) (maxL := 3) (ret := some .int) (by decide) rfl ?_
  intro p e s m args below meth c s₁ B hml hv
  obtain ⟨rfl, hsz, hP, hK, hD0⟩ := hv
  have hx := B.exec
  have hb := B.bytes
  have hr := B.returns
  have hts := atoms_spec (ws := w_Rf_end) B.pre
  have hown : s.vm.findClass R_Rf = some m.cls := findClass_of_methodNamed B.named
  have hlocks := B.notSynchronized
  subst hsz
  have hD := hD0.self (sz := s.heap.size)
  generalize hAe : va_A [(hq, .inr (3, [.ref qm, .ref qf, .ref ql, .int nc, .int nd, .int nf, .int na, .int nz, .int no, .int ns, .int nv, .int np, .ref qi, .int nn, .ref qo, .int nt])), (qm, .inl (cI, 104, .inl nm)), (qf, .inl (cI, 104, .inl nb)), (ql, .inl (cI, 4, .inl nl)), (qi, .inl (cI, 24, .inl ni)), (qo, .inl (cI, 16, .inl nu))] s.heap.size = A at hD ⊢
  have hA : ∀ q : Nat, s.heap.size ≤ q → A q := fun q h => by rw [← hAe]; exact Or.inr h
  have hS : va_S A s.heap s.heap [] := va_S.rf
  have hP : va_P (dC, dI) vwCl [(hq, .inr (3, [.ref qm, .ref qf, .ref ql, .int nc, .int nd, .int nf, .int na, .int nz, .int no, .int ns, .int nv, .int np, .ref qi, .int nn, .ref qo, .int nt])), (qm, .inl (cI, 104, .inl nm)), (qf, .inl (cI, 104, .inl nb)), (ql, .inl (cI, 4, .inl nl)), (qi, .inl (cI, 24, .inl ni)), (qo, .inl (cI, 16, .inl nu))] s.heap := hP
  have hl := lv_entry ([.ref hq, .int a1]) (n := 3) (Nat.le_of_ble_eq_true rfl)
  rw [lg_entry_eq]
  generalize (lg_sl ([.ref hq, .int a1]) ++ List.replicate (3 - (lg_sl ([.ref hq, .int a1])).length) Slot.unset).toArray = ls at hl ⊢
  have hl : lv_has ls 3 [(0, .ref hq), (1, .int a1)] := hl
  have inRf : ∀ w ∈ u_ws R_Rf F_Rf 16, w ∈ w_Rf_end := fun w h => List.mem_cons_of_mem _ (in_Rf w h)
  have kc103 := hts _ (List.mem_cons_of_mem _ wq521)
  have kf36 := hts _ (List.mem_cons_of_mem _ wq417)
  rw [fRf_end] at hf
  refine lv_aload_n hx hb d_Rf_end_0 rfl (lv_at hl 0 rfl) ?_
  refine va_get (D := (dC, dI)) (ci := 3) (v := .int np) (C := R_Rf) (T := F_Rf) (N := 16) hx hb hts inRf hown hK hP 0 rfl rfl 11 (by decide) kf36 (fun _ h9 => h9) rfl d_Rf_end_1 ?_
  refine lv_if_ne (tgt := 11) hx hb d_Rf_end_4 rfl (fun hc1 => ?_) (fun hc1 => ?_)
  · have hf := ifn hf hc1
    refine lv_iload_n hx hb d_Rf_end_11 rfl (lv_at hl 1 rfl) ?_
    refine lv_if_ne (tgt := 22) hx hb d_Rf_end_12 rfl (fun hc2 => ?_) (fun hc2 => ?_)
    · have hf := ifn hf hc2
      refine lv_aload_n hx hb d_Rf_end_22 rfl (lv_at hl 0 rfl) ?_
      obtain ⟨r3, nm3, nb3, nl3, nc3, nd3, nf3, na3, nz3, no3, ns3, nv3, np3, ni3, nn3, nu3, nt3, hg, hf⟩ := bd17_some hf
      refine xcz (wr := []) (ctRf_undo l dC dI cI hq qm qf ql qi qo nm nb nl nc nd nf na nz no ns nv np ni nn nu nt r3 nm3 nb3 nl3 nc3 nd3 nf3 na3 nz3 no3 ns3 nv3 np3 ni3 nn3 nu3 nt3 hg) ⟨hx, hb, hml, hown, hts⟩ (cwV (C := R_Rf) 0 hts (gV wq467 wq469 wq23 wq46 wq470) rfl rfl rfl (by decide +kernel) ⟨Nat.le_of_ble_eq_true rfl, Nat.le_of_ble_eq_true rfl⟩) hK hP hD hS hA [0, 1, 2, 3, 4, 5] [] rfl rfl rfl rfl (by decide) (ci := 3) (q0 := 0) rfl rfl rfl rfl hl.1 rfl (Nat.le_of_ble_eq_true rfl) d_Rf_end_23 ⟨Nat.zero_le _, Nat.zero_le _⟩ (fun H locs hn3 hP hD hS => ?_)
      have hP : va_P (dC, dI) vwCl [(hq, .inr (3, [.ref qm, .ref qf, .ref ql, .int nc3, .int nd3, .int nf3, .int na3, .int nz3, .int no3, .int ns3, .int nv3, .int np3, .ref qi, .int nn3, .ref qo, .int nt3])), (qm, .inl (cI, 104, .inl nm3)), (qf, .inl (cI, 104, .inl nb3)), (ql, .inl (cI, 4, .inl nl3)), (qi, .inl (cI, 24, .inl ni3)), (qo, .inl (cI, 16, .inl nu3))] H := hP
      have hD : va_D A [(hq, .inr (3, [.ref qm, .ref qf, .ref ql, .int nc3, .int nd3, .int nf3, .int na3, .int nz3, .int no3, .int ns3, .int nv3, .int np3, .ref qi, .int nn3, .ref qo, .int nt3])), (qm, .inl (cI, 104, .inl nm3)), (qf, .inl (cI, 104, .inl nb3)), (ql, .inl (cI, 4, .inl nl3)), (qi, .inl (cI, 24, .inl ni3)), (qo, .inl (cI, 16, .inl nu3))] := hD
      refine lv_istore_n hx hb d_Rf_end_26 rfl hl (by decide) rfl (fun ls hl => ?_)
      have hl : lv_has ls 3 [(2, .int r3), (0, .ref hq), (1, .int a1)] := hl
      refine lv_aload_n hx hb d_Rf_end_27 rfl (lv_at hl 1 rfl) ?_
      refine lv_iconst (v := 0) hx hb d_Rf_end_28 (by decide) ?_
      refine va_put (D := (dC, dI)) (ci := 3) (v := .int 0) (ty := .boolean) (C := R_Rf) (T := F_Rf) (N := 16) hx hb hts inRf t_Rf t_Rf_ok n_Rf hown hK hP hD hS 0 rfl rfl 11 (by decide) kf36 (fun _ h9 => h9) rfl (by decide +kernel) rfl rfl (Nat.le_of_ble_eq_true rfl) d_Rf_end_29 (fun H locs hP hD hS => ?_)
      have hP : va_P (dC, dI) vwCl [(hq, .inr (3, [.ref qm, .ref qf, .ref ql, .int nc3, .int nd3, .int nf3, .int na3, .int nz3, .int no3, .int ns3, .int nv3, .int 0, .ref qi, .int nn3, .ref qo, .int nt3])), (qm, .inl (cI, 104, .inl nm3)), (qf, .inl (cI, 104, .inl nb3)), (ql, .inl (cI, 4, .inl nl3)), (qi, .inl (cI, 24, .inl ni3)), (qo, .inl (cI, 16, .inl nu3))] H := hP
      have hD : va_D A [(hq, .inr (3, [.ref qm, .ref qf, .ref ql, .int nc3, .int nd3, .int nf3, .int na3, .int nz3, .int no3, .int ns3, .int nv3, .int 0, .ref qi, .int nn3, .ref qo, .int nt3])), (qm, .inl (cI, 104, .inl nm3)), (qf, .inl (cI, 104, .inl nb3)), (ql, .inl (cI, 4, .inl nl3)), (qi, .inl (cI, 24, .inl ni3)), (qo, .inl (cI, 16, .inl nu3))] := hD
      refine lv_iload_n hx hb d_Rf_end_32 rfl (lv_at hl 0 rfl) ?_
      refine lv_if_eq (tgt := 41) hx hb d_Rf_end_33 rfl (fun hc4 => ?_) (fun hc4 => ?_)
      · have hf := ift hf hc4
        refine lv_iconst (v := (-1)) hx hb d_Rf_end_41 (by decide) ?_
        obtain ⟨e1_, e2_, e3_, e4_, e5_, e6_, e7_, e8_, e9_, e10_, e11_, e12_, e13_, e14_, e15_, e16_, e17_⟩ := lf17 hf
        subst e1_; subst e2_; subst e3_; subst e4_; subst e5_; subst e6_; subst e7_; subst e8_; subst e9_; subst e10_; subst e11_; subst e12_; subst e13_; subst e14_; subst e15_; subst e16_; subst e17_
        have hP9 := hP.sub (ws' := [(hq, .inr (3, [.ref qm, .ref qf, .ref ql, .int nc3, .int nd3, .int nf3, .int na3, .int nz3, .int no3, .int ns3, .int nv3, .int 0, .ref qi, .int nn3, .ref qo, .int nt3])), (qm, .inl (cI, 104, .inl nm3)), (qf, .inl (cI, 104, .inl nb3)), (ql, .inl (cI, 4, .inl nl3)), (qi, .inl (cI, 24, .inl ni3)), (qo, .inl (cI, 16, .inl nu3))]) [0, 1, 2, 3, 4, 5] rfl
        have hD9 := hD.sub (ws' := [(hq, .inr (3, [.ref qm, .ref qf, .ref ql, .int nc3, .int nd3, .int nf3, .int na3, .int nz3, .int no3, .int ns3, .int nv3, .int 0, .ref qi, .int nn3, .ref qo, .int nt3])), (qm, .inl (cI, 104, .inl nm3)), (qf, .inl (cI, 104, .inl nb3)), (ql, .inl (cI, 4, .inl nl3)), (qi, .inl (cI, 24, .inl ni3)), (qo, .inl (cI, 16, .inl nu3))]) [0, 1, 2, 3, 4, 5] (by decide) rfl
        exact W.iret (v := (-1)) hx hb hr (fun t ht hW => ⟨⟨(-1), (), rfl, rfl, by rw [ht]; exact hP9, va_K.moved hW.alike hK, hD9⟩, hS.F ht⟩) hS.2.2 d_Rf_end_42
      have hf := ifn hf hc4
      refine lv_ldc (v := 36864) hx hb hown kc103 d_Rf_end_36 ?_
      refine lv_goto (tgt := 42) hx hb d_Rf_end_38 rfl ?_
      obtain ⟨e1_, e2_, e3_, e4_, e5_, e6_, e7_, e8_, e9_, e10_, e11_, e12_, e13_, e14_, e15_, e16_, e17_⟩ := lf17 hf
      subst e1_; subst e2_; subst e3_; subst e4_; subst e5_; subst e6_; subst e7_; subst e8_; subst e9_; subst e10_; subst e11_; subst e12_; subst e13_; subst e14_; subst e15_; subst e16_; subst e17_
      have hP9 := hP.sub (ws' := [(hq, .inr (3, [.ref qm, .ref qf, .ref ql, .int nc3, .int nd3, .int nf3, .int na3, .int nz3, .int no3, .int ns3, .int nv3, .int 0, .ref qi, .int nn3, .ref qo, .int nt3])), (qm, .inl (cI, 104, .inl nm3)), (qf, .inl (cI, 104, .inl nb3)), (ql, .inl (cI, 4, .inl nl3)), (qi, .inl (cI, 24, .inl ni3)), (qo, .inl (cI, 16, .inl nu3))]) [0, 1, 2, 3, 4, 5] rfl
      have hD9 := hD.sub (ws' := [(hq, .inr (3, [.ref qm, .ref qf, .ref ql, .int nc3, .int nd3, .int nf3, .int na3, .int nz3, .int no3, .int ns3, .int nv3, .int 0, .ref qi, .int nn3, .ref qo, .int nt3])), (qm, .inl (cI, 104, .inl nm3)), (qf, .inl (cI, 104, .inl nb3)), (ql, .inl (cI, 4, .inl nl3)), (qi, .inl (cI, 24, .inl ni3)), (qo, .inl (cI, 16, .inl nu3))]) [0, 1, 2, 3, 4, 5] (by decide) rfl
      exact W.iret (v := 36864) hx hb hr (fun t ht hW => ⟨⟨36864, (), rfl, rfl, by rw [ht]; exact hP9, va_K.moved hW.alike hK, hD9⟩, hS.F ht⟩) hS.2.2 d_Rf_end_42
    have hf := ift hf hc2
    refine lv_aload_n hx hb d_Rf_end_15 rfl (lv_at hl 0 rfl) ?_
    obtain ⟨r5, nm5, nb5, nl5, nc5, nd5, nf5, na5, nz5, no5, ns5, nv5, np5, ni5, nn5, nu5, nt5, hg, hf⟩ := bd17_some hf
    refine xcz (wr := []) (ctRf_settle l dC dI cI hq qm qf ql qi qo nm nb nl nc nd nf na nz no ns nv np ni nn nu nt r5 nm5 nb5 nl5 nc5 nd5 nf5 na5 nz5 no5 ns5 nv5 np5 ni5 nn5 nu5 nt5 hg) ⟨hx, hb, hml, hown, hts⟩ (cwV (C := R_Rf) 0 hts (gV wq534 wq536 wq35 wq46 wq537) rfl rfl rfl (by decide +kernel) ⟨Nat.le_of_ble_eq_true rfl, Nat.le_of_ble_eq_true rfl⟩) hK hP hD hS hA [0, 1, 2, 3, 4, 5] [] rfl rfl rfl rfl (by decide) (ci := 3) (q0 := 0) rfl rfl rfl rfl hl.1 rfl (Nat.le_of_ble_eq_true rfl) d_Rf_end_16 ⟨Nat.zero_le _, Nat.zero_le _⟩ (fun H locs hn5 hP hD hS => ?_)
    have hP : va_P (dC, dI) vwCl [(hq, .inr (3, [.ref qm, .ref qf, .ref ql, .int nc5, .int nd5, .int nf5, .int na5, .int nz5, .int no5, .int ns5, .int nv5, .int np5, .ref qi, .int nn5, .ref qo, .int nt5])), (qm, .inl (cI, 104, .inl nm5)), (qf, .inl (cI, 104, .inl nb5)), (ql, .inl (cI, 4, .inl nl5)), (qi, .inl (cI, 24, .inl ni5)), (qo, .inl (cI, 16, .inl nu5))] H := hP
    have hD : va_D A [(hq, .inr (3, [.ref qm, .ref qf, .ref ql, .int nc5, .int nd5, .int nf5, .int na5, .int nz5, .int no5, .int ns5, .int nv5, .int np5, .ref qi, .int nn5, .ref qo, .int nt5])), (qm, .inl (cI, 104, .inl nm5)), (qf, .inl (cI, 104, .inl nb5)), (ql, .inl (cI, 4, .inl nl5)), (qi, .inl (cI, 24, .inl ni5)), (qo, .inl (cI, 16, .inl nu5))] := hD
    refine lv_goto (tgt := 26) hx hb d_Rf_end_19 rfl ?_
    refine lv_istore_n hx hb d_Rf_end_26 rfl hl (by decide) rfl (fun ls hl => ?_)
    have hl : lv_has ls 3 [(2, .int r5), (0, .ref hq), (1, .int a1)] := hl
    refine lv_aload_n hx hb d_Rf_end_27 rfl (lv_at hl 1 rfl) ?_
    refine lv_iconst (v := 0) hx hb d_Rf_end_28 (by decide) ?_
    refine va_put (D := (dC, dI)) (ci := 3) (v := .int 0) (ty := .boolean) (C := R_Rf) (T := F_Rf) (N := 16) hx hb hts inRf t_Rf t_Rf_ok n_Rf hown hK hP hD hS 0 rfl rfl 11 (by decide) kf36 (fun _ h9 => h9) rfl (by decide +kernel) rfl rfl (Nat.le_of_ble_eq_true rfl) d_Rf_end_29 (fun H locs hP hD hS => ?_)
    have hP : va_P (dC, dI) vwCl [(hq, .inr (3, [.ref qm, .ref qf, .ref ql, .int nc5, .int nd5, .int nf5, .int na5, .int nz5, .int no5, .int ns5, .int nv5, .int 0, .ref qi, .int nn5, .ref qo, .int nt5])), (qm, .inl (cI, 104, .inl nm5)), (qf, .inl (cI, 104, .inl nb5)), (ql, .inl (cI, 4, .inl nl5)), (qi, .inl (cI, 24, .inl ni5)), (qo, .inl (cI, 16, .inl nu5))] H := hP
    have hD : va_D A [(hq, .inr (3, [.ref qm, .ref qf, .ref ql, .int nc5, .int nd5, .int nf5, .int na5, .int nz5, .int no5, .int ns5, .int nv5, .int 0, .ref qi, .int nn5, .ref qo, .int nt5])), (qm, .inl (cI, 104, .inl nm5)), (qf, .inl (cI, 104, .inl nb5)), (ql, .inl (cI, 4, .inl nl5)), (qi, .inl (cI, 24, .inl ni5)), (qo, .inl (cI, 16, .inl nu5))] := hD
    refine lv_iload_n hx hb d_Rf_end_32 rfl (lv_at hl 0 rfl) ?_
    refine lv_if_eq (tgt := 41) hx hb d_Rf_end_33 rfl (fun hc6 => ?_) (fun hc6 => ?_)
    · have hf := ift hf hc6
      refine lv_iconst (v := (-1)) hx hb d_Rf_end_41 (by decide) ?_
      obtain ⟨e1_, e2_, e3_, e4_, e5_, e6_, e7_, e8_, e9_, e10_, e11_, e12_, e13_, e14_, e15_, e16_, e17_⟩ := lf17 hf
      subst e1_; subst e2_; subst e3_; subst e4_; subst e5_; subst e6_; subst e7_; subst e8_; subst e9_; subst e10_; subst e11_; subst e12_; subst e13_; subst e14_; subst e15_; subst e16_; subst e17_
      have hP9 := hP.sub (ws' := [(hq, .inr (3, [.ref qm, .ref qf, .ref ql, .int nc5, .int nd5, .int nf5, .int na5, .int nz5, .int no5, .int ns5, .int nv5, .int 0, .ref qi, .int nn5, .ref qo, .int nt5])), (qm, .inl (cI, 104, .inl nm5)), (qf, .inl (cI, 104, .inl nb5)), (ql, .inl (cI, 4, .inl nl5)), (qi, .inl (cI, 24, .inl ni5)), (qo, .inl (cI, 16, .inl nu5))]) [0, 1, 2, 3, 4, 5] rfl
      have hD9 := hD.sub (ws' := [(hq, .inr (3, [.ref qm, .ref qf, .ref ql, .int nc5, .int nd5, .int nf5, .int na5, .int nz5, .int no5, .int ns5, .int nv5, .int 0, .ref qi, .int nn5, .ref qo, .int nt5])), (qm, .inl (cI, 104, .inl nm5)), (qf, .inl (cI, 104, .inl nb5)), (ql, .inl (cI, 4, .inl nl5)), (qi, .inl (cI, 24, .inl ni5)), (qo, .inl (cI, 16, .inl nu5))]) [0, 1, 2, 3, 4, 5] (by decide) rfl
      exact W.iret (v := (-1)) hx hb hr (fun t ht hW => ⟨⟨(-1), (), rfl, rfl, by rw [ht]; exact hP9, va_K.moved hW.alike hK, hD9⟩, hS.F ht⟩) hS.2.2 d_Rf_end_42
    have hf := ifn hf hc6
    refine lv_ldc (v := 36864) hx hb hown kc103 d_Rf_end_36 ?_
    refine lv_goto (tgt := 42) hx hb d_Rf_end_38 rfl ?_
    obtain ⟨e1_, e2_, e3_, e4_, e5_, e6_, e7_, e8_, e9_, e10_, e11_, e12_, e13_, e14_, e15_, e16_, e17_⟩ := lf17 hf
    subst e1_; subst e2_; subst e3_; subst e4_; subst e5_; subst e6_; subst e7_; subst e8_; subst e9_; subst e10_; subst e11_; subst e12_; subst e13_; subst e14_; subst e15_; subst e16_; subst e17_
    have hP9 := hP.sub (ws' := [(hq, .inr (3, [.ref qm, .ref qf, .ref ql, .int nc5, .int nd5, .int nf5, .int na5, .int nz5, .int no5, .int ns5, .int nv5, .int 0, .ref qi, .int nn5, .ref qo, .int nt5])), (qm, .inl (cI, 104, .inl nm5)), (qf, .inl (cI, 104, .inl nb5)), (ql, .inl (cI, 4, .inl nl5)), (qi, .inl (cI, 24, .inl ni5)), (qo, .inl (cI, 16, .inl nu5))]) [0, 1, 2, 3, 4, 5] rfl
    have hD9 := hD.sub (ws' := [(hq, .inr (3, [.ref qm, .ref qf, .ref ql, .int nc5, .int nd5, .int nf5, .int na5, .int nz5, .int no5, .int ns5, .int nv5, .int 0, .ref qi, .int nn5, .ref qo, .int nt5])), (qm, .inl (cI, 104, .inl nm5)), (qf, .inl (cI, 104, .inl nb5)), (ql, .inl (cI, 4, .inl nl5)), (qi, .inl (cI, 24, .inl ni5)), (qo, .inl (cI, 16, .inl nu5))]) [0, 1, 2, 3, 4, 5] (by decide) rfl
    exact W.iret (v := 36864) hx hb hr (fun t ht hW => ⟨⟨36864, (), rfl, rfl, by rw [ht]; exact hP9, va_K.moved hW.alike hK, hD9⟩, hS.F ht⟩) hS.2.2 d_Rf_end_42
  have hf := ift hf hc1
  refine lv_sipush (v := 27013) hx hb d_Rf_end_7 (by decide) ?_
  obtain ⟨e1_, e2_, e3_, e4_, e5_, e6_, e7_, e8_, e9_, e10_, e11_, e12_, e13_, e14_, e15_, e16_, e17_⟩ := lf17 hf
  subst e1_; subst e2_; subst e3_; subst e4_; subst e5_; subst e6_; subst e7_; subst e8_; subst e9_; subst e10_; subst e11_; subst e12_; subst e13_; subst e14_; subst e15_; subst e16_; subst e17_
  have hP9 := hP.sub (ws' := [(hq, .inr (3, [.ref qm, .ref qf, .ref ql, .int nc, .int nd, .int nf, .int na, .int nz, .int no, .int ns, .int nv, .int np, .ref qi, .int nn, .ref qo, .int nt])), (qm, .inl (cI, 104, .inl nm)), (qf, .inl (cI, 104, .inl nb)), (ql, .inl (cI, 4, .inl nl)), (qi, .inl (cI, 24, .inl ni)), (qo, .inl (cI, 16, .inl nu))]) [0, 1, 2, 3, 4, 5] rfl
  have hD9 := hD.sub (ws' := [(hq, .inr (3, [.ref qm, .ref qf, .ref ql, .int nc, .int nd, .int nf, .int na, .int nz, .int no, .int ns, .int nv, .int np, .ref qi, .int nn, .ref qo, .int nt])), (qm, .inl (cI, 104, .inl nm)), (qf, .inl (cI, 104, .inl nb)), (ql, .inl (cI, 4, .inl nl)), (qi, .inl (cI, 24, .inl ni)), (qo, .inl (cI, 16, .inl nu))]) [0, 1, 2, 3, 4, 5] (by decide) rfl
  exact W.iret (v := 27013) hx hb hr (fun t ht hW => ⟨⟨27013, (), rfl, rfl, by rw [ht]; exact hP9, va_K.moved hW.alike hK, hD9⟩, hS.F ht⟩) hS.2.2 d_Rf_end_10
theorem d_Rf_read_0 : decode b_Rf_read 0 = .ok (.aload_n 0, 1) := by decide +kernel
theorem d_Rf_read_1 : decode b_Rf_read 1 = .ok (.getfield 27, 3) := by decide +kernel
theorem d_Rf_read_4 : decode b_Rf_read 4 = .ok (.iconst 4, 1) := by decide +kernel
theorem d_Rf_read_5 : decode b_Rf_read 5 = .ok (.iaload, 1) := by decide +kernel
theorem d_Rf_read_6 : decode b_Rf_read 6 = .ok (.ifCond .ne 9, 3) := by decide +kernel
theorem d_Rf_read_9 : decode b_Rf_read 9 = .ok (.sipush 256, 3) := by decide +kernel
theorem d_Rf_read_12 : decode b_Rf_read 12 = .ok (.goto 9, 3) := by decide +kernel
theorem d_Rf_read_15 : decode b_Rf_read 15 = .ok (.aload_n 0, 1) := by decide +kernel
theorem d_Rf_read_16 : decode b_Rf_read 16 = .ok (.getfield 27, 3) := by decide +kernel
theorem d_Rf_read_19 : decode b_Rf_read 19 = .ok (.iconst 4, 1) := by decide +kernel
theorem d_Rf_read_20 : decode b_Rf_read 20 = .ok (.iaload, 1) := by decide +kernel
theorem d_Rf_read_21 : decode b_Rf_read 21 = .ok (.istore 4, 2) := by decide +kernel
theorem d_Rf_read_23 : decode b_Rf_read 23 = .ok (.iload_n 2, 1) := by decide +kernel
theorem d_Rf_read_24 : decode b_Rf_read 24 = .ok (.iload 4, 2) := by decide +kernel
theorem d_Rf_read_26 : decode b_Rf_read 26 = .ok (.iadd, 1) := by decide +kernel
theorem d_Rf_read_27 : decode b_Rf_read 27 = .ok (.iload_n 3, 1) := by decide +kernel
theorem d_Rf_read_28 : decode b_Rf_read 28 = .ok (.if_icmp .le 7, 3) := by decide +kernel
theorem d_Rf_read_31 : decode b_Rf_read 31 = .ok (.sipush 27392, 3) := by decide +kernel
theorem d_Rf_read_34 : decode b_Rf_read 34 = .ok (.ireturn, 1) := by decide +kernel
theorem d_Rf_read_35 : decode b_Rf_read 35 = .ok (.iconst 0, 1) := by decide +kernel
theorem d_Rf_read_36 : decode b_Rf_read 36 = .ok (.istore 5, 2) := by decide +kernel
theorem d_Rf_read_38 : decode b_Rf_read 38 = .ok (.iload 5, 2) := by decide +kernel
theorem d_Rf_read_40 : decode b_Rf_read 40 = .ok (.iload 4, 2) := by decide +kernel
theorem d_Rf_read_42 : decode b_Rf_read 42 = .ok (.if_icmp .ge 27, 3) := by decide +kernel
theorem d_Rf_read_45 : decode b_Rf_read 45 = .ok (.aload_n 0, 1) := by decide +kernel
theorem d_Rf_read_46 : decode b_Rf_read 46 = .ok (.getfield 30, 3) := by decide +kernel
theorem d_Rf_read_49 : decode b_Rf_read 49 = .ok (.iload 5, 2) := by decide +kernel
theorem d_Rf_read_51 : decode b_Rf_read 51 = .ok (.aload_n 0, 1) := by decide +kernel
theorem d_Rf_read_52 : decode b_Rf_read 52 = .ok (.getfield 7, 3) := by decide +kernel
theorem d_Rf_read_55 : decode b_Rf_read 55 = .ok (.iload_n 1, 1) := by decide +kernel
theorem d_Rf_read_56 : decode b_Rf_read 56 = .ok (.iload_n 2, 1) := by decide +kernel
theorem d_Rf_read_57 : decode b_Rf_read 57 = .ok (.iadd, 1) := by decide +kernel
theorem d_Rf_read_58 : decode b_Rf_read 58 = .ok (.iload 5, 2) := by decide +kernel
theorem d_Rf_read_60 : decode b_Rf_read 60 = .ok (.iadd, 1) := by decide +kernel
theorem d_Rf_read_61 : decode b_Rf_read 61 = .ok (.iaload, 1) := by decide +kernel
theorem d_Rf_read_62 : decode b_Rf_read 62 = .ok (.iastore, 1) := by decide +kernel
theorem d_Rf_read_63 : decode b_Rf_read 63 = .ok (.iinc 5 1, 3) := by decide +kernel
theorem d_Rf_read_66 : decode b_Rf_read 66 = .ok (.goto (-28), 3) := by decide +kernel
theorem d_Rf_read_69 : decode b_Rf_read 69 = .ok (.aload_n 0, 1) := by decide +kernel
theorem d_Rf_read_70 : decode b_Rf_read 70 = .ok (.iload 4, 2) := by decide +kernel
theorem d_Rf_read_72 : decode b_Rf_read 72 = .ok (.putfield 42, 3) := by decide +kernel
theorem d_Rf_read_75 : decode b_Rf_read 75 = .ok (.ldc 103, 2) := by decide +kernel
theorem d_Rf_read_77 : decode b_Rf_read 77 = .ok (.ireturn, 1) := by decide +kernel
def fRf_read_L38 : Nat → StR → Int32 → Int32 → Int32 → Int32 → Int32 → Option (Int32 × StR)
  | 0, _, _, _, _, _, _ => none
  | n + 1, (nm, nb, nl, nc, nd, nf, na, nz, no, ns, nv, np, ni, nn, nu, nt), v1, v2, v3, v4, v5 => if v4 ≤ v5 then (some (36864, nm, nb, nl, nc, nd, nf, na, nz, no, ns, nv, np, ni, nn, nu, v4)) else (ix ((v1 + v2) + v5) 104 fun j6 => ix v5 16 fun j7 => fRf_read_L38 n (nm, nb, nl, nc, nd, nf, na, nz, no, ns, nv, np, ni, nn, upd nu j7 (nm j6), nt) v1 v2 v3 v4 (v5 + 1))
def fRf_read (σ : StR) (a1 : Int32) (a2 : Int32) (a3 : Int32) : Option (Int32 × StR) := match σ with | (nm, nb, nl, nc, nd, nf, na, nz, no, ns, nv, np, ni, nn, nu, nt) => ix 4 24 fun j1 => if (ni j1) = 0 then (if (a2 + 256) ≤ a3 then (fRf_read_L38 300 (nm, nb, nl, nc, nd, nf, na, nz, no, ns, nv, np, ni, nn, nu, nt) a1 a2 a3 256 0) else (some (27392, nm, nb, nl, nc, nd, nf, na, nz, no, ns, nv, np, ni, nn, nu, nt))) else (ix 4 24 fun j3 => if (a2 + (ni j3)) ≤ a3 then (fRf_read_L38 300 (nm, nb, nl, nc, nd, nf, na, nz, no, ns, nv, np, ni, nn, nu, nt) a1 a2 a3 (ni j3) 0) else (some (27392, nm, nb, nl, nc, nd, nf, na, nz, no, ns, nv, np, ni, nn, nu, nt)))
set_option maxHeartbeats 4000000 in
set_option maxRecDepth 100000 in
theorem ctRf_read (l : Launch) (dC : Nat → ClassId) (dI : Nat → Nat → Nat) (cI : ClassId) (hq qm qf ql qi qo : Nat) (nm : Nat → Int32) (nb : Nat → Int32) (nl : Nat → Int32) (nc : Int32) (nd : Int32) (nf : Int32) (na : Int32) (nz : Int32) (no : Int32) (ns : Int32) (nv : Int32) (np : Int32) (ni : Nat → Int32) (nn : Int32) (nu : Nat → Int32) (nt : Int32) (a1 : Int32) (a2 : Int32) (a3 : Int32) (r : Int32) (nm' : Nat → Int32) (nb' : Nat → Int32) (nl' : Nat → Int32) (nc' : Int32) (nd' : Int32) (nf' : Int32) (na' : Int32) (nz' : Int32) (no' : Int32) (ns' : Int32) (nv' : Int32) (np' : Int32) (ni' : Nat → Int32) (nn' : Int32) (nu' : Nat → Int32) (nt' : Int32) (hf : fRf_read (nm, nb, nl, nc, nd, nf, na, nz, no, ns, nv, np, ni, nn, nu, nt) a1 a2 a3 = some (r, nm', nb', nl', nc', nd', nf', na', nz', no', ns', nv', np', ni', nn', nu', nt')) : CtI l y_Rf_read w_Rf_read ({ frames := 0, cells := 0, slots := 0, locals := 0 }) (dC, dI) [(cI, .int)] [.ref hq, .int a1, .int a2, .int a3] [(hq, .inr (3, [.ref qm, .ref qf, .ref ql, .int nc, .int nd, .int nf, .int na, .int nz, .int no, .int ns, .int nv, .int np, .ref qi, .int nn, .ref qo, .int nt])), (qm, .inl (cI, 104, .inl nm)), (qf, .inl (cI, 104, .inl nb)), (ql, .inl (cI, 4, .inl nl)), (qi, .inl (cI, 24, .inl ni)), (qo, .inl (cI, 16, .inl nu))] [(hq, .inr (3, [.ref qm, .ref qf, .ref ql, .int nc', .int nd', .int nf', .int na', .int nz', .int no', .int ns', .int nv', .int np', .ref qi, .int nn', .ref qo, .int nt'])), (qm, .inl (cI, 104, .inl nm')), (qf, .inl (cI, 104, .inl nb')), (ql, .inl (cI, 4, .inl nl')), (qi, .inl (cI, 24, .inl ni')), (qo, .inl (cI, 16, .inl nu'))] r := by
  intro sz
  refine Met.ofW (cc := b_Rf_read) (maxL := 6) (ret := some .int) (by decide) rfl ?_
  intro p e s m args below meth c s₁ B hml hv
  obtain ⟨rfl, hsz, hP, hK, hD0⟩ := hv
  have hx := B.exec
  have hb := B.bytes
  have hr := B.returns
  have hts := atoms_spec (ws := w_Rf_read) B.pre
  have hown : s.vm.findClass R_Rf = some m.cls := findClass_of_methodNamed B.named
  have hlocks := B.notSynchronized
  subst hsz
  have hD := hD0.self (sz := s.heap.size)
  generalize hAe : va_A [(hq, .inr (3, [.ref qm, .ref qf, .ref ql, .int nc, .int nd, .int nf, .int na, .int nz, .int no, .int ns, .int nv, .int np, .ref qi, .int nn, .ref qo, .int nt])), (qm, .inl (cI, 104, .inl nm)), (qf, .inl (cI, 104, .inl nb)), (ql, .inl (cI, 4, .inl nl)), (qi, .inl (cI, 24, .inl ni)), (qo, .inl (cI, 16, .inl nu))] s.heap.size = A at hD ⊢
  have hA : ∀ q : Nat, s.heap.size ≤ q → A q := fun q h => by rw [← hAe]; exact Or.inr h
  have hS : va_S A s.heap s.heap [] := va_S.rf
  have hP : va_P (dC, dI) vwCl [(hq, .inr (3, [.ref qm, .ref qf, .ref ql, .int nc, .int nd, .int nf, .int na, .int nz, .int no, .int ns, .int nv, .int np, .ref qi, .int nn, .ref qo, .int nt])), (qm, .inl (cI, 104, .inl nm)), (qf, .inl (cI, 104, .inl nb)), (ql, .inl (cI, 4, .inl nl)), (qi, .inl (cI, 24, .inl ni)), (qo, .inl (cI, 16, .inl nu))] s.heap := hP
  have hl := lv_entry ([.ref hq, .int a1, .int a2, .int a3]) (n := 6) (Nat.le_of_ble_eq_true rfl)
  rw [lg_entry_eq]
  generalize (lg_sl ([.ref hq, .int a1, .int a2, .int a3]) ++ List.replicate (6 - (lg_sl ([.ref hq, .int a1, .int a2, .int a3])).length) Slot.unset).toArray = ls at hl ⊢
  have hl : lv_has ls 6 [(0, .ref hq), (1, .int a1), (2, .int a2), (3, .int a3)] := hl
  have inRf : ∀ w ∈ u_ws R_Rf F_Rf 16, w ∈ w_Rf_read := fun w h => List.mem_cons_of_mem _ (in_Rf w h)
  have kc103 := hts _ (List.mem_cons_of_mem _ wq521)
  have kf27 := hts _ (List.mem_cons_of_mem _ wq418)
  have kf30 := hts _ (List.mem_cons_of_mem _ wq420)
  have kf42 := hts _ (List.mem_cons_of_mem _ wq421)
  have kf7 := hts _ (List.mem_cons_of_mem _ wq406)
  rw [fRf_read] at hf
  refine lv_aload_n hx hb d_Rf_read_0 rfl (lv_at hl 0 rfl) ?_
  refine va_get (D := (dC, dI)) (ci := 3) (v := .ref qi) (C := R_Rf) (T := F_Rf) (N := 16) hx hb hts inRf hown hK hP 0 rfl rfl 12 (by decide) kf27 (fun _ h9 => h9) rfl d_Rf_read_1 ?_
  refine lv_iconst (v := 4) hx hb d_Rf_read_4 (by decide) ?_
  obtain ⟨hin_, hf⟩ := ix_some hf
  refine va_iald hx hb hK hP 4 0 rfl rfl hin_ d_Rf_read_5 ?_
  refine lv_if_ne (tgt := 15) hx hb d_Rf_read_6 rfl (fun hc2 => ?_) (fun hc2 => ?_)
  · have hf := ifn hf hc2
    refine lv_aload_n hx hb d_Rf_read_15 rfl (lv_at hl 0 rfl) ?_
    refine va_get (D := (dC, dI)) (ci := 3) (v := .ref qi) (C := R_Rf) (T := F_Rf) (N := 16) hx hb hts inRf hown hK hP 0 rfl rfl 12 (by decide) kf27 (fun _ h9 => h9) rfl d_Rf_read_16 ?_
    refine lv_iconst (v := 4) hx hb d_Rf_read_19 (by decide) ?_
    obtain ⟨hin_, hf⟩ := ix_some hf
    refine va_iald hx hb hK hP 4 0 rfl rfl hin_ d_Rf_read_20 ?_
    refine lv_istore hx hb d_Rf_read_21 hl (by decide) rfl (fun ls hl => ?_)
    have hl : lv_has ls 6 [(4, .int (ni (4 : Int32).toNatClampNeg)), (0, .ref hq), (1, .int a1), (2, .int a2), (3, .int a3)] := hl
    refine lv_iload_n hx hb d_Rf_read_23 rfl (lv_at hl 3 rfl) ?_
    refine lv_iload hx hb d_Rf_read_24 (lv_at hl 0 rfl) ?_
    refine lv_iadd hx hb d_Rf_read_26 ?_
    refine lv_iload_n hx hb d_Rf_read_27 rfl (lv_at hl 4 rfl) ?_
    refine lv_icmp_le (tgt := 35) hx hb d_Rf_read_28 rfl (fun hc4 => ?_) (fun hc4 => ?_)
    · have hf := ift hf hc4
      refine lv_iconst (v := 0) hx hb d_Rf_read_35 (by decide) ?_
      refine lv_istore hx hb d_Rf_read_36 hl (by decide) rfl (fun ls hl => ?_)
      have hl : lv_has ls 6 [(5, .int 0), (4, .int (ni (4 : Int32).toNatClampNeg)), (0, .ref hq), (1, .int a1), (2, .int a2), (3, .int a3)] := hl
      have hl := lv_sub (l' := [(0, .ref hq), (1, .int a1), (2, .int a2), (3, .int a3), (4, .int (ni (4 : Int32).toNatClampNeg)), (5, .int 0)]) hl [2, 3, 4, 5, 1, 0] rfl
      refine xloop (σ := (Nat → Int32) × (Nat → Int32) × (Nat → Int32) × (Int32) × (Int32) × (Int32) × (Int32) × (Int32) × (Int32) × (Int32) × (Int32) × (Int32) × (Nat → Int32) × (Int32) × (Nat → Int32) × (Int32) × (Int32) × (Int32) × (Int32) × (Int32) × (Int32)) (pc := 38) (fun n x H locs ls => va_P (dC, dI) vwCl [(hq, .inr (3, [.ref qm, .ref qf, .ref ql, .int (x.2.2.2.1), .int (x.2.2.2.2.1), .int (x.2.2.2.2.2.1), .int (x.2.2.2.2.2.2.1), .int (x.2.2.2.2.2.2.2.1), .int (x.2.2.2.2.2.2.2.2.1), .int (x.2.2.2.2.2.2.2.2.2.1), .int (x.2.2.2.2.2.2.2.2.2.2.1), .int (x.2.2.2.2.2.2.2.2.2.2.2.1), .ref qi, .int (x.2.2.2.2.2.2.2.2.2.2.2.2.2.1), .ref qo, .int (x.2.2.2.2.2.2.2.2.2.2.2.2.2.2.2.1)])), (qm, .inl (cI, 104, .inl (x.1))), (qf, .inl (cI, 104, .inl (x.2.1))), (ql, .inl (cI, 4, .inl (x.2.2.1))), (qi, .inl (cI, 24, .inl (x.2.2.2.2.2.2.2.2.2.2.2.2.1))), (qo, .inl (cI, 16, .inl (x.2.2.2.2.2.2.2.2.2.2.2.2.2.2.1)))] H ∧ va_D A [(hq, .inr (3, [.ref qm, .ref qf, .ref ql, .int (x.2.2.2.1), .int (x.2.2.2.2.1), .int (x.2.2.2.2.2.1), .int (x.2.2.2.2.2.2.1), .int (x.2.2.2.2.2.2.2.1), .int (x.2.2.2.2.2.2.2.2.1), .int (x.2.2.2.2.2.2.2.2.2.1), .int (x.2.2.2.2.2.2.2.2.2.2.1), .int (x.2.2.2.2.2.2.2.2.2.2.2.1), .ref qi, .int (x.2.2.2.2.2.2.2.2.2.2.2.2.2.1), .ref qo, .int (x.2.2.2.2.2.2.2.2.2.2.2.2.2.2.2.1)])), (qm, .inl (cI, 104, .inl (x.1))), (qf, .inl (cI, 104, .inl (x.2.1))), (ql, .inl (cI, 4, .inl (x.2.2.1))), (qi, .inl (cI, 24, .inl (x.2.2.2.2.2.2.2.2.2.2.2.2.1))), (qo, .inl (cI, 16, .inl (x.2.2.2.2.2.2.2.2.2.2.2.2.2.2.1)))] ∧ va_S A s.heap H locs ∧ lv_has ls 6 [(0, .ref hq), (1, .int (x.2.2.2.2.2.2.2.2.2.2.2.2.2.2.2.2.1)), (2, .int (x.2.2.2.2.2.2.2.2.2.2.2.2.2.2.2.2.2.1)), (3, .int (x.2.2.2.2.2.2.2.2.2.2.2.2.2.2.2.2.2.2.1)), (4, .int (x.2.2.2.2.2.2.2.2.2.2.2.2.2.2.2.2.2.2.2.1)), (5, .int (x.2.2.2.2.2.2.2.2.2.2.2.2.2.2.2.2.2.2.2.2))] ∧ fRf_read_L38 n (x.1, x.2.1, x.2.2.1, x.2.2.2.1, x.2.2.2.2.1, x.2.2.2.2.2.1, x.2.2.2.2.2.2.1, x.2.2.2.2.2.2.2.1, x.2.2.2.2.2.2.2.2.1, x.2.2.2.2.2.2.2.2.2.1, x.2.2.2.2.2.2.2.2.2.2.1, x.2.2.2.2.2.2.2.2.2.2.2.1, x.2.2.2.2.2.2.2.2.2.2.2.2.1, x.2.2.2.2.2.2.2.2.2.2.2.2.2.1, x.2.2.2.2.2.2.2.2.2.2.2.2.2.2.1, x.2.2.2.2.2.2.2.2.2.2.2.2.2.2.2.1) x.2.2.2.2.2.2.2.2.2.2.2.2.2.2.2.2.1 x.2.2.2.2.2.2.2.2.2.2.2.2.2.2.2.2.2.1 x.2.2.2.2.2.2.2.2.2.2.2.2.2.2.2.2.2.2.1 x.2.2.2.2.2.2.2.2.2.2.2.2.2.2.2.2.2.2.2.1 x.2.2.2.2.2.2.2.2.2.2.2.2.2.2.2.2.2.2.2.2 = some (r, nm', nb', nl', nc', nd', nf', na', nz', no', ns', nv', np', ni', nn', nu', nt')) ?_ (fun x H locs ls h => by have h9 := h.2.2.2.2; rw [fRf_read_L38] at h9; cases h9) 300 (nm, nb, nl, nc, nd, nf, na, nz, no, ns, nv, np, ni, nn, nu, nt, a1, a2, a3, ni (4 : Int32).toNatClampNeg, 0) _ _ ls ⟨hP, hD, hS, hl, hf⟩
      intro n ih x H locs ls hI
      obtain ⟨nm, nb, nl, nc, nd, nf, na, nz, no, ns, nv, np, ni, nn, nu, nt, v1, v2, v3, v4, v5⟩ := x
      obtain ⟨hP, hD, hS, hl, hf⟩ := hI
      have hP : va_P (dC, dI) vwCl [(hq, .inr (3, [.ref qm, .ref qf, .ref ql, .int nc, .int nd, .int nf, .int na, .int nz, .int no, .int ns, .int nv, .int np, .ref qi, .int nn, .ref qo, .int nt])), (qm, .inl (cI, 104, .inl nm)), (qf, .inl (cI, 104, .inl nb)), (ql, .inl (cI, 4, .inl nl)), (qi, .inl (cI, 24, .inl ni)), (qo, .inl (cI, 16, .inl nu))] H := hP
      have hD : va_D A [(hq, .inr (3, [.ref qm, .ref qf, .ref ql, .int nc, .int nd, .int nf, .int na, .int nz, .int no, .int ns, .int nv, .int np, .ref qi, .int nn, .ref qo, .int nt])), (qm, .inl (cI, 104, .inl nm)), (qf, .inl (cI, 104, .inl nb)), (ql, .inl (cI, 4, .inl nl)), (qi, .inl (cI, 24, .inl ni)), (qo, .inl (cI, 16, .inl nu))] := hD
      have hl : lv_has ls 6 [(0, .ref hq), (1, .int v1), (2, .int v2), (3, .int v3), (4, .int v4), (5, .int v5)] := hl
      rw [fRf_read_L38] at hf
      refine lv_iload hx hb d_Rf_read_38 (lv_at hl 5 rfl) ?_
      refine lv_iload hx hb d_Rf_read_40 (lv_at hl 4 rfl) ?_
      refine lv_icmp_ge (tgt := 69) hx hb d_Rf_read_42 rfl (fun hc5 => ?_) (fun hc5 => ?_)
      · have hf := ift hf hc5
        refine lv_aload_n hx hb d_Rf_read_69 rfl (lv_at hl 0 rfl) ?_
        refine lv_iload hx hb d_Rf_read_70 (lv_at hl 4 rfl) ?_
        refine va_put (D := (dC, dI)) (ci := 3) (v := .int v4) (ty := .int) (C := R_Rf) (T := F_Rf) (N := 16) hx hb hts inRf t_Rf t_Rf_ok n_Rf hown hK hP hD hS 0 rfl rfl 15 (by decide) kf42 (fun _ h9 => h9) rfl (by decide +kernel) rfl rfl (Nat.le_of_ble_eq_true rfl) d_Rf_read_72 (fun H locs hP hD hS => ?_)
        have hP : va_P (dC, dI) vwCl [(hq, .inr (3, [.ref qm, .ref qf, .ref ql, .int nc, .int nd, .int nf, .int na, .int nz, .int no, .int ns, .int nv, .int np, .ref qi, .int nn, .ref qo, .int v4])), (qm, .inl (cI, 104, .inl nm)), (qf, .inl (cI, 104, .inl nb)), (ql, .inl (cI, 4, .inl nl)), (qi, .inl (cI, 24, .inl ni)), (qo, .inl (cI, 16, .inl nu))] H := hP
        have hD : va_D A [(hq, .inr (3, [.ref qm, .ref qf, .ref ql, .int nc, .int nd, .int nf, .int na, .int nz, .int no, .int ns, .int nv, .int np, .ref qi, .int nn, .ref qo, .int v4])), (qm, .inl (cI, 104, .inl nm)), (qf, .inl (cI, 104, .inl nb)), (ql, .inl (cI, 4, .inl nl)), (qi, .inl (cI, 24, .inl ni)), (qo, .inl (cI, 16, .inl nu))] := hD
        refine lv_ldc (v := 36864) hx hb hown kc103 d_Rf_read_75 ?_
        obtain ⟨e1_, e2_, e3_, e4_, e5_, e6_, e7_, e8_, e9_, e10_, e11_, e12_, e13_, e14_, e15_, e16_, e17_⟩ := lf17 hf
        subst e1_; subst e2_; subst e3_; subst e4_; subst e5_; subst e6_; subst e7_; subst e8_; subst e9_; subst e10_; subst e11_; subst e12_; subst e13_; subst e14_; subst e15_; subst e16_; subst e17_
        have hP9 := hP.sub (ws' := [(hq, .inr (3, [.ref qm, .ref qf, .ref ql, .int nc, .int nd, .int nf, .int na, .int nz, .int no, .int ns, .int nv, .int np, .ref qi, .int nn, .ref qo, .int v4])), (qm, .inl (cI, 104, .inl nm)), (qf, .inl (cI, 104, .inl nb)), (ql, .inl (cI, 4, .inl nl)), (qi, .inl (cI, 24, .inl ni)), (qo, .inl (cI, 16, .inl nu))]) [0, 1, 2, 3, 4, 5] rfl
        have hD9 := hD.sub (ws' := [(hq, .inr (3, [.ref qm, .ref qf, .ref ql, .int nc, .int nd, .int nf, .int na, .int nz, .int no, .int ns, .int nv, .int np, .ref qi, .int nn, .ref qo, .int v4])), (qm, .inl (cI, 104, .inl nm)), (qf, .inl (cI, 104, .inl nb)), (ql, .inl (cI, 4, .inl nl)), (qi, .inl (cI, 24, .inl ni)), (qo, .inl (cI, 16, .inl nu))]) [0, 1, 2, 3, 4, 5] (by decide) rfl
        exact W.iret (v := 36864) hx hb hr (fun t ht hW => ⟨⟨36864, (), rfl, rfl, by rw [ht]; exact hP9, va_K.moved hW.alike hK, hD9⟩, hS.F ht⟩) hS.2.2 d_Rf_read_77
      have hf := ifn hf hc5
      refine lv_aload_n hx hb d_Rf_read_45 rfl (lv_at hl 0 rfl) ?_
      refine va_get (D := (dC, dI)) (ci := 3) (v := .ref qo) (C := R_Rf) (T := F_Rf) (N := 16) hx hb hts inRf hown hK hP 0 rfl rfl 14 (by decide) kf30 (fun _ h9 => h9) rfl d_Rf_read_46 ?_
      refine lv_iload hx hb d_Rf_read_49 (lv_at hl 5 rfl) ?_
      refine lv_aload_n hx hb d_Rf_read_51 rfl (lv_at hl 0 rfl) ?_
      refine va_get (D := (dC, dI)) (ci := 3) (v := .ref qm) (C := R_Rf) (T := F_Rf) (N := 16) hx hb hts inRf hown hK hP 0 rfl rfl 0 (by decide) kf7 (fun _ h9 => h9) rfl d_Rf_read_52 ?_
      refine lv_iload_n hx hb d_Rf_read_55 rfl (lv_at hl 1 rfl) ?_
      refine lv_iload_n hx hb d_Rf_read_56 rfl (lv_at hl 2 rfl) ?_
      refine lv_iadd hx hb d_Rf_read_57 ?_
      refine lv_iload hx hb d_Rf_read_58 (lv_at hl 5 rfl) ?_
      refine lv_iadd hx hb d_Rf_read_60 ?_
      obtain ⟨hin_, hf⟩ := ix_some hf
      refine va_iald hx hb hK hP 1 0 rfl rfl hin_ d_Rf_read_61 ?_
      obtain ⟨hin_, hf⟩ := ix_some hf
      refine va_iast hx hb hK hP hD hS 5 0 rfl rfl hin_ d_Rf_read_62 (fun H locs hP hD hS => ?_)
      have hP : va_P (dC, dI) vwCl [(hq, .inr (3, [.ref qm, .ref qf, .ref ql, .int nc, .int nd, .int nf, .int na, .int nz, .int no, .int ns, .int nv, .int np, .ref qi, .int nn, .ref qo, .int nt])), (qm, .inl (cI, 104, .inl nm)), (qf, .inl (cI, 104, .inl nb)), (ql, .inl (cI, 4, .inl nl)), (qi, .inl (cI, 24, .inl ni)), (qo, .inl (cI, 16, .inl (upd nu (v5 : Int32).toNatClampNeg (nm ((v1 + v2) + v5 : Int32).toNatClampNeg))))] H := hP
      have hD : va_D A [(hq, .inr (3, [.ref qm, .ref qf, .ref ql, .int nc, .int nd, .int nf, .int na, .int nz, .int no, .int ns, .int nv, .int np, .ref qi, .int nn, .ref qo, .int nt])), (qm, .inl (cI, 104, .inl nm)), (qf, .inl (cI, 104, .inl nb)), (ql, .inl (cI, 4, .inl nl)), (qi, .inl (cI, 24, .inl ni)), (qo, .inl (cI, 16, .inl (upd nu (v5 : Int32).toNatClampNeg (nm ((v1 + v2) + v5 : Int32).toNatClampNeg))))] := hD
      refine lv_iinc (v := v5 + 1) hx hb d_Rf_read_63 hl (k := 5) rfl rfl (by decide) rfl (fun ls hl => ?_)
      have hl : lv_has ls 6 [(5, .int (v5 + 1)), (0, .ref hq), (1, .int v1), (2, .int v2), (3, .int v3), (4, .int v4)] := hl
      refine lv_goto (tgt := 38) hx hb d_Rf_read_66 rfl ?_
      have hl := lv_sub (l' := [(0, .ref hq), (1, .int v1), (2, .int v2), (3, .int v3), (4, .int v4), (5, .int (v5 + 1))]) hl [1, 2, 3, 4, 5, 0] rfl
      exact ih (nm, nb, nl, nc, nd, nf, na, nz, no, ns, nv, np, ni, nn, upd nu (v5 : Int32).toNatClampNeg (nm ((v1 + v2) + v5 : Int32).toNatClampNeg), nt, v1, v2, v3, v4, v5 + 1) _ _ ls ⟨hP, hD, hS, hl, hf⟩
    have hf := ifn hf hc4
    refine lv_sipush (v := 27392) hx hb d_Rf_read_31 (by decide) ?_
    obtain ⟨e1_, e2_, e3_, e4_, e5_, e6_, e7_, e8_, e9_, e10_, e11_, e12_, e13_, e14_, e15_, e16_, e17_⟩ := lf17 hf
    subst e1_; subst e2_; subst e3_; subst e4_; subst e5_; subst e6_; subst e7_; subst e8_; subst e9_; subst e10_; subst e11_; subst e12_; subst e13_; subst e14_; subst e15_; subst e16_; subst e17_
    have hP9 := hP.sub (ws' := [(hq, .inr (3, [.ref qm, .ref qf, .ref ql, .int nc, .int nd, .int nf, .int na, .int nz, .int no, .int ns, .int nv, .int np, .ref qi, .int nn, .ref qo, .int nt])), (qm, .inl (cI, 104, .inl nm)), (qf, .inl (cI, 104, .inl nb)), (ql, .inl (cI, 4, .inl nl)), (qi, .inl (cI, 24, .inl ni)), (qo, .inl (cI, 16, .inl nu))]) [0, 1, 2, 3, 4, 5] rfl
    have hD9 := hD.sub (ws' := [(hq, .inr (3, [.ref qm, .ref qf, .ref ql, .int nc, .int nd, .int nf, .int na, .int nz, .int no, .int ns, .int nv, .int np, .ref qi, .int nn, .ref qo, .int nt])), (qm, .inl (cI, 104, .inl nm)), (qf, .inl (cI, 104, .inl nb)), (ql, .inl (cI, 4, .inl nl)), (qi, .inl (cI, 24, .inl ni)), (qo, .inl (cI, 16, .inl nu))]) [0, 1, 2, 3, 4, 5] (by decide) rfl
    exact W.iret (v := 27392) hx hb hr (fun t ht hW => ⟨⟨27392, (), rfl, rfl, by rw [ht]; exact hP9, va_K.moved hW.alike hK, hD9⟩, hS.F ht⟩) hS.2.2 d_Rf_read_34
  have hf := ift hf hc2
  refine lv_sipush (v := 256) hx hb d_Rf_read_9 (by decide) ?_
  refine lv_goto (tgt := 21) hx hb d_Rf_read_12 rfl ?_
  refine lv_istore hx hb d_Rf_read_21 hl (by decide) rfl (fun ls hl => ?_)
  have hl : lv_has ls 6 [(4, .int 256), (0, .ref hq), (1, .int a1), (2, .int a2), (3, .int a3)] := hl
  refine lv_iload_n hx hb d_Rf_read_23 rfl (lv_at hl 3 rfl) ?_
  refine lv_iload hx hb d_Rf_read_24 (lv_at hl 0 rfl) ?_
  refine lv_iadd hx hb d_Rf_read_26 ?_
  refine lv_iload_n hx hb d_Rf_read_27 rfl (lv_at hl 4 rfl) ?_
  refine lv_icmp_le (tgt := 35) hx hb d_Rf_read_28 rfl (fun hc8 => ?_) (fun hc8 => ?_)
  · have hf := ift hf hc8
    refine lv_iconst (v := 0) hx hb d_Rf_read_35 (by decide) ?_
    refine lv_istore hx hb d_Rf_read_36 hl (by decide) rfl (fun ls hl => ?_)
    have hl : lv_has ls 6 [(5, .int 0), (4, .int 256), (0, .ref hq), (1, .int a1), (2, .int a2), (3, .int a3)] := hl
    have hl := lv_sub (l' := [(0, .ref hq), (1, .int a1), (2, .int a2), (3, .int a3), (4, .int 256), (5, .int 0)]) hl [2, 3, 4, 5, 1, 0] rfl
    refine xloop (σ := (Nat → Int32) × (Nat → Int32) × (Nat → Int32) × (Int32) × (Int32) × (Int32) × (Int32) × (Int32) × (Int32) × (Int32) × (Int32) × (Int32) × (Nat → Int32) × (Int32) × (Nat → Int32) × (Int32) × (Int32) × (Int32) × (Int32) × (Int32) × (Int32)) (pc := 38) (fun n x H locs ls => va_P (dC, dI) vwCl [(hq, .inr (3, [.ref qm, .ref qf, .ref ql, .int (x.2.2.2.1), .int (x.2.2.2.2.1), .int (x.2.2.2.2.2.1), .int (x.2.2.2.2.2.2.1), .int (x.2.2.2.2.2.2.2.1), .int (x.2.2.2.2.2.2.2.2.1), .int (x.2.2.2.2.2.2.2.2.2.1), .int (x.2.2.2.2.2.2.2.2.2.2.1), .int (x.2.2.2.2.2.2.2.2.2.2.2.1), .ref qi, .int (x.2.2.2.2.2.2.2.2.2.2.2.2.2.1), .ref qo, .int (x.2.2.2.2.2.2.2.2.2.2.2.2.2.2.2.1)])), (qm, .inl (cI, 104, .inl (x.1))), (qf, .inl (cI, 104, .inl (x.2.1))), (ql, .inl (cI, 4, .inl (x.2.2.1))), (qi, .inl (cI, 24, .inl (x.2.2.2.2.2.2.2.2.2.2.2.2.1))), (qo, .inl (cI, 16, .inl (x.2.2.2.2.2.2.2.2.2.2.2.2.2.2.1)))] H ∧ va_D A [(hq, .inr (3, [.ref qm, .ref qf, .ref ql, .int (x.2.2.2.1), .int (x.2.2.2.2.1), .int (x.2.2.2.2.2.1), .int (x.2.2.2.2.2.2.1), .int (x.2.2.2.2.2.2.2.1), .int (x.2.2.2.2.2.2.2.2.1), .int (x.2.2.2.2.2.2.2.2.2.1), .int (x.2.2.2.2.2.2.2.2.2.2.1), .int (x.2.2.2.2.2.2.2.2.2.2.2.1), .ref qi, .int (x.2.2.2.2.2.2.2.2.2.2.2.2.2.1), .ref qo, .int (x.2.2.2.2.2.2.2.2.2.2.2.2.2.2.2.1)])), (qm, .inl (cI, 104, .inl (x.1))), (qf, .inl (cI, 104, .inl (x.2.1))), (ql, .inl (cI, 4, .inl (x.2.2.1))), (qi, .inl (cI, 24, .inl (x.2.2.2.2.2.2.2.2.2.2.2.2.1))), (qo, .inl (cI, 16, .inl (x.2.2.2.2.2.2.2.2.2.2.2.2.2.2.1)))] ∧ va_S A s.heap H locs ∧ lv_has ls 6 [(0, .ref hq), (1, .int (x.2.2.2.2.2.2.2.2.2.2.2.2.2.2.2.2.1)), (2, .int (x.2.2.2.2.2.2.2.2.2.2.2.2.2.2.2.2.2.1)), (3, .int (x.2.2.2.2.2.2.2.2.2.2.2.2.2.2.2.2.2.2.1)), (4, .int (x.2.2.2.2.2.2.2.2.2.2.2.2.2.2.2.2.2.2.2.1)), (5, .int (x.2.2.2.2.2.2.2.2.2.2.2.2.2.2.2.2.2.2.2.2))] ∧ fRf_read_L38 n (x.1, x.2.1, x.2.2.1, x.2.2.2.1, x.2.2.2.2.1, x.2.2.2.2.2.1, x.2.2.2.2.2.2.1, x.2.2.2.2.2.2.2.1, x.2.2.2.2.2.2.2.2.1, x.2.2.2.2.2.2.2.2.2.1, x.2.2.2.2.2.2.2.2.2.2.1, x.2.2.2.2.2.2.2.2.2.2.2.1, x.2.2.2.2.2.2.2.2.2.2.2.2.1, x.2.2.2.2.2.2.2.2.2.2.2.2.2.1, x.2.2.2.2.2.2.2.2.2.2.2.2.2.2.1, x.2.2.2.2.2.2.2.2.2.2.2.2.2.2.2.1) x.2.2.2.2.2.2.2.2.2.2.2.2.2.2.2.2.1 x.2.2.2.2.2.2.2.2.2.2.2.2.2.2.2.2.2.1 x.2.2.2.2.2.2.2.2.2.2.2.2.2.2.2.2.2.2.1 x.2.2.2.2.2.2.2.2.2.2.2.2.2.2.2.2.2.2.2.1 x.2.2.2.2.2.2.2.2.2.2.2.2.2.2.2.2.2.2.2.2 = some (r, nm', nb', nl', nc', nd', nf', na', nz', no', ns', nv', np', ni', nn', nu', nt')) ?_ (fun x H locs ls h => by have h9 := h.2.2.2.2; rw [fRf_read_L38] at h9; cases h9) 300 (nm, nb, nl, nc, nd, nf, na, nz, no, ns, nv, np, ni, nn, nu, nt, a1, a2, a3, 256, 0) _ _ ls ⟨hP, hD, hS, hl, hf⟩
    intro n ih x H locs ls hI
    obtain ⟨nm, nb, nl, nc, nd, nf, na, nz, no, ns, nv, np, ni, nn, nu, nt, v1, v2, v3, v4, v5⟩ := x
    obtain ⟨hP, hD, hS, hl, hf⟩ := hI
    have hP : va_P (dC, dI) vwCl [(hq, .inr (3, [.ref qm, .ref qf, .ref ql, .int nc, .int nd, .int nf, .int na, .int nz, .int no, .int ns, .int nv, .int np, .ref qi, .int nn, .ref qo, .int nt])), (qm, .inl (cI, 104, .inl nm)), (qf, .inl (cI, 104, .inl nb)), (ql, .inl (cI, 4, .inl nl)), (qi, .inl (cI, 24, .inl ni)), (qo, .inl (cI, 16, .inl nu))] H := hP
    have hD : va_D A [(hq, .inr (3, [.ref qm, .ref qf, .ref ql, .int nc, .int nd, .int nf, .int na, .int nz, .int no, .int ns, .int nv, .int np, .ref qi, .int nn, .ref qo, .int nt])), (qm, .inl (cI, 104, .inl nm)), (qf, .inl (cI, 104, .inl nb)), (ql, .inl (cI, 4, .inl nl)), (qi, .inl (cI, 24, .inl ni)), (qo, .inl (cI, 16, .inl nu))] := hD
    have hl : lv_has ls 6 [(0, .ref hq), (1, .int v1), (2, .int v2), (3, .int v3), (4, .int v4), (5, .int v5)] := hl
    rw [fRf_read_L38] at hf
    refine lv_iload hx hb d_Rf_read_38 (lv_at hl 5 rfl) ?_
    refine lv_iload hx hb d_Rf_read_40 (lv_at hl 4 rfl) ?_
    refine lv_icmp_ge (tgt := 69) hx hb d_Rf_read_42 rfl (fun hc9 => ?_) (fun hc9 => ?_)
    · have hf := ift hf hc9
      refine lv_aload_n hx hb d_Rf_read_69 rfl (lv_at hl 0 rfl) ?_
      refine lv_iload hx hb d_Rf_read_70 (lv_at hl 4 rfl) ?_
      refine va_put (D := (dC, dI)) (ci := 3) (v := .int v4) (ty := .int) (C := R_Rf) (T := F_Rf) (N := 16) hx hb hts inRf t_Rf t_Rf_ok n_Rf hown hK hP hD hS 0 rfl rfl 15 (by decide) kf42 (fun _ h9 => h9) rfl (by decide +kernel) rfl rfl (Nat.le_of_ble_eq_true rfl) d_Rf_read_72 (fun H locs hP hD hS => ?_)
      have hP : va_P (dC, dI) vwCl [(hq, .inr (3, [.ref qm, .ref qf, .ref ql, .int nc, .int nd, .int nf, .int na, .int nz, .int no, .int ns, .int nv, .int np, .ref qi, .int nn, .ref qo, .int v4])), (qm, .inl (cI, 104, .inl nm)), (qf, .inl (cI, 104, .inl nb)), (ql, .inl (cI, 4, .inl nl)), (qi, .inl (cI, 24, .inl ni)), (qo, .inl (cI, 16, .inl nu))] H := hP
      have hD : va_D A [(hq, .inr (3, [.ref qm, .ref qf, .ref ql, .int nc, .int nd, .int nf, .int na, .int nz, .int no, .int ns, .int nv, .int np, .ref qi, .int nn, .ref qo, .int v4])), (qm, .inl (cI, 104, .inl nm)), (qf, .inl (cI, 104, .inl nb)), (ql, .inl (cI, 4, .inl nl)), (qi, .inl (cI, 24, .inl ni)), (qo, .inl (cI, 16, .inl nu))] := hD
      refine lv_ldc (v := 36864) hx hb hown kc103 d_Rf_read_75 ?_
      obtain ⟨e1_, e2_, e3_, e4_, e5_, e6_, e7_, e8_, e9_, e10_, e11_, e12_, e13_, e14_, e15_, e16_, e17_⟩ := lf17 hf
      subst e1_; subst e2_; subst e3_; subst e4_; subst e5_; subst e6_; subst e7_; subst e8_; subst e9_; subst e10_; subst e11_; subst e12_; subst e13_; subst e14_; subst e15_; subst e16_; subst e17_
      have hP9 := hP.sub (ws' := [(hq, .inr (3, [.ref qm, .ref qf, .ref ql, .int nc, .int nd, .int nf, .int na, .int nz, .int no, .int ns, .int nv, .int np, .ref qi, .int nn, .ref qo, .int v4])), (qm, .inl (cI, 104, .inl nm)), (qf, .inl (cI, 104, .inl nb)), (ql, .inl (cI, 4, .inl nl)), (qi, .inl (cI, 24, .inl ni)), (qo, .inl (cI, 16, .inl nu))]) [0, 1, 2, 3, 4, 5] rfl
      have hD9 := hD.sub (ws' := [(hq, .inr (3, [.ref qm, .ref qf, .ref ql, .int nc, .int nd, .int nf, .int na, .int nz, .int no, .int ns, .int nv, .int np, .ref qi, .int nn, .ref qo, .int v4])), (qm, .inl (cI, 104, .inl nm)), (qf, .inl (cI, 104, .inl nb)), (ql, .inl (cI, 4, .inl nl)), (qi, .inl (cI, 24, .inl ni)), (qo, .inl (cI, 16, .inl nu))]) [0, 1, 2, 3, 4, 5] (by decide) rfl
      exact W.iret (v := 36864) hx hb hr (fun t ht hW => ⟨⟨36864, (), rfl, rfl, by rw [ht]; exact hP9, va_K.moved hW.alike hK, hD9⟩, hS.F ht⟩) hS.2.2 d_Rf_read_77
    have hf := ifn hf hc9
    refine lv_aload_n hx hb d_Rf_read_45 rfl (lv_at hl 0 rfl) ?_
    refine va_get (D := (dC, dI)) (ci := 3) (v := .ref qo) (C := R_Rf) (T := F_Rf) (N := 16) hx hb hts inRf hown hK hP 0 rfl rfl 14 (by decide) kf30 (fun _ h9 => h9) rfl d_Rf_read_46 ?_
    refine lv_iload hx hb d_Rf_read_49 (lv_at hl 5 rfl) ?_
    refine lv_aload_n hx hb d_Rf_read_51 rfl (lv_at hl 0 rfl) ?_
    refine va_get (D := (dC, dI)) (ci := 3) (v := .ref qm) (C := R_Rf) (T := F_Rf) (N := 16) hx hb hts inRf hown hK hP 0 rfl rfl 0 (by decide) kf7 (fun _ h9 => h9) rfl d_Rf_read_52 ?_
    refine lv_iload_n hx hb d_Rf_read_55 rfl (lv_at hl 1 rfl) ?_
    refine lv_iload_n hx hb d_Rf_read_56 rfl (lv_at hl 2 rfl) ?_
    refine lv_iadd hx hb d_Rf_read_57 ?_
    refine lv_iload hx hb d_Rf_read_58 (lv_at hl 5 rfl) ?_
    refine lv_iadd hx hb d_Rf_read_60 ?_
    obtain ⟨hin_, hf⟩ := ix_some hf
    refine va_iald hx hb hK hP 1 0 rfl rfl hin_ d_Rf_read_61 ?_
    obtain ⟨hin_, hf⟩ := ix_some hf
    refine va_iast hx hb hK hP hD hS 5 0 rfl rfl hin_ d_Rf_read_62 (fun H locs hP hD hS => ?_)
    have hP : va_P (dC, dI) vwCl [(hq, .inr (3, [.ref qm, .ref qf, .ref ql, .int nc, .int nd, .int nf, .int na, .int nz, .int no, .int ns, .int nv, .int np, .ref qi, .int nn, .ref qo, .int nt])), (qm, .inl (cI, 104, .inl nm)), (qf, .inl (cI, 104, .inl nb)), (ql, .inl (cI, 4, .inl nl)), (qi, .inl (cI, 24, .inl ni)), (qo, .inl (cI, 16, .inl (upd nu (v5 : Int32).toNatClampNeg (nm ((v1 + v2) + v5 : Int32).toNatClampNeg))))] H := hP
    have hD : va_D A [(hq, .inr (3, [.ref qm, .ref qf, .ref ql, .int nc, .int nd, .int nf, .int na, .int nz, .int no, .int ns, .int nv, .int np, .ref qi, .int nn, .ref qo, .int nt])), (qm, .inl (cI, 104, .inl nm)), (qf, .inl (cI, 104, .inl nb)), (ql, .inl (cI, 4, .inl nl)), (qi, .inl (cI, 24, .inl ni)), (qo, .inl (cI, 16, .inl (upd nu (v5 : Int32).toNatClampNeg (nm ((v1 + v2) + v5 : Int32).toNatClampNeg))))] := hD
    refine lv_iinc (v := v5 + 1) hx hb d_Rf_read_63 hl (k := 5) rfl rfl (by decide) rfl (fun ls hl => ?_)
    have hl : lv_has ls 6 [(5, .int (v5 + 1)), (0, .ref hq), (1, .int v1), (2, .int v2), (3, .int v3), (4, .int v4)] := hl
    refine lv_goto (tgt := 38) hx hb d_Rf_read_66 rfl ?_
    have hl := lv_sub (l' := [(0, .ref hq), (1, .int v1), (2, .int v2), (3, .int v3), (4, .int v4), (5, .int (v5 + 1))]) hl [1, 2, 3, 4, 5, 0] rfl
    exact ih (nm, nb, nl, nc, nd, nf, na, nz, no, ns, nv, np, ni, nn, upd nu (v5 : Int32).toNatClampNeg (nm ((v1 + v2) + v5 : Int32).toNatClampNeg), nt, v1, v2, v3, v4, v5 + 1) _ _ ls ⟨hP, hD, hS, hl, hf⟩
  have hf := ifn hf hc8
  refine lv_sipush (v := 27392) hx hb d_Rf_read_31 (by decide) ?_
  obtain ⟨e1_, e2_, e3_, e4_, e5_, e6_, e7_, e8_, e9_, e10_, e11_, e12_, e13_, e14_, e15_, e16_, e17_⟩ := lf17 hf
  subst e1_; subst e2_; subst e3_; subst e4_; subst e5_; subst e6_; subst e7_; subst e8_; subst e9_; subst e10_; subst e11_; subst e12_; subst e13_; subst e14_; subst e15_; subst e16_; subst e17_
  have hP9 := hP.sub (ws' := [(hq, .inr (3, [.ref qm, .ref qf, .ref ql, .int nc, .int nd, .int nf, .int na, .int nz, .int no, .int ns, .int nv, .int np, .ref qi, .int nn, .ref qo, .int nt])), (qm, .inl (cI, 104, .inl nm)), (qf, .inl (cI, 104, .inl nb)), (ql, .inl (cI, 4, .inl nl)), (qi, .inl (cI, 24, .inl ni)), (qo, .inl (cI, 16, .inl nu))]) [0, 1, 2, 3, 4, 5] rfl
  have hD9 := hD.sub (ws' := [(hq, .inr (3, [.ref qm, .ref qf, .ref ql, .int nc, .int nd, .int nf, .int na, .int nz, .int no, .int ns, .int nv, .int np, .ref qi, .int nn, .ref qo, .int nt])), (qm, .inl (cI, 104, .inl nm)), (qf, .inl (cI, 104, .inl nb)), (ql, .inl (cI, 4, .inl nl)), (qi, .inl (cI, 24, .inl ni)), (qo, .inl (cI, 16, .inl nu))]) [0, 1, 2, 3, 4, 5] (by decide) rfl
  exact W.iret (v := 27392) hx hb hr (fun t ht hW => ⟨⟨27392, (), rfl, rfl, by rw [ht]; exact hP9, va_K.moved hW.alike hK, hD9⟩, hS.F ht⟩) hS.2.2 d_Rf_read_34
theorem d_Rf_grant_0 : decode b_Rf_grant 0 = .ok (.aload_n 0, 1) := by decide +kernel
theorem d_Rf_grant_1 : decode b_Rf_grant 1 = .ok (.getfield 27, 3) := by decide +kernel
theorem d_Rf_grant_4 : decode b_Rf_grant 4 = .ok (.iconst 5, 1) := by decide +kernel
theorem d_Rf_grant_5 : decode b_Rf_grant 5 = .ok (.iaload, 1) := by decide +kernel
theorem d_Rf_grant_6 : decode b_Rf_grant 6 = .ok (.istore_n 2, 1) := by decide +kernel
theorem d_Rf_grant_7 : decode b_Rf_grant 7 = .ok (.aload_n 0, 1) := by decide +kernel
theorem d_Rf_grant_8 : decode b_Rf_grant 8 = .ok (.getfield 27, 3) := by decide +kernel
theorem d_Rf_grant_11 : decode b_Rf_grant 11 = .ok (.bipush 6, 2) := by decide +kernel
theorem d_Rf_grant_13 : decode b_Rf_grant 13 = .ok (.iaload, 1) := by decide +kernel
theorem d_Rf_grant_14 : decode b_Rf_grant 14 = .ok (.istore_n 3, 1) := by decide +kernel
theorem d_Rf_grant_15 : decode b_Rf_grant 15 = .ok (.aload_n 0, 1) := by decide +kernel
theorem d_Rf_grant_16 : decode b_Rf_grant 16 = .ok (.getfield 27, 3) := by decide +kernel
theorem d_Rf_grant_19 : decode b_Rf_grant 19 = .ok (.bipush 7, 2) := by decide +kernel
theorem d_Rf_grant_21 : decode b_Rf_grant 21 = .ok (.iaload, 1) := by decide +kernel
theorem d_Rf_grant_22 : decode b_Rf_grant 22 = .ok (.istore 4, 2) := by decide +kernel
theorem d_Rf_grant_24 : decode b_Rf_grant 24 = .ok (.iload_n 2, 1) := by decide +kernel
theorem d_Rf_grant_25 : decode b_Rf_grant 25 = .ok (.iconst 3, 1) := by decide +kernel
theorem d_Rf_grant_26 : decode b_Rf_grant 26 = .ok (.if_icmp .gt 36, 3) := by decide +kernel
theorem d_Rf_grant_29 : decode b_Rf_grant 29 = .ok (.iload_n 2, 1) := by decide +kernel
theorem d_Rf_grant_30 : decode b_Rf_grant 30 = .ok (.aload_n 0, 1) := by decide +kernel
theorem d_Rf_grant_31 : decode b_Rf_grant 31 = .ok (.getfield 23, 3) := by decide +kernel
theorem d_Rf_grant_34 : decode b_Rf_grant 34 = .ok (.if_icmp .eq 28, 3) := by decide +kernel
theorem d_Rf_grant_37 : decode b_Rf_grant 37 = .ok (.iload 4, 2) := by decide +kernel
theorem d_Rf_grant_39 : decode b_Rf_grant 39 = .ok (.ifCond .eq 23, 3) := by decide +kernel
theorem d_Rf_grant_42 : decode b_Rf_grant 42 = .ok (.iload_n 3, 1) := by decide +kernel
theorem d_Rf_grant_43 : decode b_Rf_grant 43 = .ok (.iload 4, 2) := by decide +kernel
theorem d_Rf_grant_45 : decode b_Rf_grant 45 = .ok (.iadd, 1) := by decide +kernel
theorem d_Rf_grant_46 : decode b_Rf_grant 46 = .ok (.bipush 16, 2) := by decide +kernel
theorem d_Rf_grant_48 : decode b_Rf_grant 48 = .ok (.if_icmp .gt 14, 3) := by decide +kernel
theorem d_Rf_grant_51 : decode b_Rf_grant 51 = .ok (.aload_n 0, 1) := by decide +kernel
theorem d_Rf_grant_52 : decode b_Rf_grant 52 = .ok (.getfield 27, 3) := by decide +kernel
theorem d_Rf_grant_55 : decode b_Rf_grant 55 = .ok (.bipush 8, 2) := by decide +kernel
theorem d_Rf_grant_57 : decode b_Rf_grant 57 = .ok (.iaload, 1) := by decide +kernel
theorem d_Rf_grant_58 : decode b_Rf_grant 58 = .ok (.iconst 1, 1) := by decide +kernel
theorem d_Rf_grant_59 : decode b_Rf_grant 59 = .ok (.if_icmp .le 7, 3) := by decide +kernel
theorem d_Rf_grant_62 : decode b_Rf_grant 62 = .ok (.sipush 27264, 3) := by decide +kernel
theorem d_Rf_grant_65 : decode b_Rf_grant 65 = .ok (.ireturn, 1) := by decide +kernel
theorem d_Rf_grant_66 : decode b_Rf_grant 66 = .ok (.bipush 72, 2) := by decide +kernel
theorem d_Rf_grant_68 : decode b_Rf_grant 68 = .ok (.iconst 4, 1) := by decide +kernel
theorem d_Rf_grant_69 : decode b_Rf_grant 69 = .ok (.iload_n 1, 1) := by decide +kernel
theorem d_Rf_grant_70 : decode b_Rf_grant 70 = .ok (.imul, 1) := by decide +kernel
theorem d_Rf_grant_71 : decode b_Rf_grant 71 = .ok (.iadd, 1) := by decide +kernel
theorem d_Rf_grant_72 : decode b_Rf_grant 72 = .ok (.istore 5, 2) := by decide +kernel
theorem d_Rf_grant_74 : decode b_Rf_grant 74 = .ok (.aload_n 0, 1) := by decide +kernel
theorem d_Rf_grant_75 : decode b_Rf_grant 75 = .ok (.getfield 7, 3) := by decide +kernel
theorem d_Rf_grant_78 : decode b_Rf_grant 78 = .ok (.iload 5, 2) := by decide +kernel
theorem d_Rf_grant_80 : decode b_Rf_grant 80 = .ok (.iaload, 1) := by decide +kernel
theorem d_Rf_grant_81 : decode b_Rf_grant 81 = .ok (.ifCond .eq 7, 3) := by decide +kernel
theorem d_Rf_grant_84 : decode b_Rf_grant 84 = .ok (.sipush 27273, 3) := by decide +kernel
theorem d_Rf_grant_87 : decode b_Rf_grant 87 = .ok (.ireturn, 1) := by decide +kernel
theorem d_Rf_grant_88 : decode b_Rf_grant 88 = .ok (.aload_n 0, 1) := by decide +kernel
theorem d_Rf_grant_89 : decode b_Rf_grant 89 = .ok (.getfield 27, 3) := by decide +kernel
theorem d_Rf_grant_92 : decode b_Rf_grant 92 = .ok (.iconst 5, 1) := by decide +kernel
theorem d_Rf_grant_93 : decode b_Rf_grant 93 = .ok (.iconst 1, 1) := by decide +kernel
theorem d_Rf_grant_94 : decode b_Rf_grant 94 = .ok (.iconst 4, 1) := by decide +kernel
theorem d_Rf_grant_95 : decode b_Rf_grant 95 = .ok (.aload_n 0, 1) := by decide +kernel
theorem d_Rf_grant_96 : decode b_Rf_grant 96 = .ok (.getfield 23, 3) := by decide +kernel
theorem d_Rf_grant_99 : decode b_Rf_grant 99 = .ok (.imul, 1) := by decide +kernel
theorem d_Rf_grant_100 : decode b_Rf_grant 100 = .ok (.iadd, 1) := by decide +kernel
theorem d_Rf_grant_101 : decode b_Rf_grant 101 = .ok (.iload_n 2, 1) := by decide +kernel
theorem d_Rf_grant_102 : decode b_Rf_grant 102 = .ok (.iadd, 1) := by decide +kernel
theorem d_Rf_grant_103 : decode b_Rf_grant 103 = .ok (.iastore, 1) := by decide +kernel
theorem d_Rf_grant_104 : decode b_Rf_grant 104 = .ok (.aload_n 0, 1) := by decide +kernel
theorem d_Rf_grant_105 : decode b_Rf_grant 105 = .ok (.iload 5, 2) := by decide +kernel
theorem d_Rf_grant_107 : decode b_Rf_grant 107 = .ok (.iconst 4, 1) := by decide +kernel
theorem d_Rf_grant_108 : decode b_Rf_grant 108 = .ok (.invokevirtual 110, 3) := by decide +kernel
theorem d_Rf_grant_111 : decode b_Rf_grant 111 = .ok (.ireturn, 1) := by decide +kernel
def fRf_grant (σ : StR) (a1 : Int32) : Option (Int32 × StR) := match σ with | (nm, nb, nl, nc, nd, nf, na, nz, no, ns, nv, np, ni, nn, nu, nt) => ix 5 24 fun j1 => ix 6 24 fun j2 => ix 7 24 fun j3 => if 3 < (ni j1) then (some (27264, nm, nb, nl, nc, nd, nf, na, nz, no, ns, nv, np, ni, nn, nu, nt)) else (if (ni j1) = ns then (some (27264, nm, nb, nl, nc, nd, nf, na, nz, no, ns, nv, np, ni, nn, nu, nt)) else (if (ni j3) = 0 then (some (27264, nm, nb, nl, nc, nd, nf, na, nz, no, ns, nv, np, ni, nn, nu, nt)) else (if 16 < ((ni j2) + (ni j3)) then (some (27264, nm, nb, nl, nc, nd, nf, na, nz, no, ns, nv, np, ni, nn, nu, nt)) else (ix 8 24 fun j8 => if (ni j8) ≤ 1 then (ix (72 + (4 * a1)) 104 fun j10 => if (nm j10) = 0 then (ix 5 24 fun j12 => bd17 (fRf_store (nm, nb, nl, nc, nd, nf, na, nz, no, ns, nv, np, upd ni j12 ((1 + (4 * ns)) + (ni j1)), nn, nu, nt) (72 + (4 * a1)) 4) fun r13 nm13 nb13 nl13 nc13 nd13 nf13 na13 nz13 no13 ns13 nv13 np13 ni13 nn13 nu13 nt13 => some (r13, nm13, nb13, nl13, nc13, nd13, nf13, na13, nz13, no13, ns13, nv13, np13, ni13, nn13, nu13, nt13)) else (some (27273, nm, nb, nl, nc, nd, nf, na, nz, no, ns, nv, np, ni, nn, nu, nt))) else (some (27264, nm, nb, nl, nc, nd, nf, na, nz, no, ns, nv, np, ni, nn, nu, nt))))))
set_option maxHeartbeats 4000000 in
set_option maxRecDepth 100000 in
theorem ctRf_grant (l : Launch) (dC : Nat → ClassId) (dI : Nat → Nat → Nat) (cI : ClassId) (hq qm qf ql qi qo : Nat) (nm : Nat → Int32) (nb : Nat → Int32) (nl : Nat → Int32) (nc : Int32) (nd : Int32) (nf : Int32) (na : Int32) (nz : Int32) (no : Int32) (ns : Int32) (nv : Int32) (np : Int32) (ni : Nat → Int32) (nn : Int32) (nu : Nat → Int32) (nt : Int32) (a1 : Int32) (r : Int32) (nm' : Nat → Int32) (nb' : Nat → Int32) (nl' : Nat → Int32) (nc' : Int32) (nd' : Int32) (nf' : Int32) (na' : Int32) (nz' : Int32) (no' : Int32) (ns' : Int32) (nv' : Int32) (np' : Int32) (ni' : Nat → Int32) (nn' : Int32) (nu' : Nat → Int32) (nt' : Int32) (hf : fRf_grant (nm, nb, nl, nc, nd, nf, na, nz, no, ns, nv, np, ni, nn, nu, nt) a1 = some (r, nm', nb', nl', nc', nd', nf', na', nz', no', ns', nv', np', ni', nn', nu', nt')) : CtI l y_Rf_grant w_Rf_grant ({ frames := 5, cells := 0, slots := 0, locals := 108 }) (dC, dI) [(cI, .int)] [.ref hq, .int a1] [(hq, .inr (3, [.ref qm, .ref qf, .ref ql, .int nc, .int nd, .int nf, .int na, .int nz, .int no, .int ns, .int nv, .int np, .ref qi, .int nn, .ref qo, .int nt])), (qm, .inl (cI, 104, .inl nm)), (qf, .inl (cI, 104, .inl nb)), (ql, .inl (cI, 4, .inl nl)), (qi, .inl (cI, 24, .inl ni)), (qo, .inl (cI, 16, .inl nu))] [(hq, .inr (3, [.ref qm, .ref qf, .ref ql, .int nc', .int nd', .int nf', .int na', .int nz', .int no', .int ns', .int nv', .int np', .ref qi, .int nn', .ref qo, .int nt'])), (qm, .inl (cI, 104, .inl nm')), (qf, .inl (cI, 104, .inl nb')), (ql, .inl (cI, 4, .inl nl')), (qi, .inl (cI, 24, .inl ni')), (qo, .inl (cI, 16, .inl nu'))] r := by
  intro sz
  refine Met.ofW (cc := b_Rf_grant) (maxL := 6) (ret := some .int) (by decide) rfl ?_
  intro p e s m args below meth c s₁ B hml hv
  obtain ⟨rfl, hsz, hP, hK, hD0⟩ := hv
  have hx := B.exec
  have hb := B.bytes
  have hr := B.returns
  have hts := atoms_spec (ws := w_Rf_grant) B.pre
  have hown : s.vm.findClass R_Rf = some m.cls := findClass_of_methodNamed B.named
  have hlocks := B.notSynchronized
  subst hsz
  have hD := hD0.self (sz := s.heap.size)
  generalize hAe : va_A [(hq, .inr (3, [.ref qm, .ref qf, .ref ql, .int nc, .int nd, .int nf, .int na, .int nz, .int no, .int ns, .int nv, .int np, .ref qi, .int nn, .ref qo, .int nt])), (qm, .inl (cI, 104, .inl nm)), (qf, .inl (cI, 104, .inl nb)), (ql, .inl (cI, 4, .inl nl)), (qi, .inl (cI, 24, .inl ni)), (qo, .inl (cI, 16, .inl nu))] s.heap.size = A at hD ⊢
  have hA : ∀ q : Nat, s.heap.size ≤ q → A q := fun q h => by rw [← hAe]; exact Or.inr h
  have hS : va_S A s.heap s.heap [] := va_S.rf
  have hP : va_P (dC, dI) vwCl [(hq, .inr (3, [.ref qm, .ref qf, .ref ql, .int nc, .int nd, .int nf, .int na, .int nz, .int no, .int ns, .int nv, .int np, .ref qi, .int nn, .ref qo, .int nt])), (qm, .inl (cI, 104, .inl nm)), (qf, .inl (cI, 104, .inl nb)), (ql, .inl (cI, 4, .inl nl)), (qi, .inl (cI, 24, .inl ni)), (qo, .inl (cI, 16, .inl nu))] s.heap := hP
  have hl := lv_entry ([.ref hq, .int a1]) (n := 6) (Nat.le_of_ble_eq_true rfl)
  rw [lg_entry_eq]
  generalize (lg_sl ([.ref hq, .int a1]) ++ List.replicate (6 - (lg_sl ([.ref hq, .int a1])).length) Slot.unset).toArray = ls at hl ⊢
  have hl : lv_has ls 6 [(0, .ref hq), (1, .int a1)] := hl
  have inRf : ∀ w ∈ u_ws R_Rf F_Rf 16, w ∈ w_Rf_grant := fun w h => List.mem_cons_of_mem _ (in_Rf w h)
  have kf23 := hts _ (List.mem_cons_of_mem _ wq415)
  have kf27 := hts _ (List.mem_cons_of_mem _ wq418)
  have kf7 := hts _ (List.mem_cons_of_mem _ wq406)
  rw [fRf_grant] at hf
  refine lv_aload_n hx hb d_Rf_grant_0 rfl (lv_at hl 0 rfl) ?_
  refine va_get (D := (dC, dI)) (ci := 3) (v := .ref qi) (C := R_Rf) (T := F_Rf) (N := 16) hx hb hts inRf hown hK hP 0 rfl rfl 12 (by decide) kf27 (fun _ h9 => h9) rfl d_Rf_grant_1 ?_
  refine lv_iconst (v := 5) hx hb d_Rf_grant_4 (by decide) ?_
  obtain ⟨hin_, hf⟩ := ix_some hf
  refine va_iald hx hb hK hP 4 0 rfl rfl hin_ d_Rf_grant_5 ?_
  refine lv_istore_n hx hb d_Rf_grant_6 rfl hl (by decide) rfl (fun ls hl => ?_)
  have hl : lv_has ls 6 [(2, .int (ni (5 : Int32).toNatClampNeg)), (0, .ref hq), (1, .int a1)] := hl
  refine lv_aload_n hx hb d_Rf_grant_7 rfl (lv_at hl 1 rfl) ?_
  refine va_get (D := (dC, dI)) (ci := 3) (v := .ref qi) (C := R_Rf) (T := F_Rf) (N := 16) hx hb hts inRf hown hK hP 0 rfl rfl 12 (by decide) kf27 (fun _ h9 => h9) rfl d_Rf_grant_8 ?_
  refine lv_bipush (v := 6) hx hb d_Rf_grant_11 (by decide) ?_
  obtain ⟨hin_, hf⟩ := ix_some hf
  refine va_iald hx hb hK hP 4 0 rfl rfl hin_ d_Rf_grant_13 ?_
  refine lv_istore_n hx hb d_Rf_grant_14 rfl hl (by decide) rfl (fun ls hl => ?_)
  have hl : lv_has ls 6 [(3, .int (ni (6 : Int32).toNatClampNeg)), (2, .int (ni (5 : Int32).toNatClampNeg)), (0, .ref hq), (1, .int a1)] := hl
  refine lv_aload_n hx hb d_Rf_grant_15 rfl (lv_at hl 2 rfl) ?_
  refine va_get (D := (dC, dI)) (ci := 3) (v := .ref qi) (C := R_Rf) (T := F_Rf) (N := 16) hx hb hts inRf hown hK hP 0 rfl rfl 12 (by decide) kf27 (fun _ h9 => h9) rfl d_Rf_grant_16 ?_
  refine lv_bipush (v := 7) hx hb d_Rf_grant_19 (by decide) ?_
  obtain ⟨hin_, hf⟩ := ix_some hf
  refine va_iald hx hb hK hP 4 0 rfl rfl hin_ d_Rf_grant_21 ?_
  refine lv_istore hx hb d_Rf_grant_22 hl (by decide) rfl (fun ls hl => ?_)
  have hl : lv_has ls 6 [(4, .int (ni (7 : Int32).toNatClampNeg)), (3, .int (ni (6 : Int32).toNatClampNeg)), (2, .int (ni (5 : Int32).toNatClampNeg)), (0, .ref hq), (1, .int a1)] := hl
  refine lv_iload_n hx hb d_Rf_grant_24 rfl (lv_at hl 2 rfl) ?_
  refine lv_iconst (v := 3) hx hb d_Rf_grant_25 (by decide) ?_
  refine lv_icmp_gt (tgt := 62) hx hb d_Rf_grant_26 rfl (fun hc4 => ?_) (fun hc4 => ?_)
  · have hf := ift hf hc4
    refine lv_sipush (v := 27264) hx hb d_Rf_grant_62 (by decide) ?_
    obtain ⟨e1_, e2_, e3_, e4_, e5_, e6_, e7_, e8_, e9_, e10_, e11_, e12_, e13_, e14_, e15_, e16_, e17_⟩ := lf17 hf
    subst e1_; subst e2_; subst e3_; subst e4_; subst e5_; subst e6_; subst e7_; subst e8_; subst e9_; subst e10_; subst e11_; subst e12_; subst e13_; subst e14_; subst e15_; subst e16_; subst e17_
    have hP9 := hP.sub (ws' := [(hq, .inr (3, [.ref qm, .ref qf, .ref ql, .int nc, .int nd, .int nf, .int na, .int nz, .int no, .int ns, .int nv, .int np, .ref qi, .int nn, .ref qo, .int nt])), (qm, .inl (cI, 104, .inl nm)), (qf, .inl (cI, 104, .inl nb)), (ql, .inl (cI, 4, .inl nl)), (qi, .inl (cI, 24, .inl ni)), (qo, .inl (cI, 16, .inl nu))]) [0, 1, 2, 3, 4, 5] rfl
    have hD9 := hD.sub (ws' := [(hq, .inr (3, [.ref qm, .ref qf, .ref ql, .int nc, .int nd, .int nf, .int na, .int nz, .int no, .int ns, .int nv, .int np, .ref qi, .int nn, .ref qo, .int nt])), (qm, .inl (cI, 104, .inl nm)), (qf, .inl (cI, 104, .inl nb)), (ql, .inl (cI, 4, .inl nl)), (qi, .inl (cI, 24, .inl ni)), (qo, .inl (cI, 16, .inl nu))]) [0, 1, 2, 3, 4, 5] (by decide) rfl
    exact W.iret (v := 27264) hx hb hr (fun t ht hW => ⟨⟨27264, (), rfl, rfl, by rw [ht]; exact hP9, va_K.moved hW.alike hK, hD9⟩, hS.F ht⟩) hS.2.2 d_Rf_grant_65
  have hf := ifn hf hc4
  refine lv_iload_n hx hb d_Rf_grant_29 rfl (lv_at hl 2 rfl) ?_
  refine lv_aload_n hx hb d_Rf_grant_30 rfl (lv_at hl 3 rfl) ?_
  refine va_get (D := (dC, dI)) (ci := 3) (v := .int ns) (C := R_Rf) (T := F_Rf) (N := 16) hx hb hts inRf hown hK hP 0 rfl rfl 9 (by decide) kf23 (fun _ h9 => h9) rfl d_Rf_grant_31 ?_
  refine lv_icmp_eq (tgt := 62) hx hb d_Rf_grant_34 rfl (fun hc5 => ?_) (fun hc5 => ?_)
  · have hf := ift hf hc5
    refine lv_sipush (v := 27264) hx hb d_Rf_grant_62 (by decide) ?_
    obtain ⟨e1_, e2_, e3_, e4_, e5_, e6_, e7_, e8_, e9_, e10_, e11_, e12_, e13_, e14_, e15_, e16_, e17_⟩ := lf17 hf
    subst e1_; subst e2_; subst e3_; subst e4_; subst e5_; subst e6_; subst e7_; subst e8_; subst e9_; subst e10_; subst e11_; subst e12_; subst e13_; subst e14_; subst e15_; subst e16_; subst e17_
    have hP9 := hP.sub (ws' := [(hq, .inr (3, [.ref qm, .ref qf, .ref ql, .int nc, .int nd, .int nf, .int na, .int nz, .int no, .int ns, .int nv, .int np, .ref qi, .int nn, .ref qo, .int nt])), (qm, .inl (cI, 104, .inl nm)), (qf, .inl (cI, 104, .inl nb)), (ql, .inl (cI, 4, .inl nl)), (qi, .inl (cI, 24, .inl ni)), (qo, .inl (cI, 16, .inl nu))]) [0, 1, 2, 3, 4, 5] rfl
    have hD9 := hD.sub (ws' := [(hq, .inr (3, [.ref qm, .ref qf, .ref ql, .int nc, .int nd, .int nf, .int na, .int nz, .int no, .int ns, .int nv, .int np, .ref qi, .int nn, .ref qo, .int nt])), (qm, .inl (cI, 104, .inl nm)), (qf, .inl (cI, 104, .inl nb)), (ql, .inl (cI, 4, .inl nl)), (qi, .inl (cI, 24, .inl ni)), (qo, .inl (cI, 16, .inl nu))]) [0, 1, 2, 3, 4, 5] (by decide) rfl
    exact W.iret (v := 27264) hx hb hr (fun t ht hW => ⟨⟨27264, (), rfl, rfl, by rw [ht]; exact hP9, va_K.moved hW.alike hK, hD9⟩, hS.F ht⟩) hS.2.2 d_Rf_grant_65
  have hf := ifn hf hc5
  refine lv_iload hx hb d_Rf_grant_37 (lv_at hl 0 rfl) ?_
  refine lv_if_eq (tgt := 62) hx hb d_Rf_grant_39 rfl (fun hc6 => ?_) (fun hc6 => ?_)
  · have hf := ift hf hc6
    refine lv_sipush (v := 27264) hx hb d_Rf_grant_62 (by decide) ?_
    obtain ⟨e1_, e2_, e3_, e4_, e5_, e6_, e7_, e8_, e9_, e10_, e11_, e12_, e13_, e14_, e15_, e16_, e17_⟩ := lf17 hf
    subst e1_; subst e2_; subst e3_; subst e4_; subst e5_; subst e6_; subst e7_; subst e8_; subst e9_; subst e10_; subst e11_; subst e12_; subst e13_; subst e14_; subst e15_; subst e16_; subst e17_
    have hP9 := hP.sub (ws' := [(hq, .inr (3, [.ref qm, .ref qf, .ref ql, .int nc, .int nd, .int nf, .int na, .int nz, .int no, .int ns, .int nv, .int np, .ref qi, .int nn, .ref qo, .int nt])), (qm, .inl (cI, 104, .inl nm)), (qf, .inl (cI, 104, .inl nb)), (ql, .inl (cI, 4, .inl nl)), (qi, .inl (cI, 24, .inl ni)), (qo, .inl (cI, 16, .inl nu))]) [0, 1, 2, 3, 4, 5] rfl
    have hD9 := hD.sub (ws' := [(hq, .inr (3, [.ref qm, .ref qf, .ref ql, .int nc, .int nd, .int nf, .int na, .int nz, .int no, .int ns, .int nv, .int np, .ref qi, .int nn, .ref qo, .int nt])), (qm, .inl (cI, 104, .inl nm)), (qf, .inl (cI, 104, .inl nb)), (ql, .inl (cI, 4, .inl nl)), (qi, .inl (cI, 24, .inl ni)), (qo, .inl (cI, 16, .inl nu))]) [0, 1, 2, 3, 4, 5] (by decide) rfl
    exact W.iret (v := 27264) hx hb hr (fun t ht hW => ⟨⟨27264, (), rfl, rfl, by rw [ht]; exact hP9, va_K.moved hW.alike hK, hD9⟩, hS.F ht⟩) hS.2.2 d_Rf_grant_65
  have hf := ifn hf hc6
  refine lv_iload_n hx hb d_Rf_grant_42 rfl (lv_at hl 1 rfl) ?_
  refine lv_iload hx hb d_Rf_grant_43 (lv_at hl 0 rfl) ?_
  refine lv_iadd hx hb d_Rf_grant_45 ?_
  refine lv_bipush (v := 16) hx hb d_Rf_grant_46 (by decide) ?_
  refine lv_icmp_gt (tgt := 62) hx hb d_Rf_grant_48 rfl (fun hc7 => ?_) (fun hc7 => ?_)
  · have hf := ift hf hc7
    refine lv_sipush (v := 27264) hx hb d_Rf_grant_62 (by decide) ?_
    obtain ⟨e1_, e2_, e3_, e4_, e5_, e6_, e7_, e8_, e9_, e10_, e11_, e12_, e13_, e14_, e15_, e16_, e17_⟩ := lf17 hf
    subst e1_; subst e2_; subst e3_; subst e4_; subst e5_; subst e6_; subst e7_; subst e8_; subst e9_; subst e10_; subst e11_; subst e12_; subst e13_; subst e14_; subst e15_; subst e16_; subst e17_
    have hP9 := hP.sub (ws' := [(hq, .inr (3, [.ref qm, .ref qf, .ref ql, .int nc, .int nd, .int nf, .int na, .int nz, .int no, .int ns, .int nv, .int np, .ref qi, .int nn, .ref qo, .int nt])), (qm, .inl (cI, 104, .inl nm)), (qf, .inl (cI, 104, .inl nb)), (ql, .inl (cI, 4, .inl nl)), (qi, .inl (cI, 24, .inl ni)), (qo, .inl (cI, 16, .inl nu))]) [0, 1, 2, 3, 4, 5] rfl
    have hD9 := hD.sub (ws' := [(hq, .inr (3, [.ref qm, .ref qf, .ref ql, .int nc, .int nd, .int nf, .int na, .int nz, .int no, .int ns, .int nv, .int np, .ref qi, .int nn, .ref qo, .int nt])), (qm, .inl (cI, 104, .inl nm)), (qf, .inl (cI, 104, .inl nb)), (ql, .inl (cI, 4, .inl nl)), (qi, .inl (cI, 24, .inl ni)), (qo, .inl (cI, 16, .inl nu))]) [0, 1, 2, 3, 4, 5] (by decide) rfl
    exact W.iret (v := 27264) hx hb hr (fun t ht hW => ⟨⟨27264, (), rfl, rfl, by rw [ht]; exact hP9, va_K.moved hW.alike hK, hD9⟩, hS.F ht⟩) hS.2.2 d_Rf_grant_65
  have hf := ifn hf hc7
  refine lv_aload_n hx hb d_Rf_grant_51 rfl (lv_at hl 3 rfl) ?_
  refine va_get (D := (dC, dI)) (ci := 3) (v := .ref qi) (C := R_Rf) (T := F_Rf) (N := 16) hx hb hts inRf hown hK hP 0 rfl rfl 12 (by decide) kf27 (fun _ h9 => h9) rfl d_Rf_grant_52 ?_
  refine lv_bipush (v := 8) hx hb d_Rf_grant_55 (by decide) ?_
  obtain ⟨hin_, hf⟩ := ix_some hf
  refine va_iald hx hb hK hP 4 0 rfl rfl hin_ d_Rf_grant_57 ?_
  refine lv_iconst (v := 1) hx hb d_Rf_grant_58 (by decide) ?_
  refine lv_icmp_le (tgt := 66) hx hb d_Rf_grant_59 rfl (fun hc9 => ?_) (fun hc9 => ?_)
  · have hf := ift hf hc9
    refine lv_bipush (v := 72) hx hb d_Rf_grant_66 (by decide) ?_
    refine lv_iconst (v := 4) hx hb d_Rf_grant_68 (by decide) ?_
    refine lv_iload_n hx hb d_Rf_grant_69 rfl (lv_at hl 4 rfl) ?_
    refine lv_imul hx hb d_Rf_grant_70 ?_
    refine lv_iadd hx hb d_Rf_grant_71 ?_
    refine lv_istore hx hb d_Rf_grant_72 hl (by decide) rfl (fun ls hl => ?_)
    have hl : lv_has ls 6 [(5, .int (72 + (4 * a1))), (4, .int (ni (7 : Int32).toNatClampNeg)), (3, .int (ni (6 : Int32).toNatClampNeg)), (2, .int (ni (5 : Int32).toNatClampNeg)), (0, .ref hq), (1, .int a1)] := hl
    refine lv_aload_n hx hb d_Rf_grant_74 rfl (lv_at hl 4 rfl) ?_
    refine va_get (D := (dC, dI)) (ci := 3) (v := .ref qm) (C := R_Rf) (T := F_Rf) (N := 16) hx hb hts inRf hown hK hP 0 rfl rfl 0 (by decide) kf7 (fun _ h9 => h9) rfl d_Rf_grant_75 ?_
    refine lv_iload hx hb d_Rf_grant_78 (lv_at hl 0 rfl) ?_
    obtain ⟨hin_, hf⟩ := ix_some hf
    refine va_iald hx hb hK hP 1 0 rfl rfl hin_ d_Rf_grant_80 ?_
    refine lv_if_eq (tgt := 88) hx hb d_Rf_grant_81 rfl (fun hc11 => ?_) (fun hc11 => ?_)
    · have hf := ift hf hc11
      refine lv_aload_n hx hb d_Rf_grant_88 rfl (lv_at hl 4 rfl) ?_
      refine va_get (D := (dC, dI)) (ci := 3) (v := .ref qi) (C := R_Rf) (T := F_Rf) (N := 16) hx hb hts inRf hown hK hP 0 rfl rfl 12 (by decide) kf27 (fun _ h9 => h9) rfl d_Rf_grant_89 ?_
      refine lv_iconst (v := 5) hx hb d_Rf_grant_92 (by decide) ?_
      refine lv_iconst (v := 1) hx hb d_Rf_grant_93 (by decide) ?_
      refine lv_iconst (v := 4) hx hb d_Rf_grant_94 (by decide) ?_
      refine lv_aload_n hx hb d_Rf_grant_95 rfl (lv_at hl 4 rfl) ?_
      refine va_get (D := (dC, dI)) (ci := 3) (v := .int ns) (C := R_Rf) (T := F_Rf) (N := 16) hx hb hts inRf hown hK hP 0 rfl rfl 9 (by decide) kf23 (fun _ h9 => h9) rfl d_Rf_grant_96 ?_
      refine lv_imul hx hb d_Rf_grant_99 ?_
      refine lv_iadd hx hb d_Rf_grant_100 ?_
      refine lv_iload_n hx hb d_Rf_grant_101 rfl (lv_at hl 3 rfl) ?_
      refine lv_iadd hx hb d_Rf_grant_102 ?_
      obtain ⟨hin_, hf⟩ := ix_some hf
      refine va_iast hx hb hK hP hD hS 4 0 rfl rfl hin_ d_Rf_grant_103 (fun H locs hP hD hS => ?_)
      have hP : va_P (dC, dI) vwCl [(hq, .inr (3, [.ref qm, .ref qf, .ref ql, .int nc, .int nd, .int nf, .int na, .int nz, .int no, .int ns, .int nv, .int np, .ref qi, .int nn, .ref qo, .int nt])), (qm, .inl (cI, 104, .inl nm)), (qf, .inl (cI, 104, .inl nb)), (ql, .inl (cI, 4, .inl nl)), (qi, .inl (cI, 24, .inl (upd ni (5 : Int32).toNatClampNeg ((1 + (4 * ns)) + (ni (5 : Int32).toNatClampNeg))))), (qo, .inl (cI, 16, .inl nu))] H := hP
      have hD : va_D A [(hq, .inr (3, [.ref qm, .ref qf, .ref ql, .int nc, .int nd, .int nf, .int na, .int nz, .int no, .int ns, .int nv, .int np, .ref qi, .int nn, .ref qo, .int nt])), (qm, .inl (cI, 104, .inl nm)), (qf, .inl (cI, 104, .inl nb)), (ql, .inl (cI, 4, .inl nl)), (qi, .inl (cI, 24, .inl (upd ni (5 : Int32).toNatClampNeg ((1 + (4 * ns)) + (ni (5 : Int32).toNatClampNeg))))), (qo, .inl (cI, 16, .inl nu))] := hD
      refine lv_aload_n hx hb d_Rf_grant_104 rfl (lv_at hl 4 rfl) ?_
      refine lv_iload hx hb d_Rf_grant_105 (lv_at hl 0 rfl) ?_
      refine lv_iconst (v := 4) hx hb d_Rf_grant_107 (by decide) ?_
      obtain ⟨r13, nm13, nb13, nl13, nc13, nd13, nf13, na13, nz13, no13, ns13, nv13, np13, ni13, nn13, nu13, nt13, hg, hf⟩ := bd17_some hf
      refine xci (wr := []) (ctRf_store l dC dI cI hq qm qf ql qi qo nm nb nl nc nd nf na nz no ns nv np (upd ni (5 : Int32).toNatClampNeg ((1 + (4 * ns)) + (ni (5 : Int32).toNatClampNeg))) nn nu nt (72 + (4 * a1)) 4 r13 nm13 nb13 nl13 nc13 nd13 nf13 na13 nz13 no13 ns13 nv13 np13 ni13 nn13 nu13 nt13 hg) ⟨hx, hb, hml, hown, hts⟩ (cwV (C := R_Rf) 2 hts (gV wq526 wq528 wq33 wq46 wq529) rfl rfl rfl (by decide +kernel) ⟨Nat.le_of_ble_eq_true rfl, Nat.le_of_ble_eq_true rfl⟩) hK hP hD hS hA [0, 1, 2, 3, 4, 5] [] rfl rfl rfl rfl (by decide) (ci := 3) (q0 := 0) rfl rfl rfl rfl hl.1 rfl (Nat.le_of_ble_eq_true rfl) d_Rf_grant_108 ⟨Nat.zero_le _, Nat.zero_le _⟩ (fun H locs hP hD hS => ?_)
      have hP : va_P (dC, dI) vwCl [(hq, .inr (3, [.ref qm, .ref qf, .ref ql, .int nc13, .int nd13, .int nf13, .int na13, .int nz13, .int no13, .int ns13, .int nv13, .int np13, .ref qi, .int nn13, .ref qo, .int nt13])), (qm, .inl (cI, 104, .inl nm13)), (qf, .inl (cI, 104, .inl nb13)), (ql, .inl (cI, 4, .inl nl13)), (qi, .inl (cI, 24, .inl ni13)), (qo, .inl (cI, 16, .inl nu13))] H := hP
      have hD : va_D A [(hq, .inr (3, [.ref qm, .ref qf, .ref ql, .int nc13, .int nd13, .int nf13, .int na13, .int nz13, .int no13, .int ns13, .int nv13, .int np13, .ref qi, .int nn13, .ref qo, .int nt13])), (qm, .inl (cI, 104, .inl nm13)), (qf, .inl (cI, 104, .inl nb13)), (ql, .inl (cI, 4, .inl nl13)), (qi, .inl (cI, 24, .inl ni13)), (qo, .inl (cI, 16, .inl nu13))] := hD
      obtain ⟨e1_, e2_, e3_, e4_, e5_, e6_, e7_, e8_, e9_, e10_, e11_, e12_, e13_, e14_, e15_, e16_, e17_⟩ := lf17 hf
      subst e1_; subst e2_; subst e3_; subst e4_; subst e5_; subst e6_; subst e7_; subst e8_; subst e9_; subst e10_; subst e11_; subst e12_; subst e13_; subst e14_; subst e15_; subst e16_; subst e17_
      have hP9 := hP.sub (ws' := [(hq, .inr (3, [.ref qm, .ref qf, .ref ql, .int nc13, .int nd13, .int nf13, .int na13, .int nz13, .int no13, .int ns13, .int nv13, .int np13, .ref qi, .int nn13, .ref qo, .int nt13])), (qm, .inl (cI, 104, .inl nm13)), (qf, .inl (cI, 104, .inl nb13)), (ql, .inl (cI, 4, .inl nl13)), (qi, .inl (cI, 24, .inl ni13)), (qo, .inl (cI, 16, .inl nu13))]) [0, 1, 2, 3, 4, 5] rfl
      have hD9 := hD.sub (ws' := [(hq, .inr (3, [.ref qm, .ref qf, .ref ql, .int nc13, .int nd13, .int nf13, .int na13, .int nz13, .int no13, .int ns13, .int nv13, .int np13, .ref qi, .int nn13, .ref qo, .int nt13])), (qm, .inl (cI, 104, .inl nm13)), (qf, .inl (cI, 104, .inl nb13)), (ql, .inl (cI, 4, .inl nl13)), (qi, .inl (cI, 24, .inl ni13)), (qo, .inl (cI, 16, .inl nu13))]) [0, 1, 2, 3, 4, 5] (by decide) rfl
      exact W.iret (v := r13) hx hb hr (fun t ht hW => ⟨⟨r13, (), rfl, rfl, by rw [ht]; exact hP9, va_K.moved hW.alike hK, hD9⟩, hS.F ht⟩) hS.2.2 d_Rf_grant_111
    have hf := ifn hf hc11
    refine lv_sipush (v := 27273) hx hb d_Rf_grant_84 (by decide) ?_
    obtain ⟨e1_, e2_, e3_, e4_, e5_, e6_, e7_, e8_, e9_, e10_, e11_, e12_, e13_, e14_, e15_, e16_, e17_⟩ := lf17 hf
    subst e1_; subst e2_; subst e3_; subst e4_; subst e5_; subst e6_; subst e7_; subst e8_; subst e9_; subst e10_; subst e11_; subst e12_; subst e13_; subst e14_; subst e15_; subst e16_; subst e17_
    have hP9 := hP.sub (ws' := [(hq, .inr (3, [.ref qm, .ref qf, .ref ql, .int nc, .int nd, .int nf, .int na, .int nz, .int no, .int ns, .int nv, .int np, .ref qi, .int nn, .ref qo, .int nt])), (qm, .inl (cI, 104, .inl nm)), (qf, .inl (cI, 104, .inl nb)), (ql, .inl (cI, 4, .inl nl)), (qi, .inl (cI, 24, .inl ni)), (qo, .inl (cI, 16, .inl nu))]) [0, 1, 2, 3, 4, 5] rfl
    have hD9 := hD.sub (ws' := [(hq, .inr (3, [.ref qm, .ref qf, .ref ql, .int nc, .int nd, .int nf, .int na, .int nz, .int no, .int ns, .int nv, .int np, .ref qi, .int nn, .ref qo, .int nt])), (qm, .inl (cI, 104, .inl nm)), (qf, .inl (cI, 104, .inl nb)), (ql, .inl (cI, 4, .inl nl)), (qi, .inl (cI, 24, .inl ni)), (qo, .inl (cI, 16, .inl nu))]) [0, 1, 2, 3, 4, 5] (by decide) rfl
    exact W.iret (v := 27273) hx hb hr (fun t ht hW => ⟨⟨27273, (), rfl, rfl, by rw [ht]; exact hP9, va_K.moved hW.alike hK, hD9⟩, hS.F ht⟩) hS.2.2 d_Rf_grant_87
  have hf := ifn hf hc9
  refine lv_sipush (v := 27264) hx hb d_Rf_grant_62 (by decide) ?_
  obtain ⟨e1_, e2_, e3_, e4_, e5_, e6_, e7_, e8_, e9_, e10_, e11_, e12_, e13_, e14_, e15_, e16_, e17_⟩ := lf17 hf
  subst e1_; subst e2_; subst e3_; subst e4_; subst e5_; subst e6_; subst e7_; subst e8_; subst e9_; subst e10_; subst e11_; subst e12_; subst e13_; subst e14_; subst e15_; subst e16_; subst e17_
  have hP9 := hP.sub (ws' := [(hq, .inr (3, [.ref qm, .ref qf, .ref ql, .int nc, .int nd, .int nf, .int na, .int nz, .int no, .int ns, .int nv, .int np, .ref qi, .int nn, .ref qo, .int nt])), (qm, .inl (cI, 104, .inl nm)), (qf, .inl (cI, 104, .inl nb)), (ql, .inl (cI, 4, .inl nl)), (qi, .inl (cI, 24, .inl ni)), (qo, .inl (cI, 16, .inl nu))]) [0, 1, 2, 3, 4, 5] rfl
  have hD9 := hD.sub (ws' := [(hq, .inr (3, [.ref qm, .ref qf, .ref ql, .int nc, .int nd, .int nf, .int na, .int nz, .int no, .int ns, .int nv, .int np, .ref qi, .int nn, .ref qo, .int nt])), (qm, .inl (cI, 104, .inl nm)), (qf, .inl (cI, 104, .inl nb)), (ql, .inl (cI, 4, .inl nl)), (qi, .inl (cI, 24, .inl ni)), (qo, .inl (cI, 16, .inl nu))]) [0, 1, 2, 3, 4, 5] (by decide) rfl
  exact W.iret (v := 27264) hx hb hr (fun t ht hW => ⟨⟨27264, (), rfl, rfl, by rw [ht]; exact hP9, va_K.moved hW.alike hK, hD9⟩, hS.F ht⟩) hS.2.2 d_Rf_grant_65
