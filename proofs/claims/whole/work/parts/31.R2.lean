theorem d_Rf_placesWrong_0 : decode b_Rf_placesWrong 0 = .ok (.iload_n 1, 1) := by decide +kernel
theorem d_Rf_placesWrong_1 : decode b_Rf_placesWrong 1 = .ok (.bipush 44, 2) := by decide +kernel
theorem d_Rf_placesWrong_3 : decode b_Rf_placesWrong 3 = .ok (.if_icmp .ne 7, 3) := by decide +kernel
theorem d_Rf_placesWrong_6 : decode b_Rf_placesWrong 6 = .ok (.iconst 3, 1) := by decide +kernel
theorem d_Rf_placesWrong_7 : decode b_Rf_placesWrong 7 = .ok (.goto 47, 3) := by decide +kernel
theorem d_Rf_placesWrong_10 : decode b_Rf_placesWrong 10 = .ok (.iload_n 1, 1) := by decide +kernel
theorem d_Rf_placesWrong_11 : decode b_Rf_placesWrong 11 = .ok (.bipush 114, 2) := by decide +kernel
theorem d_Rf_placesWrong_13 : decode b_Rf_placesWrong 13 = .ok (.if_icmp .ne 7, 3) := by decide +kernel
theorem d_Rf_placesWrong_16 : decode b_Rf_placesWrong 16 = .ok (.iconst 1, 1) := by decide +kernel
theorem d_Rf_placesWrong_17 : decode b_Rf_placesWrong 17 = .ok (.goto 37, 3) := by decide +kernel
theorem d_Rf_placesWrong_20 : decode b_Rf_placesWrong 20 = .ok (.iload_n 1, 1) := by decide +kernel
theorem d_Rf_placesWrong_21 : decode b_Rf_placesWrong 21 = .ok (.sipush 226, 3) := by decide +kernel
theorem d_Rf_placesWrong_24 : decode b_Rf_placesWrong 24 = .ok (.if_icmp .eq 24, 3) := by decide +kernel
theorem d_Rf_placesWrong_27 : decode b_Rf_placesWrong 27 = .ok (.iload_n 1, 1) := by decide +kernel
theorem d_Rf_placesWrong_28 : decode b_Rf_placesWrong 28 = .ok (.sipush 228, 3) := by decide +kernel
theorem d_Rf_placesWrong_31 : decode b_Rf_placesWrong 31 = .ok (.if_icmp .eq 17, 3) := by decide +kernel
theorem d_Rf_placesWrong_34 : decode b_Rf_placesWrong 34 = .ok (.iload_n 1, 1) := by decide +kernel
theorem d_Rf_placesWrong_35 : decode b_Rf_placesWrong 35 = .ok (.sipush 178, 3) := by decide +kernel
theorem d_Rf_placesWrong_38 : decode b_Rf_placesWrong 38 = .ok (.if_icmp .eq 10, 3) := by decide +kernel
theorem d_Rf_placesWrong_41 : decode b_Rf_placesWrong 41 = .ok (.iload_n 1, 1) := by decide +kernel
theorem d_Rf_placesWrong_42 : decode b_Rf_placesWrong 42 = .ok (.sipush 220, 3) := by decide +kernel
theorem d_Rf_placesWrong_45 : decode b_Rf_placesWrong 45 = .ok (.if_icmp .ne 8, 3) := by decide +kernel
theorem d_Rf_placesWrong_48 : decode b_Rf_placesWrong 48 = .ok (.bipush 7, 2) := by decide +kernel
theorem d_Rf_placesWrong_50 : decode b_Rf_placesWrong 50 = .ok (.goto 4, 3) := by decide +kernel
theorem d_Rf_placesWrong_53 : decode b_Rf_placesWrong 53 = .ok (.iconst 0, 1) := by decide +kernel
theorem d_Rf_placesWrong_54 : decode b_Rf_placesWrong 54 = .ok (.istore_n 2, 1) := by decide +kernel
theorem d_Rf_placesWrong_55 : decode b_Rf_placesWrong 55 = .ok (.iload_n 1, 1) := by decide +kernel
theorem d_Rf_placesWrong_56 : decode b_Rf_placesWrong 56 = .ok (.sipush 176, 3) := by decide +kernel
theorem d_Rf_placesWrong_59 : decode b_Rf_placesWrong 59 = .ok (.if_icmp .eq 24, 3) := by decide +kernel
theorem d_Rf_placesWrong_62 : decode b_Rf_placesWrong 62 = .ok (.iload_n 1, 1) := by decide +kernel
theorem d_Rf_placesWrong_63 : decode b_Rf_placesWrong 63 = .ok (.sipush 214, 3) := by decide +kernel
theorem d_Rf_placesWrong_66 : decode b_Rf_placesWrong 66 = .ok (.if_icmp .eq 17, 3) := by decide +kernel
theorem d_Rf_placesWrong_69 : decode b_Rf_placesWrong 69 = .ok (.iload_n 1, 1) := by decide +kernel
theorem d_Rf_placesWrong_70 : decode b_Rf_placesWrong 70 = .ok (.sipush 178, 3) := by decide +kernel
theorem d_Rf_placesWrong_73 : decode b_Rf_placesWrong 73 = .ok (.if_icmp .eq 10, 3) := by decide +kernel
theorem d_Rf_placesWrong_76 : decode b_Rf_placesWrong 76 = .ok (.iload_n 1, 1) := by decide +kernel
theorem d_Rf_placesWrong_77 : decode b_Rf_placesWrong 77 = .ok (.sipush 220, 3) := by decide +kernel
theorem d_Rf_placesWrong_80 : decode b_Rf_placesWrong 80 = .ok (.if_icmp .ne 7, 3) := by decide +kernel
theorem d_Rf_placesWrong_83 : decode b_Rf_placesWrong 83 = .ok (.iconst 1, 1) := by decide +kernel
theorem d_Rf_placesWrong_84 : decode b_Rf_placesWrong 84 = .ok (.goto 4, 3) := by decide +kernel
theorem d_Rf_placesWrong_87 : decode b_Rf_placesWrong 87 = .ok (.iconst 0, 1) := by decide +kernel
theorem d_Rf_placesWrong_88 : decode b_Rf_placesWrong 88 = .ok (.istore_n 3, 1) := by decide +kernel
theorem d_Rf_placesWrong_89 : decode b_Rf_placesWrong 89 = .ok (.aload_n 0, 1) := by decide +kernel
theorem d_Rf_placesWrong_90 : decode b_Rf_placesWrong 90 = .ok (.getfield 27, 3) := by decide +kernel
theorem d_Rf_placesWrong_93 : decode b_Rf_placesWrong 93 = .ok (.iconst 2, 1) := by decide +kernel
theorem d_Rf_placesWrong_94 : decode b_Rf_placesWrong 94 = .ok (.iaload, 1) := by decide +kernel
theorem d_Rf_placesWrong_95 : decode b_Rf_placesWrong 95 = .ok (.iload_n 2, 1) := by decide +kernel
theorem d_Rf_placesWrong_96 : decode b_Rf_placesWrong 96 = .ok (.if_icmp .gt 16, 3) := by decide +kernel
theorem d_Rf_placesWrong_99 : decode b_Rf_placesWrong 99 = .ok (.iload_n 3, 1) := by decide +kernel
theorem d_Rf_placesWrong_100 : decode b_Rf_placesWrong 100 = .ok (.ifCond .ne 16, 3) := by decide +kernel
theorem d_Rf_placesWrong_103 : decode b_Rf_placesWrong 103 = .ok (.aload_n 0, 1) := by decide +kernel
theorem d_Rf_placesWrong_104 : decode b_Rf_placesWrong 104 = .ok (.getfield 27, 3) := by decide +kernel
theorem d_Rf_placesWrong_107 : decode b_Rf_placesWrong 107 = .ok (.iconst 3, 1) := by decide +kernel
theorem d_Rf_placesWrong_108 : decode b_Rf_placesWrong 108 = .ok (.iaload, 1) := by decide +kernel
theorem d_Rf_placesWrong_109 : decode b_Rf_placesWrong 109 = .ok (.ifCond .eq 7, 3) := by decide +kernel
theorem d_Rf_placesWrong_112 : decode b_Rf_placesWrong 112 = .ok (.iconst 1, 1) := by decide +kernel
theorem d_Rf_placesWrong_113 : decode b_Rf_placesWrong 113 = .ok (.goto 4, 3) := by decide +kernel
theorem d_Rf_placesWrong_116 : decode b_Rf_placesWrong 116 = .ok (.iconst 0, 1) := by decide +kernel
theorem d_Rf_placesWrong_117 : decode b_Rf_placesWrong 117 = .ok (.ireturn, 1) := by decide +kernel
def fRf_placesWrong (σ : StR) (a1 : Int32) : Option (Int32) := match σ with | (nm, nb, nl, nc, nd, nf, na, nz, no, ns, nv, np, ni, nn, nu, nt) => if a1 = 44 then (if a1 = 176 then (ix 2 24 fun j182 => if 3 < (ni j182) then (some 1) else (if (1 : Int32) = 0 then (ix 3 24 fun j185 => if (ni j185) = 0 then (some 0) else (some 1)) else (some 0))) else (if a1 = 214 then (ix 2 24 fun j188 => if 3 < (ni j188) then (some 1) else (if (1 : Int32) = 0 then (ix 3 24 fun j191 => if (ni j191) = 0 then (some 0) else (some 1)) else (some 0))) else (if a1 = 178 then (ix 2 24 fun j194 => if 3 < (ni j194) then (some 1) else (if (1 : Int32) = 0 then (ix 3 24 fun j197 => if (ni j197) = 0 then (some 0) else (some 1)) else (some 0))) else (if a1 = 220 then (ix 2 24 fun j205 => if 3 < (ni j205) then (some 1) else (if (1 : Int32) = 0 then (ix 3 24 fun j208 => if (ni j208) = 0 then (some 0) else (some 1)) else (some 0))) else (ix 2 24 fun j200 => if 3 < (ni j200) then (some 1) else (if (0 : Int32) = 0 then (ix 3 24 fun j203 => if (ni j203) = 0 then (some 0) else (some 1)) else (some 0))))))) else (if a1 = 114 then (if a1 = 176 then (ix 2 24 fun j153 => if 1 < (ni j153) then (some 1) else (if (1 : Int32) = 0 then (ix 3 24 fun j156 => if (ni j156) = 0 then (some 0) else (some 1)) else (some 0))) else (if a1 = 214 then (ix 2 24 fun j159 => if 1 < (ni j159) then (some 1) else (if (1 : Int32) = 0 then (ix 3 24 fun j162 => if (ni j162) = 0 then (some 0) else (some 1)) else (some 0))) else (if a1 = 178 then (ix 2 24 fun j165 => if 1 < (ni j165) then (some 1) else (if (1 : Int32) = 0 then (ix 3 24 fun j168 => if (ni j168) = 0 then (some 0) else (some 1)) else (some 0))) else (if a1 = 220 then (ix 2 24 fun j176 => if 1 < (ni j176) then (some 1) else (if (1 : Int32) = 0 then (ix 3 24 fun j179 => if (ni j179) = 0 then (some 0) else (some 1)) else (some 0))) else (ix 2 24 fun j171 => if 1 < (ni j171) then (some 1) else (if (0 : Int32) = 0 then (ix 3 24 fun j174 => if (ni j174) = 0 then (some 0) else (some 1)) else (some 0))))))) else (if a1 = 226 then (if a1 = 176 then (ix 2 24 fun j5 => if 7 < (ni j5) then (some 1) else (if (1 : Int32) = 0 then (ix 3 24 fun j8 => if (ni j8) = 0 then (some 0) else (some 1)) else (some 0))) else (if a1 = 214 then (ix 2 24 fun j11 => if 7 < (ni j11) then (some 1) else (if (1 : Int32) = 0 then (ix 3 24 fun j14 => if (ni j14) = 0 then (some 0) else (some 1)) else (some 0))) else (if a1 = 178 then (ix 2 24 fun j17 => if 7 < (ni j17) then (some 1) else (if (1 : Int32) = 0 then (ix 3 24 fun j20 => if (ni j20) = 0 then (some 0) else (some 1)) else (some 0))) else (if a1 = 220 then (ix 2 24 fun j28 => if 7 < (ni j28) then (some 1) else (if (1 : Int32) = 0 then (ix 3 24 fun j31 => if (ni j31) = 0 then (some 0) else (some 1)) else (some 0))) else (ix 2 24 fun j23 => if 7 < (ni j23) then (some 1) else (if (0 : Int32) = 0 then (ix 3 24 fun j26 => if (ni j26) = 0 then (some 0) else (some 1)) else (some 0))))))) else (if a1 = 228 then (if a1 = 176 then (ix 2 24 fun j35 => if 7 < (ni j35) then (some 1) else (if (1 : Int32) = 0 then (ix 3 24 fun j38 => if (ni j38) = 0 then (some 0) else (some 1)) else (some 0))) else (if a1 = 214 then (ix 2 24 fun j41 => if 7 < (ni j41) then (some 1) else (if (1 : Int32) = 0 then (ix 3 24 fun j44 => if (ni j44) = 0 then (some 0) else (some 1)) else (some 0))) else (if a1 = 178 then (ix 2 24 fun j47 => if 7 < (ni j47) then (some 1) else (if (1 : Int32) = 0 then (ix 3 24 fun j50 => if (ni j50) = 0 then (some 0) else (some 1)) else (some 0))) else (if a1 = 220 then (ix 2 24 fun j58 => if 7 < (ni j58) then (some 1) else (if (1 : Int32) = 0 then (ix 3 24 fun j61 => if (ni j61) = 0 then (some 0) else (some 1)) else (some 0))) else (ix 2 24 fun j53 => if 7 < (ni j53) then (some 1) else (if (0 : Int32) = 0 then (ix 3 24 fun j56 => if (ni j56) = 0 then (some 0) else (some 1)) else (some 0))))))) else (if a1 = 178 then (if a1 = 176 then (ix 2 24 fun j65 => if 7 < (ni j65) then (some 1) else (if (1 : Int32) = 0 then (ix 3 24 fun j68 => if (ni j68) = 0 then (some 0) else (some 1)) else (some 0))) else (if a1 = 214 then (ix 2 24 fun j71 => if 7 < (ni j71) then (some 1) else (if (1 : Int32) = 0 then (ix 3 24 fun j74 => if (ni j74) = 0 then (some 0) else (some 1)) else (some 0))) else (if a1 = 178 then (ix 2 24 fun j77 => if 7 < (ni j77) then (some 1) else (if (1 : Int32) = 0 then (ix 3 24 fun j80 => if (ni j80) = 0 then (some 0) else (some 1)) else (some 0))) else (if a1 = 220 then (ix 2 24 fun j88 => if 7 < (ni j88) then (some 1) else (if (1 : Int32) = 0 then (ix 3 24 fun j91 => if (ni j91) = 0 then (some 0) else (some 1)) else (some 0))) else (ix 2 24 fun j83 => if 7 < (ni j83) then (some 1) else (if (0 : Int32) = 0 then (ix 3 24 fun j86 => if (ni j86) = 0 then (some 0) else (some 1)) else (some 0))))))) else (if a1 = 220 then (if a1 = 176 then (ix 2 24 fun j124 => if 7 < (ni j124) then (some 1) else (if (1 : Int32) = 0 then (ix 3 24 fun j127 => if (ni j127) = 0 then (some 0) else (some 1)) else (some 0))) else (if a1 = 214 then (ix 2 24 fun j130 => if 7 < (ni j130) then (some 1) else (if (1 : Int32) = 0 then (ix 3 24 fun j133 => if (ni j133) = 0 then (some 0) else (some 1)) else (some 0))) else (if a1 = 178 then (ix 2 24 fun j136 => if 7 < (ni j136) then (some 1) else (if (1 : Int32) = 0 then (ix 3 24 fun j139 => if (ni j139) = 0 then (some 0) else (some 1)) else (some 0))) else (if a1 = 220 then (ix 2 24 fun j147 => if 7 < (ni j147) then (some 1) else (if (1 : Int32) = 0 then (ix 3 24 fun j150 => if (ni j150) = 0 then (some 0) else (some 1)) else (some 0))) else (ix 2 24 fun j142 => if 7 < (ni j142) then (some 1) else (if (0 : Int32) = 0 then (ix 3 24 fun j145 => if (ni j145) = 0 then (some 0) else (some 1)) else (some 0))))))) else (if a1 = 176 then (ix 2 24 fun j95 => if 0 < (ni j95) then (some 1) else (if (1 : Int32) = 0 then (ix 3 24 fun j98 => if (ni j98) = 0 then (some 0) else (some 1)) else (some 0))) else (if a1 = 214 then (ix 2 24 fun j101 => if 0 < (ni j101) then (some 1) else (if (1 : Int32) = 0 then (ix 3 24 fun j104 => if (ni j104) = 0 then (some 0) else (some 1)) else (some 0))) else (if a1 = 178 then (ix 2 24 fun j107 => if 0 < (ni j107) then (some 1) else (if (1 : Int32) = 0 then (ix 3 24 fun j110 => if (ni j110) = 0 then (some 0) else (some 1)) else (some 0))) else (if a1 = 220 then (ix 2 24 fun j118 => if 0 < (ni j118) then (some 1) else (if (1 : Int32) = 0 then (ix 3 24 fun j121 => if (ni j121) = 0 then (some 0) else (some 1)) else (some 0))) else (ix 2 24 fun j113 => if 0 < (ni j113) then (some 1) else (if (0 : Int32) = 0 then (ix 3 24 fun j116 => if (ni j116) = 0 then (some 0) else (some 1)) else (some 0))))))))))))
set_option maxHeartbeats 4000000 in
set_option maxRecDepth 100000 in
theorem ctRf_placesWrong (l : Launch) (dC : Nat → ClassId) (dI : Nat → Nat → Nat) (cI : ClassId) (hq qm qf ql qi qo : Nat) (nm : Nat → Int32) (nb : Nat → Int32) (nl : Nat → Int32) (nc : Int32) (nd : Int32) (nf : Int32) (na : Int32) (nz : Int32) (no : Int32) (ns : Int32) (nv : Int32) (np : Int32) (ni : Nat → Int32) (nn : Int32) (nu : Nat → Int32) (nt : Int32) (a1 : Int32) (r : Int32) (hf : fRf_placesWrong (nm, nb, nl, nc, nd, nf, na, nz, no, ns, nv, np, ni, nn, nu, nt) a1 = some r) : CtZ l y_Rf_placesWrong w_Rf_placesWrong ({ frames := 0, cells := 0, slots := 0, locals := 0 }) (dC, dI) [(cI, .int)] [.ref hq, .int a1] [(hq, .inr (3, [.ref qm, .ref qf, .ref ql, .int nc, .int nd, .int nf, .int na, .int nz, .int no, .int ns, .int nv, .int np, .ref qi, .int nn, .ref qo, .int nt])), (qm, .inl (cI, 104, .inl nm)), (qf, .inl (cI, 104, .inl nb)), (ql, .inl (cI, 4, .inl nl)), (qi, .inl (cI, 24, .inl ni)), (qo, .inl (cI, 16, .inl nu))] [(hq, .inr (3, [.ref qm, .ref qf, .ref ql, .int nc, .int nd, .int nf, .int na, .int nz, .int no, .int ns, .int nv, .int np, .ref qi, .int nn, .ref qo, .int nt])), (qm, .inl (cI, 104, .inl nm)), (qf, .inl (cI, 104, .inl nb)), (ql, .inl (cI, 4, .inl nl)), (qi, .inl (cI, 24, .inl ni)), (qo, .inl (cI, 16, .inl nu))] r := by
  intro sz
  refine Met.ofW (cc := b_Rf_placesWrong) (maxL := 4) (ret := some .boolean) (by decide) rfl ?_
  intro p e s m args below meth c s₁ B hml hv
  obtain ⟨rfl, hsz, hP, hK, hD0⟩ := hv
  have hx := B.exec
  have hb := B.bytes
  have hr := B.returns
  have hts := atoms_spec (ws := w_Rf_placesWrong) B.pre
  have hown : s.vm.findClass R_Rf = some m.cls := findClass_of_methodNamed B.named
  have hlocks := B.notSynchronized
  subst hsz
  have hD := hD0.self (sz := s.heap.size)
  generalize hAe : va_A [(hq, .inr (3, [.ref qm, .ref qf, .ref ql, .int nc, .int nd, .int nf, .int na, .int nz, .int no, .int ns, .int nv, .int np, .ref qi, .int nn, .ref qo, .int nt])), (qm, .inl (cI, 104, .inl nm)), (qf, .inl (cI, 104, .inl nb)), (ql, .inl (cI, 4, .inl nl)), (qi, .inl (cI, 24, .inl ni)), (qo, .inl (cI, 16, .inl nu))] s.heap.size = A at hD ⊢
  have hA : ∀ q : Nat, s.heap.size ≤ q → A q := fun q h => by rw [← hAe]; exact Or.inr h
  have hS : va_S A s.heap s.heap [] := va_S.rf
  have hP : va_P (dC, dI) vwCl [(hq, .inr (3, [.ref qm, .ref qf, .ref ql, .int nc, .int nd, .int nf, .int na, .int nz, .int no, .int ns, .int nv, .int np, .ref qi, .int nn, .ref qo, .int nt])), (qm, .inl (cI, 104, .inl nm)), (qf, .inl (cI, 104, .inl nb)), (ql, .inl (cI, 4, .inl nl)), (qi, .inl (cI, 24, .inl ni)), (qo, .inl (cI, 16, .inl nu))] s.heap := hP
  have hl := lv_entry ([.ref hq, .int a1]) (n := 4) (Nat.le_of_ble_eq_true rfl)
  rw [lg_entry_eq]
  generalize (lg_sl ([.ref hq, .int a1]) ++ List.replicate (4 - (lg_sl ([.ref hq, .int a1])).length) Slot.unset).toArray = ls at hl ⊢
  have hl : lv_has ls 4 [(0, .ref hq), (1, .int a1)] := hl
  have inRf : ∀ w ∈ u_ws R_Rf F_Rf 16, w ∈ w_Rf_placesWrong := fun w h => List.mem_cons_of_mem _ (in_Rf w h)
  have kf27 := hts _ (List.mem_cons_of_mem _ wq418)
  rw [fRf_placesWrong] at hf
  refine lv_iload_n hx hb d_Rf_placesWrong_0 rfl (lv_at hl 1 rfl) ?_
  refine lv_bipush (v := 44) hx hb d_Rf_placesWrong_1 (by decide) ?_
  refine lv_icmp_ne (tgt := 10) hx hb d_Rf_placesWrong_3 rfl (fun hc1 => ?_) (fun hc1 => ?_)
  · have hf := ifn hf hc1
    refine lv_iload_n hx hb d_Rf_placesWrong_10 rfl (lv_at hl 1 rfl) ?_
    refine lv_bipush (v := 114) hx hb d_Rf_placesWrong_11 (by decide) ?_
    refine lv_icmp_ne (tgt := 20) hx hb d_Rf_placesWrong_13 rfl (fun hc2 => ?_) (fun hc2 => ?_)
    · have hf := ifn hf hc2
      refine lv_iload_n hx hb d_Rf_placesWrong_20 rfl (lv_at hl 1 rfl) ?_
      refine lv_sipush (v := 226) hx hb d_Rf_placesWrong_21 (by decide) ?_
      refine lv_icmp_eq (tgt := 48) hx hb d_Rf_placesWrong_24 rfl (fun hc3 => ?_) (fun hc3 => ?_)
      · have hf := ift hf hc3
        refine lv_bipush (v := 7) hx hb d_Rf_placesWrong_48 (by decide) ?_
        refine lv_goto (tgt := 54) hx hb d_Rf_placesWrong_50 rfl ?_
        refine lv_istore_n hx hb d_Rf_placesWrong_54 rfl hl (by decide) rfl (fun ls hl => ?_)
        have hl : lv_has ls 4 [(2, .int 7), (0, .ref hq), (1, .int a1)] := hl
        refine lv_iload_n hx hb d_Rf_placesWrong_55 rfl (lv_at hl 2 rfl) ?_
        refine lv_sipush (v := 176) hx hb d_Rf_placesWrong_56 (by decide) ?_
        refine lv_icmp_eq (tgt := 83) hx hb d_Rf_placesWrong_59 rfl (fun hc4 => ?_) (fun hc4 => ?_)
        · have hf := ift hf hc4
          refine lv_iconst (v := 1) hx hb d_Rf_placesWrong_83 (by decide) ?_
          refine lv_goto (tgt := 88) hx hb d_Rf_placesWrong_84 rfl ?_
          refine lv_istore_n hx hb d_Rf_placesWrong_88 rfl hl (by decide) rfl (fun ls hl => ?_)
          have hl : lv_has ls 4 [(3, .int 1), (2, .int 7), (0, .ref hq), (1, .int a1)] := hl
          refine lv_aload_n hx hb d_Rf_placesWrong_89 rfl (lv_at hl 2 rfl) ?_
          refine va_get (D := (dC, dI)) (ci := 3) (v := .ref qi) (C := R_Rf) (T := F_Rf) (N := 16) hx hb hts inRf hown hK hP 0 rfl rfl 12 (by decide) kf27 (fun _ h9 => h9) rfl d_Rf_placesWrong_90 ?_
          refine lv_iconst (v := 2) hx hb d_Rf_placesWrong_93 (by decide) ?_
          obtain ⟨hin_, hf⟩ := ix_some hf
          refine va_iald hx hb hK hP 4 0 rfl rfl hin_ d_Rf_placesWrong_94 ?_
          refine lv_iload_n hx hb d_Rf_placesWrong_95 rfl (lv_at hl 1 rfl) ?_
          refine lv_icmp_gt (tgt := 112) hx hb d_Rf_placesWrong_96 rfl (fun hc6 => ?_) (fun hc6 => ?_)
          · have hf := ift hf hc6
            refine lv_iconst (v := 1) hx hb d_Rf_placesWrong_112 (by decide) ?_
            refine lv_goto (tgt := 117) hx hb d_Rf_placesWrong_113 rfl ?_
            have e1_ := lf1 hf
            subst e1_
            have hP9 := hP.sub (ws' := [(hq, .inr (3, [.ref qm, .ref qf, .ref ql, .int nc, .int nd, .int nf, .int na, .int nz, .int no, .int ns, .int nv, .int np, .ref qi, .int nn, .ref qo, .int nt])), (qm, .inl (cI, 104, .inl nm)), (qf, .inl (cI, 104, .inl nb)), (ql, .inl (cI, 4, .inl nl)), (qi, .inl (cI, 24, .inl ni)), (qo, .inl (cI, 16, .inl nu))]) [0, 1, 2, 3, 4, 5] rfl
            have hD9 := hD.sub (ws' := [(hq, .inr (3, [.ref qm, .ref qf, .ref ql, .int nc, .int nd, .int nf, .int na, .int nz, .int no, .int ns, .int nv, .int np, .ref qi, .int nn, .ref qo, .int nt])), (qm, .inl (cI, 104, .inl nm)), (qf, .inl (cI, 104, .inl nb)), (ql, .inl (cI, 4, .inl nl)), (qi, .inl (cI, 24, .inl ni)), (qo, .inl (cI, 16, .inl nu))]) [0, 1, 2, 3, 4, 5] (by decide) rfl
            exact W.zret (v := 1) (ty := .boolean) hx hb hr rfl (fun t ht hW => ⟨⟨1, (), rfl, ⟨rfl, rfl⟩, by rw [ht]; exact hP9, va_K.moved hW.alike hK, hD9⟩, hS.F ht⟩) hS.2.2 d_Rf_placesWrong_117
          have hf := ifn hf hc6
          refine lv_iload_n hx hb d_Rf_placesWrong_99 rfl (lv_at hl 0 rfl) ?_
          refine lv_if_ne (tgt := 116) hx hb d_Rf_placesWrong_100 rfl (fun hc7 => ?_) (fun hc7 => ?_)
          · have hf := ifn hf hc7
            refine lv_iconst (v := 0) hx hb d_Rf_placesWrong_116 (by decide) ?_
            have e1_ := lf1 hf
            subst e1_
            have hP9 := hP.sub (ws' := [(hq, .inr (3, [.ref qm, .ref qf, .ref ql, .int nc, .int nd, .int nf, .int na, .int nz, .int no, .int ns, .int nv, .int np, .ref qi, .int nn, .ref qo, .int nt])), (qm, .inl (cI, 104, .inl nm)), (qf, .inl (cI, 104, .inl nb)), (ql, .inl (cI, 4, .inl nl)), (qi, .inl (cI, 24, .inl ni)), (qo, .inl (cI, 16, .inl nu))]) [0, 1, 2, 3, 4, 5] rfl
            have hD9 := hD.sub (ws' := [(hq, .inr (3, [.ref qm, .ref qf, .ref ql, .int nc, .int nd, .int nf, .int na, .int nz, .int no, .int ns, .int nv, .int np, .ref qi, .int nn, .ref qo, .int nt])), (qm, .inl (cI, 104, .inl nm)), (qf, .inl (cI, 104, .inl nb)), (ql, .inl (cI, 4, .inl nl)), (qi, .inl (cI, 24, .inl ni)), (qo, .inl (cI, 16, .inl nu))]) [0, 1, 2, 3, 4, 5] (by decide) rfl
            exact W.zret (v := 0) (ty := .boolean) hx hb hr rfl (fun t ht hW => ⟨⟨0, (), rfl, ⟨rfl, rfl⟩, by rw [ht]; exact hP9, va_K.moved hW.alike hK, hD9⟩, hS.F ht⟩) hS.2.2 d_Rf_placesWrong_117
          have hf := ift hf hc7
          refine lv_aload_n hx hb d_Rf_placesWrong_103 rfl (lv_at hl 2 rfl) ?_
          refine va_get (D := (dC, dI)) (ci := 3) (v := .ref qi) (C := R_Rf) (T := F_Rf) (N := 16) hx hb hts inRf hown hK hP 0 rfl rfl 12 (by decide) kf27 (fun _ h9 => h9) rfl d_Rf_placesWrong_104 ?_
          refine lv_iconst (v := 3) hx hb d_Rf_placesWrong_107 (by decide) ?_
          obtain ⟨hin_, hf⟩ := ix_some hf
          refine va_iald hx hb hK hP 4 0 rfl rfl hin_ d_Rf_placesWrong_108 ?_
          refine lv_if_eq (tgt := 116) hx hb d_Rf_placesWrong_109 rfl (fun hc9 => ?_) (fun hc9 => ?_)
          · have hf := ift hf hc9
            refine lv_iconst (v := 0) hx hb d_Rf_placesWrong_116 (by decide) ?_
            have e1_ := lf1 hf
            subst e1_
            have hP9 := hP.sub (ws' := [(hq, .inr (3, [.ref qm, .ref qf, .ref ql, .int nc, .int nd, .int nf, .int na, .int nz, .int no, .int ns, .int nv, .int np, .ref qi, .int nn, .ref qo, .int nt])), (qm, .inl (cI, 104, .inl nm)), (qf, .inl (cI, 104, .inl nb)), (ql, .inl (cI, 4, .inl nl)), (qi, .inl (cI, 24, .inl ni)), (qo, .inl (cI, 16, .inl nu))]) [0, 1, 2, 3, 4, 5] rfl
            have hD9 := hD.sub (ws' := [(hq, .inr (3, [.ref qm, .ref qf, .ref ql, .int nc, .int nd, .int nf, .int na, .int nz, .int no, .int ns, .int nv, .int np, .ref qi, .int nn, .ref qo, .int nt])), (qm, .inl (cI, 104, .inl nm)), (qf, .inl (cI, 104, .inl nb)), (ql, .inl (cI, 4, .inl nl)), (qi, .inl (cI, 24, .inl ni)), (qo, .inl (cI, 16, .inl nu))]) [0, 1, 2, 3, 4, 5] (by decide) rfl
            exact W.zret (v := 0) (ty := .boolean) hx hb hr rfl (fun t ht hW => ⟨⟨0, (), rfl, ⟨rfl, rfl⟩, by rw [ht]; exact hP9, va_K.moved hW.alike hK, hD9⟩, hS.F ht⟩) hS.2.2 d_Rf_placesWrong_117
          have hf := ifn hf hc9
          refine lv_iconst (v := 1) hx hb d_Rf_placesWrong_112 (by decide) ?_
          refine lv_goto (tgt := 117) hx hb d_Rf_placesWrong_113 rfl ?_
          have e1_ := lf1 hf
          subst e1_
          have hP9 := hP.sub (ws' := [(hq, .inr (3, [.ref qm, .ref qf, .ref ql, .int nc, .int nd, .int nf, .int na, .int nz, .int no, .int ns, .int nv, .int np, .ref qi, .int nn, .ref qo, .int nt])), (qm, .inl (cI, 104, .inl nm)), (qf, .inl (cI, 104, .inl nb)), (ql, .inl (cI, 4, .inl nl)), (qi, .inl (cI, 24, .inl ni)), (qo, .inl (cI, 16, .inl nu))]) [0, 1, 2, 3, 4, 5] rfl
          have hD9 := hD.sub (ws' := [(hq, .inr (3, [.ref qm, .ref qf, .ref ql, .int nc, .int nd, .int nf, .int na, .int nz, .int no, .int ns, .int nv, .int np, .ref qi, .int nn, .ref qo, .int nt])), (qm, .inl (cI, 104, .inl nm)), (qf, .inl (cI, 104, .inl nb)), (ql, .inl (cI, 4, .inl nl)), (qi, .inl (cI, 24, .inl ni)), (qo, .inl (cI, 16, .inl nu))]) [0, 1, 2, 3, 4, 5] (by decide) rfl
          exact W.zret (v := 1) (ty := .boolean) hx hb hr rfl (fun t ht hW => ⟨⟨1, (), rfl, ⟨rfl, rfl⟩, by rw [ht]; exact hP9, va_K.moved hW.alike hK, hD9⟩, hS.F ht⟩) hS.2.2 d_Rf_placesWrong_117
        have hf := ifn hf hc4
        refine lv_iload_n hx hb d_Rf_placesWrong_62 rfl (lv_at hl 2 rfl) ?_
        refine lv_sipush (v := 214) hx hb d_Rf_placesWrong_63 (by decide) ?_
        refine lv_icmp_eq (tgt := 83) hx hb d_Rf_placesWrong_66 rfl (fun hc10 => ?_) (fun hc10 => ?_)
        · have hf := ift hf hc10
          refine lv_iconst (v := 1) hx hb d_Rf_placesWrong_83 (by decide) ?_
          refine lv_goto (tgt := 88) hx hb d_Rf_placesWrong_84 rfl ?_
          refine lv_istore_n hx hb d_Rf_placesWrong_88 rfl hl (by decide) rfl (fun ls hl => ?_)
          have hl : lv_has ls 4 [(3, .int 1), (2, .int 7), (0, .ref hq), (1, .int a1)] := hl
          refine lv_aload_n hx hb d_Rf_placesWrong_89 rfl (lv_at hl 2 rfl) ?_
          refine va_get (D := (dC, dI)) (ci := 3) (v := .ref qi) (C := R_Rf) (T := F_Rf) (N := 16) hx hb hts inRf hown hK hP 0 rfl rfl 12 (by decide) kf27 (fun _ h9 => h9) rfl d_Rf_placesWrong_90 ?_
          refine lv_iconst (v := 2) hx hb d_Rf_placesWrong_93 (by decide) ?_
          obtain ⟨hin_, hf⟩ := ix_some hf
          refine va_iald hx hb hK hP 4 0 rfl rfl hin_ d_Rf_placesWrong_94 ?_
          refine lv_iload_n hx hb d_Rf_placesWrong_95 rfl (lv_at hl 1 rfl) ?_
          refine lv_icmp_gt (tgt := 112) hx hb d_Rf_placesWrong_96 rfl (fun hc12 => ?_) (fun hc12 => ?_)
          · have hf := ift hf hc12
            refine lv_iconst (v := 1) hx hb d_Rf_placesWrong_112 (by decide) ?_
            refine lv_goto (tgt := 117) hx hb d_Rf_placesWrong_113 rfl ?_
            have e1_ := lf1 hf
            subst e1_
            have hP9 := hP.sub (ws' := [(hq, .inr (3, [.ref qm, .ref qf, .ref ql, .int nc, .int nd, .int nf, .int na, .int nz, .int no, .int ns, .int nv, .int np, .ref qi, .int nn, .ref qo, .int nt])), (qm, .inl (cI, 104, .inl nm)), (qf, .inl (cI, 104, .inl nb)), (ql, .inl (cI, 4, .inl nl)), (qi, .inl (cI, 24, .inl ni)), (qo, .inl (cI, 16, .inl nu))]) [0, 1, 2, 3, 4, 5] rfl
            have hD9 := hD.sub (ws' := [(hq, .inr (3, [.ref qm, .ref qf, .ref ql, .int nc, .int nd, .int nf, .int na, .int nz, .int no, .int ns, .int nv, .int np, .ref qi, .int nn, .ref qo, .int nt])), (qm, .inl (cI, 104, .inl nm)), (qf, .inl (cI, 104, .inl nb)), (ql, .inl (cI, 4, .inl nl)), (qi, .inl (cI, 24, .inl ni)), (qo, .inl (cI, 16, .inl nu))]) [0, 1, 2, 3, 4, 5] (by decide) rfl
            exact W.zret (v := 1) (ty := .boolean) hx hb hr rfl (fun t ht hW => ⟨⟨1, (), rfl, ⟨rfl, rfl⟩, by rw [ht]; exact hP9, va_K.moved hW.alike hK, hD9⟩, hS.F ht⟩) hS.2.2 d_Rf_placesWrong_117
          have hf := ifn hf hc12
          refine lv_iload_n hx hb d_Rf_placesWrong_99 rfl (lv_at hl 0 rfl) ?_
          refine lv_if_ne (tgt := 116) hx hb d_Rf_placesWrong_100 rfl (fun hc13 => ?_) (fun hc13 => ?_)
          · have hf := ifn hf hc13
            refine lv_iconst (v := 0) hx hb d_Rf_placesWrong_116 (by decide) ?_
            have e1_ := lf1 hf
            subst e1_
            have hP9 := hP.sub (ws' := [(hq, .inr (3, [.ref qm, .ref qf, .ref ql, .int nc, .int nd, .int nf, .int na, .int nz, .int no, .int ns, .int nv, .int np, .ref qi, .int nn, .ref qo, .int nt])), (qm, .inl (cI, 104, .inl nm)), (qf, .inl (cI, 104, .inl nb)), (ql, .inl (cI, 4, .inl nl)), (qi, .inl (cI, 24, .inl ni)), (qo, .inl (cI, 16, .inl nu))]) [0, 1, 2, 3, 4, 5] rfl
            have hD9 := hD.sub (ws' := [(hq, .inr (3, [.ref qm, .ref qf, .ref ql, .int nc, .int nd, .int nf, .int na, .int nz, .int no, .int ns, .int nv, .int np, .ref qi, .int nn, .ref qo, .int nt])), (qm, .inl (cI, 104, .inl nm)), (qf, .inl (cI, 104, .inl nb)), (ql, .inl (cI, 4, .inl nl)), (qi, .inl (cI, 24, .inl ni)), (qo, .inl (cI, 16, .inl nu))]) [0, 1, 2, 3, 4, 5] (by decide) rfl
            exact W.zret (v := 0) (ty := .boolean) hx hb hr rfl (fun t ht hW => ⟨⟨0, (), rfl, ⟨rfl, rfl⟩, by rw [ht]; exact hP9, va_K.moved hW.alike hK, hD9⟩, hS.F ht⟩) hS.2.2 d_Rf_placesWrong_117
          have hf := ift hf hc13
          refine lv_aload_n hx hb d_Rf_placesWrong_103 rfl (lv_at hl 2 rfl) ?_
          refine va_get (D := (dC, dI)) (ci := 3) (v := .ref qi) (C := R_Rf) (T := F_Rf) (N := 16) hx hb hts inRf hown hK hP 0 rfl rfl 12 (by decide) kf27 (fun _ h9 => h9) rfl d_Rf_placesWrong_104 ?_
          refine lv_iconst (v := 3) hx hb d_Rf_placesWrong_107 (by decide) ?_
          obtain ⟨hin_, hf⟩ := ix_some hf
          refine va_iald hx hb hK hP 4 0 rfl rfl hin_ d_Rf_placesWrong_108 ?_
          refine lv_if_eq (tgt := 116) hx hb d_Rf_placesWrong_109 rfl (fun hc15 => ?_) (fun hc15 => ?_)
          · have hf := ift hf hc15
            refine lv_iconst (v := 0) hx hb d_Rf_placesWrong_116 (by decide) ?_
            have e1_ := lf1 hf
            subst e1_
            have hP9 := hP.sub (ws' := [(hq, .inr (3, [.ref qm, .ref qf, .ref ql, .int nc, .int nd, .int nf, .int na, .int nz, .int no, .int ns, .int nv, .int np, .ref qi, .int nn, .ref qo, .int nt])), (qm, .inl (cI, 104, .inl nm)), (qf, .inl (cI, 104, .inl nb)), (ql, .inl (cI, 4, .inl nl)), (qi, .inl (cI, 24, .inl ni)), (qo, .inl (cI, 16, .inl nu))]) [0, 1, 2, 3, 4, 5] rfl
            have hD9 := hD.sub (ws' := [(hq, .inr (3, [.ref qm, .ref qf, .ref ql, .int nc, .int nd, .int nf, .int na, .int nz, .int no, .int ns, .int nv, .int np, .ref qi, .int nn, .ref qo, .int nt])), (qm, .inl (cI, 104, .inl nm)), (qf, .inl (cI, 104, .inl nb)), (ql, .inl (cI, 4, .inl nl)), (qi, .inl (cI, 24, .inl ni)), (qo, .inl (cI, 16, .inl nu))]) [0, 1, 2, 3, 4, 5] (by decide) rfl
            exact W.zret (v := 0) (ty := .boolean) hx hb hr rfl (fun t ht hW => ⟨⟨0, (), rfl, ⟨rfl, rfl⟩, by rw [ht]; exact hP9, va_K.moved hW.alike hK, hD9⟩, hS.F ht⟩) hS.2.2 d_Rf_placesWrong_117
          have hf := ifn hf hc15
          refine lv_iconst (v := 1) hx hb d_Rf_placesWrong_112 (by decide) ?_
          refine lv_goto (tgt := 117) hx hb d_Rf_placesWrong_113 rfl ?_
          have e1_ := lf1 hf
          subst e1_
          have hP9 := hP.sub (ws' := [(hq, .inr (3, [.ref qm, .ref qf, .ref ql, .int nc, .int nd, .int nf, .int na, .int nz, .int no, .int ns, .int nv, .int np, .ref qi, .int nn, .ref qo, .int nt])), (qm, .inl (cI, 104, .inl nm)), (qf, .inl (cI, 104, .inl nb)), (ql, .inl (cI, 4, .inl nl)), (qi, .inl (cI, 24, .inl ni)), (qo, .inl (cI, 16, .inl nu))]) [0, 1, 2, 3, 4, 5] rfl
          have hD9 := hD.sub (ws' := [(hq, .inr (3, [.ref qm, .ref qf, .ref ql, .int nc, .int nd, .int nf, .int na, .int nz, .int no, .int ns, .int nv, .int np, .ref qi, .int nn, .ref qo, .int nt])), (qm, .inl (cI, 104, .inl nm)), (qf, .inl (cI, 104, .inl nb)), (ql, .inl (cI, 4, .inl nl)), (qi, .inl (cI, 24, .inl ni)), (qo, .inl (cI, 16, .inl nu))]) [0, 1, 2, 3, 4, 5] (by decide) rfl
          exact W.zret (v := 1) (ty := .boolean) hx hb hr rfl (fun t ht hW => ⟨⟨1, (), rfl, ⟨rfl, rfl⟩, by rw [ht]; exact hP9, va_K.moved hW.alike hK, hD9⟩, hS.F ht⟩) hS.2.2 d_Rf_placesWrong_117
        have hf := ifn hf hc10
        refine lv_iload_n hx hb d_Rf_placesWrong_69 rfl (lv_at hl 2 rfl) ?_
        refine lv_sipush (v := 178) hx hb d_Rf_placesWrong_70 (by decide) ?_
        refine lv_icmp_eq (tgt := 83) hx hb d_Rf_placesWrong_73 rfl (fun hc16 => ?_) (fun hc16 => ?_)
        · have hf := ift hf hc16
          refine lv_iconst (v := 1) hx hb d_Rf_placesWrong_83 (by decide) ?_
          refine lv_goto (tgt := 88) hx hb d_Rf_placesWrong_84 rfl ?_
          refine lv_istore_n hx hb d_Rf_placesWrong_88 rfl hl (by decide) rfl (fun ls hl => ?_)
          have hl : lv_has ls 4 [(3, .int 1), (2, .int 7), (0, .ref hq), (1, .int a1)] := hl
          refine lv_aload_n hx hb d_Rf_placesWrong_89 rfl (lv_at hl 2 rfl) ?_
          refine va_get (D := (dC, dI)) (ci := 3) (v := .ref qi) (C := R_Rf) (T := F_Rf) (N := 16) hx hb hts inRf hown hK hP 0 rfl rfl 12 (by decide) kf27 (fun _ h9 => h9) rfl d_Rf_placesWrong_90 ?_
          refine lv_iconst (v := 2) hx hb d_Rf_placesWrong_93 (by decide) ?_
          obtain ⟨hin_, hf⟩ := ix_some hf
          refine va_iald hx hb hK hP 4 0 rfl rfl hin_ d_Rf_placesWrong_94 ?_
          refine lv_iload_n hx hb d_Rf_placesWrong_95 rfl (lv_at hl 1 rfl) ?_
          refine lv_icmp_gt (tgt := 112) hx hb d_Rf_placesWrong_96 rfl (fun hc18 => ?_) (fun hc18 => ?_)
          · have hf := ift hf hc18
            refine lv_iconst (v := 1) hx hb d_Rf_placesWrong_112 (by decide) ?_
            refine lv_goto (tgt := 117) hx hb d_Rf_placesWrong_113 rfl ?_
            have e1_ := lf1 hf
            subst e1_
            have hP9 := hP.sub (ws' := [(hq, .inr (3, [.ref qm, .ref qf, .ref ql, .int nc, .int nd, .int nf, .int na, .int nz, .int no, .int ns, .int nv, .int np, .ref qi, .int nn, .ref qo, .int nt])), (qm, .inl (cI, 104, .inl nm)), (qf, .inl (cI, 104, .inl nb)), (ql, .inl (cI, 4, .inl nl)), (qi, .inl (cI, 24, .inl ni)), (qo, .inl (cI, 16, .inl nu))]) [0, 1, 2, 3, 4, 5] rfl
            have hD9 := hD.sub (ws' := [(hq, .inr (3, [.ref qm, .ref qf, .ref ql, .int nc, .int nd, .int nf, .int na, .int nz, .int no, .int ns, .int nv, .int np, .ref qi, .int nn, .ref qo, .int nt])), (qm, .inl (cI, 104, .inl nm)), (qf, .inl (cI, 104, .inl nb)), (ql, .inl (cI, 4, .inl nl)), (qi, .inl (cI, 24, .inl ni)), (qo, .inl (cI, 16, .inl nu))]) [0, 1, 2, 3, 4, 5] (by decide) rfl
            exact W.zret (v := 1) (ty := .boolean) hx hb hr rfl (fun t ht hW => ⟨⟨1, (), rfl, ⟨rfl, rfl⟩, by rw [ht]; exact hP9, va_K.moved hW.alike hK, hD9⟩, hS.F ht⟩) hS.2.2 d_Rf_placesWrong_117
          have hf := ifn hf hc18
          refine lv_iload_n hx hb d_Rf_placesWrong_99 rfl (lv_at hl 0 rfl) ?_
          refine lv_if_ne (tgt := 116) hx hb d_Rf_placesWrong_100 rfl (fun hc19 => ?_) (fun hc19 => ?_)
          · have hf := ifn hf hc19
            refine lv_iconst (v := 0) hx hb d_Rf_placesWrong_116 (by decide) ?_
            have e1_ := lf1 hf
            subst e1_
            have hP9 := hP.sub (ws' := [(hq, .inr (3, [.ref qm, .ref qf, .ref ql, .int nc, .int nd, .int nf, .int na, .int nz, .int no, .int ns, .int nv, .int np, .ref qi, .int nn, .ref qo, .int nt])), (qm, .inl (cI, 104, .inl nm)), (qf, .inl (cI, 104, .inl nb)), (ql, .inl (cI, 4, .inl nl)), (qi, .inl (cI, 24, .inl ni)), (qo, .inl (cI, 16, .inl nu))]) [0, 1, 2, 3, 4, 5] rfl
            have hD9 := hD.sub (ws' := [(hq, .inr (3, [.ref qm, .ref qf, .ref ql, .int nc, .int nd, .int nf, .int na, .int nz, .int no, .int ns, .int nv, .int np, .ref qi, .int nn, .ref qo, .int nt])), (qm, .inl (cI, 104, .inl nm)), (qf, .inl (cI, 104, .inl nb)), (ql, .inl (cI, 4, .inl nl)), (qi, .inl (cI, 24, .inl ni)), (qo, .inl (cI, 16, .inl nu))]) [0, 1, 2, 3, 4, 5] (by decide) rfl
            exact W.zret (v := 0) (ty := .boolean) hx hb hr rfl (fun t ht hW => ⟨⟨0, (), rfl, ⟨rfl, rfl⟩, by rw [ht]; exact hP9, va_K.moved hW.alike hK, hD9⟩, hS.F ht⟩) hS.2.2 d_Rf_placesWrong_117
          have hf := ift hf hc19
          refine lv_aload_n hx hb d_Rf_placesWrong_103 rfl (lv_at hl 2 rfl) ?_
          refine va_get (D := (dC, dI)) (ci := 3) (v := .ref qi) (C := R_Rf) (T := F_Rf) (N := 16) hx hb hts inRf hown hK hP 0 rfl rfl 12 (by decide) kf27 (fun _ h9 => h9) rfl d_Rf_placesWrong_104 ?_
          refine lv_iconst (v := 3) hx hb d_Rf_placesWrong_107 (by decide) ?_
          obtain ⟨hin_, hf⟩ := ix_some hf
          refine va_iald hx hb hK hP 4 0 rfl rfl hin_ d_Rf_placesWrong_108 ?_
          refine lv_if_eq (tgt := 116) hx hb d_Rf_placesWrong_109 rfl (fun hc21 => ?_) (fun hc21 => ?_)
          · have hf := ift hf hc21
            refine lv_iconst (v := 0) hx hb d_Rf_placesWrong_116 (by decide) ?_
            have e1_ := lf1 hf
            subst e1_
            have hP9 := hP.sub (ws' := [(hq, .inr (3, [.ref qm, .ref qf, .ref ql, .int nc, .int nd, .int nf, .int na, .int nz, .int no, .int ns, .int nv, .int np, .ref qi, .int nn, .ref qo, .int nt])), (qm, .inl (cI, 104, .inl nm)), (qf, .inl (cI, 104, .inl nb)), (ql, .inl (cI, 4, .inl nl)), (qi, .inl (cI, 24, .inl ni)), (qo, .inl (cI, 16, .inl nu))]) [0, 1, 2, 3, 4, 5] rfl
            have hD9 := hD.sub (ws' := [(hq, .inr (3, [.ref qm, .ref qf, .ref ql, .int nc, .int nd, .int nf, .int na, .int nz, .int no, .int ns, .int nv, .int np, .ref qi, .int nn, .ref qo, .int nt])), (qm, .inl (cI, 104, .inl nm)), (qf, .inl (cI, 104, .inl nb)), (ql, .inl (cI, 4, .inl nl)), (qi, .inl (cI, 24, .inl ni)), (qo, .inl (cI, 16, .inl nu))]) [0, 1, 2, 3, 4, 5] (by decide) rfl
            exact W.zret (v := 0) (ty := .boolean) hx hb hr rfl (fun t ht hW => ⟨⟨0, (), rfl, ⟨rfl, rfl⟩, by rw [ht]; exact hP9, va_K.moved hW.alike hK, hD9⟩, hS.F ht⟩) hS.2.2 d_Rf_placesWrong_117
          have hf := ifn hf hc21
          refine lv_iconst (v := 1) hx hb d_Rf_placesWrong_112 (by decide) ?_
          refine lv_goto (tgt := 117) hx hb d_Rf_placesWrong_113 rfl ?_
          have e1_ := lf1 hf
          subst e1_
          have hP9 := hP.sub (ws' := [(hq, .inr (3, [.ref qm, .ref qf, .ref ql, .int nc, .int nd, .int nf, .int na, .int nz, .int no, .int ns, .int nv, .int np, .ref qi, .int nn, .ref qo, .int nt])), (qm, .inl (cI, 104, .inl nm)), (qf, .inl (cI, 104, .inl nb)), (ql, .inl (cI, 4, .inl nl)), (qi, .inl (cI, 24, .inl ni)), (qo, .inl (cI, 16, .inl nu))]) [0, 1, 2, 3, 4, 5] rfl
          have hD9 := hD.sub (ws' := [(hq, .inr (3, [.ref qm, .ref qf, .ref ql, .int nc, .int nd, .int nf, .int na, .int nz, .int no, .int ns, .int nv, .int np, .ref qi, .int nn, .ref qo, .int nt])), (qm, .inl (cI, 104, .inl nm)), (qf, .inl (cI, 104, .inl nb)), (ql, .inl (cI, 4, .inl nl)), (qi, .inl (cI, 24, .inl ni)), (qo, .inl (cI, 16, .inl nu))]) [0, 1, 2, 3, 4, 5] (by decide) rfl
          exact W.zret (v := 1) (ty := .boolean) hx hb hr rfl (fun t ht hW => ⟨⟨1, (), rfl, ⟨rfl, rfl⟩, by rw [ht]; exact hP9, va_K.moved hW.alike hK, hD9⟩, hS.F ht⟩) hS.2.2 d_Rf_placesWrong_117
        have hf := ifn hf hc16
        refine lv_iload_n hx hb d_Rf_placesWrong_76 rfl (lv_at hl 2 rfl) ?_
        refine lv_sipush (v := 220) hx hb d_Rf_placesWrong_77 (by decide) ?_
        refine lv_icmp_ne (tgt := 87) hx hb d_Rf_placesWrong_80 rfl (fun hc22 => ?_) (fun hc22 => ?_)
        · have hf := ifn hf hc22
          refine lv_iconst (v := 0) hx hb d_Rf_placesWrong_87 (by decide) ?_
          refine lv_istore_n hx hb d_Rf_placesWrong_88 rfl hl (by decide) rfl (fun ls hl => ?_)
          have hl : lv_has ls 4 [(3, .int 0), (2, .int 7), (0, .ref hq), (1, .int a1)] := hl
          refine lv_aload_n hx hb d_Rf_placesWrong_89 rfl (lv_at hl 2 rfl) ?_
          refine va_get (D := (dC, dI)) (ci := 3) (v := .ref qi) (C := R_Rf) (T := F_Rf) (N := 16) hx hb hts inRf hown hK hP 0 rfl rfl 12 (by decide) kf27 (fun _ h9 => h9) rfl d_Rf_placesWrong_90 ?_
          refine lv_iconst (v := 2) hx hb d_Rf_placesWrong_93 (by decide) ?_
          obtain ⟨hin_, hf⟩ := ix_some hf
          refine va_iald hx hb hK hP 4 0 rfl rfl hin_ d_Rf_placesWrong_94 ?_
          refine lv_iload_n hx hb d_Rf_placesWrong_95 rfl (lv_at hl 1 rfl) ?_
          refine lv_icmp_gt (tgt := 112) hx hb d_Rf_placesWrong_96 rfl (fun hc24 => ?_) (fun hc24 => ?_)
          · have hf := ift hf hc24
            refine lv_iconst (v := 1) hx hb d_Rf_placesWrong_112 (by decide) ?_
            refine lv_goto (tgt := 117) hx hb d_Rf_placesWrong_113 rfl ?_
            have e1_ := lf1 hf
            subst e1_
            have hP9 := hP.sub (ws' := [(hq, .inr (3, [.ref qm, .ref qf, .ref ql, .int nc, .int nd, .int nf, .int na, .int nz, .int no, .int ns, .int nv, .int np, .ref qi, .int nn, .ref qo, .int nt])), (qm, .inl (cI, 104, .inl nm)), (qf, .inl (cI, 104, .inl nb)), (ql, .inl (cI, 4, .inl nl)), (qi, .inl (cI, 24, .inl ni)), (qo, .inl (cI, 16, .inl nu))]) [0, 1, 2, 3, 4, 5] rfl
            have hD9 := hD.sub (ws' := [(hq, .inr (3, [.ref qm, .ref qf, .ref ql, .int nc, .int nd, .int nf, .int na, .int nz, .int no, .int ns, .int nv, .int np, .ref qi, .int nn, .ref qo, .int nt])), (qm, .inl (cI, 104, .inl nm)), (qf, .inl (cI, 104, .inl nb)), (ql, .inl (cI, 4, .inl nl)), (qi, .inl (cI, 24, .inl ni)), (qo, .inl (cI, 16, .inl nu))]) [0, 1, 2, 3, 4, 5] (by decide) rfl
            exact W.zret (v := 1) (ty := .boolean) hx hb hr rfl (fun t ht hW => ⟨⟨1, (), rfl, ⟨rfl, rfl⟩, by rw [ht]; exact hP9, va_K.moved hW.alike hK, hD9⟩, hS.F ht⟩) hS.2.2 d_Rf_placesWrong_117
          have hf := ifn hf hc24
          refine lv_iload_n hx hb d_Rf_placesWrong_99 rfl (lv_at hl 0 rfl) ?_
          refine lv_if_ne (tgt := 116) hx hb d_Rf_placesWrong_100 rfl (fun hc25 => ?_) (fun hc25 => ?_)
          · have hf := ifn hf hc25
            refine lv_iconst (v := 0) hx hb d_Rf_placesWrong_116 (by decide) ?_
            have e1_ := lf1 hf
            subst e1_
            have hP9 := hP.sub (ws' := [(hq, .inr (3, [.ref qm, .ref qf, .ref ql, .int nc, .int nd, .int nf, .int na, .int nz, .int no, .int ns, .int nv, .int np, .ref qi, .int nn, .ref qo, .int nt])), (qm, .inl (cI, 104, .inl nm)), (qf, .inl (cI, 104, .inl nb)), (ql, .inl (cI, 4, .inl nl)), (qi, .inl (cI, 24, .inl ni)), (qo, .inl (cI, 16, .inl nu))]) [0, 1, 2, 3, 4, 5] rfl
            have hD9 := hD.sub (ws' := [(hq, .inr (3, [.ref qm, .ref qf, .ref ql, .int nc, .int nd, .int nf, .int na, .int nz, .int no, .int ns, .int nv, .int np, .ref qi, .int nn, .ref qo, .int nt])), (qm, .inl (cI, 104, .inl nm)), (qf, .inl (cI, 104, .inl nb)), (ql, .inl (cI, 4, .inl nl)), (qi, .inl (cI, 24, .inl ni)), (qo, .inl (cI, 16, .inl nu))]) [0, 1, 2, 3, 4, 5] (by decide) rfl
            exact W.zret (v := 0) (ty := .boolean) hx hb hr rfl (fun t ht hW => ⟨⟨0, (), rfl, ⟨rfl, rfl⟩, by rw [ht]; exact hP9, va_K.moved hW.alike hK, hD9⟩, hS.F ht⟩) hS.2.2 d_Rf_placesWrong_117
          have hf := ift hf hc25
          refine lv_aload_n hx hb d_Rf_placesWrong_103 rfl (lv_at hl 2 rfl) ?_
          refine va_get (D := (dC, dI)) (ci := 3) (v := .ref qi) (C := R_Rf) (T := F_Rf) (N := 16) hx hb hts inRf hown hK hP 0 rfl rfl 12 (by decide) kf27 (fun _ h9 => h9) rfl d_Rf_placesWrong_104 ?_
          refine lv_iconst (v := 3) hx hb d_Rf_placesWrong_107 (by decide) ?_
          obtain ⟨hin_, hf⟩ := ix_some hf
          refine va_iald hx hb hK hP 4 0 rfl rfl hin_ d_Rf_placesWrong_108 ?_
          refine lv_if_eq (tgt := 116) hx hb d_Rf_placesWrong_109 rfl (fun hc27 => ?_) (fun hc27 => ?_)
          · have hf := ift hf hc27
            refine lv_iconst (v := 0) hx hb d_Rf_placesWrong_116 (by decide) ?_
            have e1_ := lf1 hf
            subst e1_
            have hP9 := hP.sub (ws' := [(hq, .inr (3, [.ref qm, .ref qf, .ref ql, .int nc, .int nd, .int nf, .int na, .int nz, .int no, .int ns, .int nv, .int np, .ref qi, .int nn, .ref qo, .int nt])), (qm, .inl (cI, 104, .inl nm)), (qf, .inl (cI, 104, .inl nb)), (ql, .inl (cI, 4, .inl nl)), (qi, .inl (cI, 24, .inl ni)), (qo, .inl (cI, 16, .inl nu))]) [0, 1, 2, 3, 4, 5] rfl
            have hD9 := hD.sub (ws' := [(hq, .inr (3, [.ref qm, .ref qf, .ref ql, .int nc, .int nd, .int nf, .int na, .int nz, .int no, .int ns, .int nv, .int np, .ref qi, .int nn, .ref qo, .int nt])), (qm, .inl (cI, 104, .inl nm)), (qf, .inl (cI, 104, .inl nb)), (ql, .inl (cI, 4, .inl nl)), (qi, .inl (cI, 24, .inl ni)), (qo, .inl (cI, 16, .inl nu))]) [0, 1, 2, 3, 4, 5] (by decide) rfl
            exact W.zret (v := 0) (ty := .boolean) hx hb hr rfl (fun t ht hW => ⟨⟨0, (), rfl, ⟨rfl, rfl⟩, by rw [ht]; exact hP9, va_K.moved hW.alike hK, hD9⟩, hS.F ht⟩) hS.2.2 d_Rf_placesWrong_117
          have hf := ifn hf hc27
          refine lv_iconst (v := 1) hx hb d_Rf_placesWrong_112 (by decide) ?_
          refine lv_goto (tgt := 117) hx hb d_Rf_placesWrong_113 rfl ?_
          have e1_ := lf1 hf
          subst e1_
          have hP9 := hP.sub (ws' := [(hq, .inr (3, [.ref qm, .ref qf, .ref ql, .int nc, .int nd, .int nf, .int na, .int nz, .int no, .int ns, .int nv, .int np, .ref qi, .int nn, .ref qo, .int nt])), (qm, .inl (cI, 104, .inl nm)), (qf, .inl (cI, 104, .inl nb)), (ql, .inl (cI, 4, .inl nl)), (qi, .inl (cI, 24, .inl ni)), (qo, .inl (cI, 16, .inl nu))]) [0, 1, 2, 3, 4, 5] rfl
          have hD9 := hD.sub (ws' := [(hq, .inr (3, [.ref qm, .ref qf, .ref ql, .int nc, .int nd, .int nf, .int na, .int nz, .int no, .int ns, .int nv, .int np, .ref qi, .int nn, .ref qo, .int nt])), (qm, .inl (cI, 104, .inl nm)), (qf, .inl (cI, 104, .inl nb)), (ql, .inl (cI, 4, .inl nl)), (qi, .inl (cI, 24, .inl ni)), (qo, .inl (cI, 16, .inl nu))]) [0, 1, 2, 3, 4, 5] (by decide) rfl
          exact W.zret (v := 1) (ty := .boolean) hx hb hr rfl (fun t ht hW => ⟨⟨1, (), rfl, ⟨rfl, rfl⟩, by rw [ht]; exact hP9, va_K.moved hW.alike hK, hD9⟩, hS.F ht⟩) hS.2.2 d_Rf_placesWrong_117
        have hf := ift hf hc22
        refine lv_iconst (v := 1) hx hb d_Rf_placesWrong_83 (by decide) ?_
        refine lv_goto (tgt := 88) hx hb d_Rf_placesWrong_84 rfl ?_
        refine lv_istore_n hx hb d_Rf_placesWrong_88 rfl hl (by decide) rfl (fun ls hl => ?_)
        have hl : lv_has ls 4 [(3, .int 1), (2, .int 7), (0, .ref hq), (1, .int a1)] := hl
        refine lv_aload_n hx hb d_Rf_placesWrong_89 rfl (lv_at hl 2 rfl) ?_
        refine va_get (D := (dC, dI)) (ci := 3) (v := .ref qi) (C := R_Rf) (T := F_Rf) (N := 16) hx hb hts inRf hown hK hP 0 rfl rfl 12 (by decide) kf27 (fun _ h9 => h9) rfl d_Rf_placesWrong_90 ?_
        refine lv_iconst (v := 2) hx hb d_Rf_placesWrong_93 (by decide) ?_
        obtain ⟨hin_, hf⟩ := ix_some hf
        refine va_iald hx hb hK hP 4 0 rfl rfl hin_ d_Rf_placesWrong_94 ?_
        refine lv_iload_n hx hb d_Rf_placesWrong_95 rfl (lv_at hl 1 rfl) ?_
        refine lv_icmp_gt (tgt := 112) hx hb d_Rf_placesWrong_96 rfl (fun hc29 => ?_) (fun hc29 => ?_)
        · have hf := ift hf hc29
          refine lv_iconst (v := 1) hx hb d_Rf_placesWrong_112 (by decide) ?_
          refine lv_goto (tgt := 117) hx hb d_Rf_placesWrong_113 rfl ?_
          have e1_ := lf1 hf
          subst e1_
          have hP9 := hP.sub (ws' := [(hq, .inr (3, [.ref qm, .ref qf, .ref ql, .int nc, .int nd, .int nf, .int na, .int nz, .int no, .int ns, .int nv, .int np, .ref qi, .int nn, .ref qo, .int nt])), (qm, .inl (cI, 104, .inl nm)), (qf, .inl (cI, 104, .inl nb)), (ql, .inl (cI, 4, .inl nl)), (qi, .inl (cI, 24, .inl ni)), (qo, .inl (cI, 16, .inl nu))]) [0, 1, 2, 3, 4, 5] rfl
          have hD9 := hD.sub (ws' := [(hq, .inr (3, [.ref qm, .ref qf, .ref ql, .int nc, .int nd, .int nf, .int na, .int nz, .int no, .int ns, .int nv, .int np, .ref qi, .int nn, .ref qo, .int nt])), (qm, .inl (cI, 104, .inl nm)), (qf, .inl (cI, 104, .inl nb)), (ql, .inl (cI, 4, .inl nl)), (qi, .inl (cI, 24, .inl ni)), (qo, .inl (cI, 16, .inl nu))]) [0, 1, 2, 3, 4, 5] (by decide) rfl
          exact W.zret (v := 1) (ty := .boolean) hx hb hr rfl (fun t ht hW => ⟨⟨1, (), rfl, ⟨rfl, rfl⟩, by rw [ht]; exact hP9, va_K.moved hW.alike hK, hD9⟩, hS.F ht⟩) hS.2.2 d_Rf_placesWrong_117
        have hf := ifn hf hc29
        refine lv_iload_n hx hb d_Rf_placesWrong_99 rfl (lv_at hl 0 rfl) ?_
        refine lv_if_ne (tgt := 116) hx hb d_Rf_placesWrong_100 rfl (fun hc30 => ?_) (fun hc30 => ?_)
        · have hf := ifn hf hc30
          refine lv_iconst (v := 0) hx hb d_Rf_placesWrong_116 (by decide) ?_
          have e1_ := lf1 hf
          subst e1_
          have hP9 := hP.sub (ws' := [(hq, .inr (3, [.ref qm, .ref qf, .ref ql, .int nc, .int nd, .int nf, .int na, .int nz, .int no, .int ns, .int nv, .int np, .ref qi, .int nn, .ref qo, .int nt])), (qm, .inl (cI, 104, .inl nm)), (qf, .inl (cI, 104, .inl nb)), (ql, .inl (cI, 4, .inl nl)), (qi, .inl (cI, 24, .inl ni)), (qo, .inl (cI, 16, .inl nu))]) [0, 1, 2, 3, 4, 5] rfl
          have hD9 := hD.sub (ws' := [(hq, .inr (3, [.ref qm, .ref qf, .ref ql, .int nc, .int nd, .int nf, .int na, .int nz, .int no, .int ns, .int nv, .int np, .ref qi, .int nn, .ref qo, .int nt])), (qm, .inl (cI, 104, .inl nm)), (qf, .inl (cI, 104, .inl nb)), (ql, .inl (cI, 4, .inl nl)), (qi, .inl (cI, 24, .inl ni)), (qo, .inl (cI, 16, .inl nu))]) [0, 1, 2, 3, 4, 5] (by decide) rfl
          exact W.zret (v := 0) (ty := .boolean) hx hb hr rfl (fun t ht hW => ⟨⟨0, (), rfl, ⟨rfl, rfl⟩, by rw [ht]; exact hP9, va_K.moved hW.alike hK, hD9⟩, hS.F ht⟩) hS.2.2 d_Rf_placesWrong_117
        have hf := ift hf hc30
        refine lv_aload_n hx hb d_Rf_placesWrong_103 rfl (lv_at hl 2 rfl) ?_
        refine va_get (D := (dC, dI)) (ci := 3) (v := .ref qi) (C := R_Rf) (T := F_Rf) (N := 16) hx hb hts inRf hown hK hP 0 rfl rfl 12 (by decide) kf27 (fun _ h9 => h9) rfl d_Rf_placesWrong_104 ?_
        refine lv_iconst (v := 3) hx hb d_Rf_placesWrong_107 (by decide) ?_
        obtain ⟨hin_, hf⟩ := ix_some hf
        refine va_iald hx hb hK hP 4 0 rfl rfl hin_ d_Rf_placesWrong_108 ?_
        refine lv_if_eq (tgt := 116) hx hb d_Rf_placesWrong_109 rfl (fun hc32 => ?_) (fun hc32 => ?_)
        · have hf := ift hf hc32
          refine lv_iconst (v := 0) hx hb d_Rf_placesWrong_116 (by decide) ?_
          have e1_ := lf1 hf
          subst e1_
          have hP9 := hP.sub (ws' := [(hq, .inr (3, [.ref qm, .ref qf, .ref ql, .int nc, .int nd, .int nf, .int na, .int nz, .int no, .int ns, .int nv, .int np, .ref qi, .int nn, .ref qo, .int nt])), (qm, .inl (cI, 104, .inl nm)), (qf, .inl (cI, 104, .inl nb)), (ql, .inl (cI, 4, .inl nl)), (qi, .inl (cI, 24, .inl ni)), (qo, .inl (cI, 16, .inl nu))]) [0, 1, 2, 3, 4, 5] rfl
          have hD9 := hD.sub (ws' := [(hq, .inr (3, [.ref qm, .ref qf, .ref ql, .int nc, .int nd, .int nf, .int na, .int nz, .int no, .int ns, .int nv, .int np, .ref qi, .int nn, .ref qo, .int nt])), (qm, .inl (cI, 104, .inl nm)), (qf, .inl (cI, 104, .inl nb)), (ql, .inl (cI, 4, .inl nl)), (qi, .inl (cI, 24, .inl ni)), (qo, .inl (cI, 16, .inl nu))]) [0, 1, 2, 3, 4, 5] (by decide) rfl
          exact W.zret (v := 0) (ty := .boolean) hx hb hr rfl (fun t ht hW => ⟨⟨0, (), rfl, ⟨rfl, rfl⟩, by rw [ht]; exact hP9, va_K.moved hW.alike hK, hD9⟩, hS.F ht⟩) hS.2.2 d_Rf_placesWrong_117
        have hf := ifn hf hc32
        refine lv_iconst (v := 1) hx hb d_Rf_placesWrong_112 (by decide) ?_
        refine lv_goto (tgt := 117) hx hb d_Rf_placesWrong_113 rfl ?_
        have e1_ := lf1 hf
        subst e1_
        have hP9 := hP.sub (ws' := [(hq, .inr (3, [.ref qm, .ref qf, .ref ql, .int nc, .int nd, .int nf, .int na, .int nz, .int no, .int ns, .int nv, .int np, .ref qi, .int nn, .ref qo, .int nt])), (qm, .inl (cI, 104, .inl nm)), (qf, .inl (cI, 104, .inl nb)), (ql, .inl (cI, 4, .inl nl)), (qi, .inl (cI, 24, .inl ni)), (qo, .inl (cI, 16, .inl nu))]) [0, 1, 2, 3, 4, 5] rfl
        have hD9 := hD.sub (ws' := [(hq, .inr (3, [.ref qm, .ref qf, .ref ql, .int nc, .int nd, .int nf, .int na, .int nz, .int no, .int ns, .int nv, .int np, .ref qi, .int nn, .ref qo, .int nt])), (qm, .inl (cI, 104, .inl nm)), (qf, .inl (cI, 104, .inl nb)), (ql, .inl (cI, 4, .inl nl)), (qi, .inl (cI, 24, .inl ni)), (qo, .inl (cI, 16, .inl nu))]) [0, 1, 2, 3, 4, 5] (by decide) rfl
        exact W.zret (v := 1) (ty := .boolean) hx hb hr rfl (fun t ht hW => ⟨⟨1, (), rfl, ⟨rfl, rfl⟩, by rw [ht]; exact hP9, va_K.moved hW.alike hK, hD9⟩, hS.F ht⟩) hS.2.2 d_Rf_placesWrong_117
      have hf := ifn hf hc3
      refine lv_iload_n hx hb d_Rf_placesWrong_27 rfl (lv_at hl 1 rfl) ?_
      refine lv_sipush (v := 228) hx hb d_Rf_placesWrong_28 (by decide) ?_
      refine lv_icmp_eq (tgt := 48) hx hb d_Rf_placesWrong_31 rfl (fun hc33 => ?_) (fun hc33 => ?_)
      · have hf := ift hf hc33
        refine lv_bipush (v := 7) hx hb d_Rf_placesWrong_48 (by decide) ?_
        refine lv_goto (tgt := 54) hx hb d_Rf_placesWrong_50 rfl ?_
        refine lv_istore_n hx hb d_Rf_placesWrong_54 rfl hl (by decide) rfl (fun ls hl => ?_)
        have hl : lv_has ls 4 [(2, .int 7), (0, .ref hq), (1, .int a1)] := hl
        refine lv_iload_n hx hb d_Rf_placesWrong_55 rfl (lv_at hl 2 rfl) ?_
        refine lv_sipush (v := 176) hx hb d_Rf_placesWrong_56 (by decide) ?_
        refine lv_icmp_eq (tgt := 83) hx hb d_Rf_placesWrong_59 rfl (fun hc34 => ?_) (fun hc34 => ?_)
        · have hf := ift hf hc34
          refine lv_iconst (v := 1) hx hb d_Rf_placesWrong_83 (by decide) ?_
          refine lv_goto (tgt := 88) hx hb d_Rf_placesWrong_84 rfl ?_
          refine lv_istore_n hx hb d_Rf_placesWrong_88 rfl hl (by decide) rfl (fun ls hl => ?_)
          have hl : lv_has ls 4 [(3, .int 1), (2, .int 7), (0, .ref hq), (1, .int a1)] := hl
          refine lv_aload_n hx hb d_Rf_placesWrong_89 rfl (lv_at hl 2 rfl) ?_
          refine va_get (D := (dC, dI)) (ci := 3) (v := .ref qi) (C := R_Rf) (T := F_Rf) (N := 16) hx hb hts inRf hown hK hP 0 rfl rfl 12 (by decide) kf27 (fun _ h9 => h9) rfl d_Rf_placesWrong_90 ?_
          refine lv_iconst (v := 2) hx hb d_Rf_placesWrong_93 (by decide) ?_
          obtain ⟨hin_, hf⟩ := ix_some hf
          refine va_iald hx hb hK hP 4 0 rfl rfl hin_ d_Rf_placesWrong_94 ?_
          refine lv_iload_n hx hb d_Rf_placesWrong_95 rfl (lv_at hl 1 rfl) ?_
          refine lv_icmp_gt (tgt := 112) hx hb d_Rf_placesWrong_96 rfl (fun hc36 => ?_) (fun hc36 => ?_)
          · have hf := ift hf hc36
            refine lv_iconst (v := 1) hx hb d_Rf_placesWrong_112 (by decide) ?_
            refine lv_goto (tgt := 117) hx hb d_Rf_placesWrong_113 rfl ?_
            have e1_ := lf1 hf
            subst e1_
            have hP9 := hP.sub (ws' := [(hq, .inr (3, [.ref qm, .ref qf, .ref ql, .int nc, .int nd, .int nf, .int na, .int nz, .int no, .int ns, .int nv, .int np, .ref qi, .int nn, .ref qo, .int nt])), (qm, .inl (cI, 104, .inl nm)), (qf, .inl (cI, 104, .inl nb)), (ql, .inl (cI, 4, .inl nl)), (qi, .inl (cI, 24, .inl ni)), (qo, .inl (cI, 16, .inl nu))]) [0, 1, 2, 3, 4, 5] rfl
            have hD9 := hD.sub (ws' := [(hq, .inr (3, [.ref qm, .ref qf, .ref ql, .int nc, .int nd, .int nf, .int na, .int nz, .int no, .int ns, .int nv, .int np, .ref qi, .int nn, .ref qo, .int nt])), (qm, .inl (cI, 104, .inl nm)), (qf, .inl (cI, 104, .inl nb)), (ql, .inl (cI, 4, .inl nl)), (qi, .inl (cI, 24, .inl ni)), (qo, .inl (cI, 16, .inl nu))]) [0, 1, 2, 3, 4, 5] (by decide) rfl
            exact W.zret (v := 1) (ty := .boolean) hx hb hr rfl (fun t ht hW => ⟨⟨1, (), rfl, ⟨rfl, rfl⟩, by rw [ht]; exact hP9, va_K.moved hW.alike hK, hD9⟩, hS.F ht⟩) hS.2.2 d_Rf_placesWrong_117
          have hf := ifn hf hc36
          refine lv_iload_n hx hb d_Rf_placesWrong_99 rfl (lv_at hl 0 rfl) ?_
          refine lv_if_ne (tgt := 116) hx hb d_Rf_placesWrong_100 rfl (fun hc37 => ?_) (fun hc37 => ?_)
          · have hf := ifn hf hc37
            refine lv_iconst (v := 0) hx hb d_Rf_placesWrong_116 (by decide) ?_
            have e1_ := lf1 hf
            subst e1_
            have hP9 := hP.sub (ws' := [(hq, .inr (3, [.ref qm, .ref qf, .ref ql, .int nc, .int nd, .int nf, .int na, .int nz, .int no, .int ns, .int nv, .int np, .ref qi, .int nn, .ref qo, .int nt])), (qm, .inl (cI, 104, .inl nm)), (qf, .inl (cI, 104, .inl nb)), (ql, .inl (cI, 4, .inl nl)), (qi, .inl (cI, 24, .inl ni)), (qo, .inl (cI, 16, .inl nu))]) [0, 1, 2, 3, 4, 5] rfl
            have hD9 := hD.sub (ws' := [(hq, .inr (3, [.ref qm, .ref qf, .ref ql, .int nc, .int nd, .int nf, .int na, .int nz, .int no, .int ns, .int nv, .int np, .ref qi, .int nn, .ref qo, .int nt])), (qm, .inl (cI, 104, .inl nm)), (qf, .inl (cI, 104, .inl nb)), (ql, .inl (cI, 4, .inl nl)), (qi, .inl (cI, 24, .inl ni)), (qo, .inl (cI, 16, .inl nu))]) [0, 1, 2, 3, 4, 5] (by decide) rfl
            exact W.zret (v := 0) (ty := .boolean) hx hb hr rfl (fun t ht hW => ⟨⟨0, (), rfl, ⟨rfl, rfl⟩, by rw [ht]; exact hP9, va_K.moved hW.alike hK, hD9⟩, hS.F ht⟩) hS.2.2 d_Rf_placesWrong_117
          have hf := ift hf hc37
          refine lv_aload_n hx hb d_Rf_placesWrong_103 rfl (lv_at hl 2 rfl) ?_
          refine va_get (D := (dC, dI)) (ci := 3) (v := .ref qi) (C := R_Rf) (T := F_Rf) (N := 16) hx hb hts inRf hown hK hP 0 rfl rfl 12 (by decide) kf27 (fun _ h9 => h9) rfl d_Rf_placesWrong_104 ?_
          refine lv_iconst (v := 3) hx hb d_Rf_placesWrong_107 (by decide) ?_
          obtain ⟨hin_, hf⟩ := ix_some hf
          refine va_iald hx hb hK hP 4 0 rfl rfl hin_ d_Rf_placesWrong_108 ?_
          refine lv_if_eq (tgt := 116) hx hb d_Rf_placesWrong_109 rfl (fun hc39 => ?_) (fun hc39 => ?_)
          · have hf := ift hf hc39
            refine lv_iconst (v := 0) hx hb d_Rf_placesWrong_116 (by decide) ?_
            have e1_ := lf1 hf
            subst e1_
            have hP9 := hP.sub (ws' := [(hq, .inr (3, [.ref qm, .ref qf, .ref ql, .int nc, .int nd, .int nf, .int na, .int nz, .int no, .int ns, .int nv, .int np, .ref qi, .int nn, .ref qo, .int nt])), (qm, .inl (cI, 104, .inl nm)), (qf, .inl (cI, 104, .inl nb)), (ql, .inl (cI, 4, .inl nl)), (qi, .inl (cI, 24, .inl ni)), (qo, .inl (cI, 16, .inl nu))]) [0, 1, 2, 3, 4, 5] rfl
            have hD9 := hD.sub (ws' := [(hq, .inr (3, [.ref qm, .ref qf, .ref ql, .int nc, .int nd, .int nf, .int na, .int nz, .int no, .int ns, .int nv, .int np, .ref qi, .int nn, .ref qo, .int nt])), (qm, .inl (cI, 104, .inl nm)), (qf, .inl (cI, 104, .inl nb)), (ql, .inl (cI, 4, .inl nl)), (qi, .inl (cI, 24, .inl ni)), (qo, .inl (cI, 16, .inl nu))]) [0, 1, 2, 3, 4, 5] (by decide) rfl
            exact W.zret (v := 0) (ty := .boolean) hx hb hr rfl (fun t ht hW => ⟨⟨0, (), rfl, ⟨rfl, rfl⟩, by rw [ht]; exact hP9, va_K.moved hW.alike hK, hD9⟩, hS.F ht⟩) hS.2.2 d_Rf_placesWrong_117
          have hf := ifn hf hc39
          refine lv_iconst (v := 1) hx hb d_Rf_placesWrong_112 (by decide) ?_
          refine lv_goto (tgt := 117) hx hb d_Rf_placesWrong_113 rfl ?_
          have e1_ := lf1 hf
          subst e1_
          have hP9 := hP.sub (ws' := [(hq, .inr (3, [.ref qm, .ref qf, .ref ql, .int nc, .int nd, .int nf, .int na, .int nz, .int no, .int ns, .int nv, .int np, .ref qi, .int nn, .ref qo, .int nt])), (qm, .inl (cI, 104, .inl nm)), (qf, .inl (cI, 104, .inl nb)), (ql, .inl (cI, 4, .inl nl)), (qi, .inl (cI, 24, .inl ni)), (qo, .inl (cI, 16, .inl nu))]) [0, 1, 2, 3, 4, 5] rfl
          have hD9 := hD.sub (ws' := [(hq, .inr (3, [.ref qm, .ref qf, .ref ql, .int nc, .int nd, .int nf, .int na, .int nz, .int no, .int ns, .int nv, .int np, .ref qi, .int nn, .ref qo, .int nt])), (qm, .inl (cI, 104, .inl nm)), (qf, .inl (cI, 104, .inl nb)), (ql, .inl (cI, 4, .inl nl)), (qi, .inl (cI, 24, .inl ni)), (qo, .inl (cI, 16, .inl nu))]) [0, 1, 2, 3, 4, 5] (by decide) rfl
          exact W.zret (v := 1) (ty := .boolean) hx hb hr rfl (fun t ht hW => ⟨⟨1, (), rfl, ⟨rfl, rfl⟩, by rw [ht]; exact hP9, va_K.moved hW.alike hK, hD9⟩, hS.F ht⟩) hS.2.2 d_Rf_placesWrong_117
        have hf := ifn hf hc34
        refine lv_iload_n hx hb d_Rf_placesWrong_62 rfl (lv_at hl 2 rfl) ?_
        refine lv_sipush (v := 214) hx hb d_Rf_placesWrong_63 (by decide) ?_
        refine lv_icmp_eq (tgt := 83) hx hb d_Rf_placesWrong_66 rfl (fun hc40 => ?_) (fun hc40 => ?_)
        · have hf := ift hf hc40
          refine lv_iconst (v := 1) hx hb d_Rf_placesWrong_83 (by decide) ?_
          refine lv_goto (tgt := 88) hx hb d_Rf_placesWrong_84 rfl ?_
          refine lv_istore_n hx hb d_Rf_placesWrong_88 rfl hl (by decide) rfl (fun ls hl => ?_)
          have hl : lv_has ls 4 [(3, .int 1), (2, .int 7), (0, .ref hq), (1, .int a1)] := hl
          refine lv_aload_n hx hb d_Rf_placesWrong_89 rfl (lv_at hl 2 rfl) ?_
          refine va_get (D := (dC, dI)) (ci := 3) (v := .ref qi) (C := R_Rf) (T := F_Rf) (N := 16) hx hb hts inRf hown hK hP 0 rfl rfl 12 (by decide) kf27 (fun _ h9 => h9) rfl d_Rf_placesWrong_90 ?_
          refine lv_iconst (v := 2) hx hb d_Rf_placesWrong_93 (by decide) ?_
          obtain ⟨hin_, hf⟩ := ix_some hf
          refine va_iald hx hb hK hP 4 0 rfl rfl hin_ d_Rf_placesWrong_94 ?_
          refine lv_iload_n hx hb d_Rf_placesWrong_95 rfl (lv_at hl 1 rfl) ?_
          refine lv_icmp_gt (tgt := 112) hx hb d_Rf_placesWrong_96 rfl (fun hc42 => ?_) (fun hc42 => ?_)
          · have hf := ift hf hc42
            refine lv_iconst (v := 1) hx hb d_Rf_placesWrong_112 (by decide) ?_
            refine lv_goto (tgt := 117) hx hb d_Rf_placesWrong_113 rfl ?_
            have e1_ := lf1 hf
            subst e1_
            have hP9 := hP.sub (ws' := [(hq, .inr (3, [.ref qm, .ref qf, .ref ql, .int nc, .int nd, .int nf, .int na, .int nz, .int no, .int ns, .int nv, .int np, .ref qi, .int nn, .ref qo, .int nt])), (qm, .inl (cI, 104, .inl nm)), (qf, .inl (cI, 104, .inl nb)), (ql, .inl (cI, 4, .inl nl)), (qi, .inl (cI, 24, .inl ni)), (qo, .inl (cI, 16, .inl nu))]) [0, 1, 2, 3, 4, 5] rfl
            have hD9 := hD.sub (ws' := [(hq, .inr (3, [.ref qm, .ref qf, .ref ql, .int nc, .int nd, .int nf, .int na, .int nz, .int no, .int ns, .int nv, .int np, .ref qi, .int nn, .ref qo, .int nt])), (qm, .inl (cI, 104, .inl nm)), (qf, .inl (cI, 104, .inl nb)), (ql, .inl (cI, 4, .inl nl)), (qi, .inl (cI, 24, .inl ni)), (qo, .inl (cI, 16, .inl nu))]) [0, 1, 2, 3, 4, 5] (by decide) rfl
            exact W.zret (v := 1) (ty := .boolean) hx hb hr rfl (fun t ht hW => ⟨⟨1, (), rfl, ⟨rfl, rfl⟩, by rw [ht]; exact hP9, va_K.moved hW.alike hK, hD9⟩, hS.F ht⟩) hS.2.2 d_Rf_placesWrong_117
          have hf := ifn hf hc42
          refine lv_iload_n hx hb d_Rf_placesWrong_99 rfl (lv_at hl 0 rfl) ?_
          refine lv_if_ne (tgt := 116) hx hb d_Rf_placesWrong_100 rfl (fun hc43 => ?_) (fun hc43 => ?_)
          · have hf := ifn hf hc43
            refine lv_iconst (v := 0) hx hb d_Rf_placesWrong_116 (by decide) ?_
            have e1_ := lf1 hf
            subst e1_
            have hP9 := hP.sub (ws' := [(hq, .inr (3, [.ref qm, .ref qf, .ref ql, .int nc, .int nd, .int nf, .int na, .int nz, .int no, .int ns, .int nv, .int np, .ref qi, .int nn, .ref qo, .int nt])), (qm, .inl (cI, 104, .inl nm)), (qf, .inl (cI, 104, .inl nb)), (ql, .inl (cI, 4, .inl nl)), (qi, .inl (cI, 24, .inl ni)), (qo, .inl (cI, 16, .inl nu))]) [0, 1, 2, 3, 4, 5] rfl
            have hD9 := hD.sub (ws' := [(hq, .inr (3, [.ref qm, .ref qf, .ref ql, .int nc, .int nd, .int nf, .int na, .int nz, .int no, .int ns, .int nv, .int np, .ref qi, .int nn, .ref qo, .int nt])), (qm, .inl (cI, 104, .inl nm)), (qf, .inl (cI, 104, .inl nb)), (ql, .inl (cI, 4, .inl nl)), (qi, .inl (cI, 24, .inl ni)), (qo, .inl (cI, 16, .inl nu))]) [0, 1, 2, 3, 4, 5] (by decide) rfl
            exact W.zret (v := 0) (ty := .boolean) hx hb hr rfl (fun t ht hW => ⟨⟨0, (), rfl, ⟨rfl, rfl⟩, by rw [ht]; exact hP9, va_K.moved hW.alike hK, hD9⟩, hS.F ht⟩) hS.2.2 d_Rf_placesWrong_117
          have hf := ift hf hc43
          refine lv_aload_n hx hb d_Rf_placesWrong_103 rfl (lv_at hl 2 rfl) ?_
          refine va_get (D := (dC, dI)) (ci := 3) (v := .ref qi) (C := R_Rf) (T := F_Rf) (N := 16) hx hb hts inRf hown hK hP 0 rfl rfl 12 (by decide) kf27 (fun _ h9 => h9) rfl d_Rf_placesWrong_104 ?_
          refine lv_iconst (v := 3) hx hb d_Rf_placesWrong_107 (by decide) ?_
          obtain ⟨hin_, hf⟩ := ix_some hf
          refine va_iald hx hb hK hP 4 0 rfl rfl hin_ d_Rf_placesWrong_108 ?_
          refine lv_if_eq (tgt := 116) hx hb d_Rf_placesWrong_109 rfl (fun hc45 => ?_) (fun hc45 => ?_)
          · have hf := ift hf hc45
            refine lv_iconst (v := 0) hx hb d_Rf_placesWrong_116 (by decide) ?_
            have e1_ := lf1 hf
            subst e1_
            have hP9 := hP.sub (ws' := [(hq, .inr (3, [.ref qm, .ref qf, .ref ql, .int nc, .int nd, .int nf, .int na, .int nz, .int no, .int ns, .int nv, .int np, .ref qi, .int nn, .ref qo, .int nt])), (qm, .inl (cI, 104, .inl nm)), (qf, .inl (cI, 104, .inl nb)), (ql, .inl (cI, 4, .inl nl)), (qi, .inl (cI, 24, .inl ni)), (qo, .inl (cI, 16, .inl nu))]) [0, 1, 2, 3, 4, 5] rfl
            have hD9 := hD.sub (ws' := [(hq, .inr (3, [.ref qm, .ref qf, .ref ql, .int nc, .int nd, .int nf, .int na, .int nz, .int no, .int ns, .int nv, .int np, .ref qi, .int nn, .ref qo, .int nt])), (qm, .inl (cI, 104, .inl nm)), (qf, .inl (cI, 104, .inl nb)), (ql, .inl (cI, 4, .inl nl)), (qi, .inl (cI, 24, .inl ni)), (qo, .inl (cI, 16, .inl nu))]) [0, 1, 2, 3, 4, 5] (by decide) rfl
            exact W.zret (v := 0) (ty := .boolean) hx hb hr rfl (fun t ht hW => ⟨⟨0, (), rfl, ⟨rfl, rfl⟩, by rw [ht]; exact hP9, va_K.moved hW.alike hK, hD9⟩, hS.F ht⟩) hS.2.2 d_Rf_placesWrong_117
          have hf := ifn hf hc45
          refine lv_iconst (v := 1) hx hb d_Rf_placesWrong_112 (by decide) ?_
          refine lv_goto (tgt := 117) hx hb d_Rf_placesWrong_113 rfl ?_
          have e1_ := lf1 hf
          subst e1_
          have hP9 := hP.sub (ws' := [(hq, .inr (3, [.ref qm, .ref qf, .ref ql, .int nc, .int nd, .int nf, .int na, .int nz, .int no, .int ns, .int nv, .int np, .ref qi, .int nn, .ref qo, .int nt])), (qm, .inl (cI, 104, .inl nm)), (qf, .inl (cI, 104, .inl nb)), (ql, .inl (cI, 4, .inl nl)), (qi, .inl (cI, 24, .inl ni)), (qo, .inl (cI, 16, .inl nu))]) [0, 1, 2, 3, 4, 5] rfl
          have hD9 := hD.sub (ws' := [(hq, .inr (3, [.ref qm, .ref qf, .ref ql, .int nc, .int nd, .int nf, .int na, .int nz, .int no, .int ns, .int nv, .int np, .ref qi, .int nn, .ref qo, .int nt])), (qm, .inl (cI, 104, .inl nm)), (qf, .inl (cI, 104, .inl nb)), (ql, .inl (cI, 4, .inl nl)), (qi, .inl (cI, 24, .inl ni)), (qo, .inl (cI, 16, .inl nu))]) [0, 1, 2, 3, 4, 5] (by decide) rfl
          exact W.zret (v := 1) (ty := .boolean) hx hb hr rfl (fun t ht hW => ⟨⟨1, (), rfl, ⟨rfl, rfl⟩, by rw [ht]; exact hP9, va_K.moved hW.alike hK, hD9⟩, hS.F ht⟩) hS.2.2 d_Rf_placesWrong_117
        have hf := ifn hf hc40
        refine lv_iload_n hx hb d_Rf_placesWrong_69 rfl (lv_at hl 2 rfl) ?_
        refine lv_sipush (v := 178) hx hb d_Rf_placesWrong_70 (by decide) ?_
        refine lv_icmp_eq (tgt := 83) hx hb d_Rf_placesWrong_73 rfl (fun hc46 => ?_) (fun hc46 => ?_)
        · have hf := ift hf hc46
          refine lv_iconst (v := 1) hx hb d_Rf_placesWrong_83 (by decide) ?_
          refine lv_goto (tgt := 88) hx hb d_Rf_placesWrong_84 rfl ?_
          refine lv_istore_n hx hb d_Rf_placesWrong_88 rfl hl (by decide) rfl (fun ls hl => ?_)
          have hl : lv_has ls 4 [(3, .int 1), (2, .int 7), (0, .ref hq), (1, .int a1)] := hl
          refine lv_aload_n hx hb d_Rf_placesWrong_89 rfl (lv_at hl 2 rfl) ?_
          refine va_get (D := (dC, dI)) (ci := 3) (v := .ref qi) (C := R_Rf) (T := F_Rf) (N := 16) hx hb hts inRf hown hK hP 0 rfl rfl 12 (by decide) kf27 (fun _ h9 => h9) rfl d_Rf_placesWrong_90 ?_
          refine lv_iconst (v := 2) hx hb d_Rf_placesWrong_93 (by decide) ?_
          obtain ⟨hin_, hf⟩ := ix_some hf
          refine va_iald hx hb hK hP 4 0 rfl rfl hin_ d_Rf_placesWrong_94 ?_
          refine lv_iload_n hx hb d_Rf_placesWrong_95 rfl (lv_at hl 1 rfl) ?_
          refine lv_icmp_gt (tgt := 112) hx hb d_Rf_placesWrong_96 rfl (fun hc48 => ?_) (fun hc48 => ?_)
          · have hf := ift hf hc48
            refine lv_iconst (v := 1) hx hb d_Rf_placesWrong_112 (by decide) ?_
            refine lv_goto (tgt := 117) hx hb d_Rf_placesWrong_113 rfl ?_
            have e1_ := lf1 hf
            subst e1_
            have hP9 := hP.sub (ws' := [(hq, .inr (3, [.ref qm, .ref qf, .ref ql, .int nc, .int nd, .int nf, .int na, .int nz, .int no, .int ns, .int nv, .int np, .ref qi, .int nn, .ref qo, .int nt])), (qm, .inl (cI, 104, .inl nm)), (qf, .inl (cI, 104, .inl nb)), (ql, .inl (cI, 4, .inl nl)), (qi, .inl (cI, 24, .inl ni)), (qo, .inl (cI, 16, .inl nu))]) [0, 1, 2, 3, 4, 5] rfl
            have hD9 := hD.sub (ws' := [(hq, .inr (3, [.ref qm, .ref qf, .ref ql, .int nc, .int nd, .int nf, .int na, .int nz, .int no, .int ns, .int nv, .int np, .ref qi, .int nn, .ref qo, .int nt])), (qm, .inl (cI, 104, .inl nm)), (qf, .inl (cI, 104, .inl nb)), (ql, .inl (cI, 4, .inl nl)), (qi, .inl (cI, 24, .inl ni)), (qo, .inl (cI, 16, .inl nu))]) [0, 1, 2, 3, 4, 5] (by decide) rfl
            exact W.zret (v := 1) (ty := .boolean) hx hb hr rfl (fun t ht hW => ⟨⟨1, (), rfl, ⟨rfl, rfl⟩, by rw [ht]; exact hP9, va_K.moved hW.alike hK, hD9⟩, hS.F ht⟩) hS.2.2 d_Rf_placesWrong_117
          have hf := ifn hf hc48
          refine lv_iload_n hx hb d_Rf_placesWrong_99 rfl (lv_at hl 0 rfl) ?_
          refine lv_if_ne (tgt := 116) hx hb d_Rf_placesWrong_100 rfl (fun hc49 => ?_) (fun hc49 => ?_)
          · have hf := ifn hf hc49
            refine lv_iconst (v := 0) hx hb d_Rf_placesWrong_116 (by decide) ?_
            have e1_ := lf1 hf
            subst e1_
            have hP9 := hP.sub (ws' := [(hq, .inr (3, [.ref qm, .ref qf, .ref ql, .int nc, .int nd, .int nf, .int na, .int nz, .int no, .int ns, .int nv, .int np, .ref qi, .int nn, .ref qo, .int nt])), (qm, .inl (cI, 104, .inl nm)), (qf, .inl (cI, 104, .inl nb)), (ql, .inl (cI, 4, .inl nl)), (qi, .inl (cI, 24, .inl ni)), (qo, .inl (cI, 16, .inl nu))]) [0, 1, 2, 3, 4, 5] rfl
            have hD9 := hD.sub (ws' := [(hq, .inr (3, [.ref qm, .ref qf, .ref ql, .int nc, .int nd, .int nf, .int na, .int nz, .int no, .int ns, .int nv, .int np, .ref qi, .int nn, .ref qo, .int nt])), (qm, .inl (cI, 104, .inl nm)), (qf, .inl (cI, 104, .inl nb)), (ql, .inl (cI, 4, .inl nl)), (qi, .inl (cI, 24, .inl ni)), (qo, .inl (cI, 16, .inl nu))]) [0, 1, 2, 3, 4, 5] (by decide) rfl
            exact W.zret (v := 0) (ty := .boolean) hx hb hr rfl (fun t ht hW => ⟨⟨0, (), rfl, ⟨rfl, rfl⟩, by rw [ht]; exact hP9, va_K.moved hW.alike hK, hD9⟩, hS.F ht⟩) hS.2.2 d_Rf_placesWrong_117
          have hf := ift hf hc49
          refine lv_aload_n hx hb d_Rf_placesWrong_103 rfl (lv_at hl 2 rfl) ?_
          refine va_get (D := (dC, dI)) (ci := 3) (v := .ref qi) (C := R_Rf) (T := F_Rf) (N := 16) hx hb hts inRf hown hK hP 0 rfl rfl 12 (by decide) kf27 (fun _ h9 => h9) rfl d_Rf_placesWrong_104 ?_
          refine lv_iconst (v := 3) hx hb d_Rf_placesWrong_107 (by decide) ?_
          obtain ⟨hin_, hf⟩ := ix_some hf
          refine va_iald hx hb hK hP 4 0 rfl rfl hin_ d_Rf_placesWrong_108 ?_
          refine lv_if_eq (tgt := 116) hx hb d_Rf_placesWrong_109 rfl (fun hc51 => ?_) (fun hc51 => ?_)
          · have hf := ift hf hc51
            refine lv_iconst (v := 0) hx hb d_Rf_placesWrong_116 (by decide) ?_
            have e1_ := lf1 hf
            subst e1_
            have hP9 := hP.sub (ws' := [(hq, .inr (3, [.ref qm, .ref qf, .ref ql, .int nc, .int nd, .int nf, .int na, .int nz, .int no, .int ns, .int nv, .int np, .ref qi, .int nn, .ref qo, .int nt])), (qm, .inl (cI, 104, .inl nm)), (qf, .inl (cI, 104, .inl nb)), (ql, .inl (cI, 4, .inl nl)), (qi, .inl (cI, 24, .inl ni)), (qo, .inl (cI, 16, .inl nu))]) [0, 1, 2, 3, 4, 5] rfl
            have hD9 := hD.sub (ws' := [(hq, .inr (3, [.ref qm, .ref qf, .ref ql, .int nc, .int nd, .int nf, .int na, .int nz, .int no, .int ns, .int nv, .int np, .ref qi, .int nn, .ref qo, .int nt])), (qm, .inl (cI, 104, .inl nm)), (qf, .inl (cI, 104, .inl nb)), (ql, .inl (cI, 4, .inl nl)), (qi, .inl (cI, 24, .inl ni)), (qo, .inl (cI, 16, .inl nu))]) [0, 1, 2, 3, 4, 5] (by decide) rfl
            exact W.zret (v := 0) (ty := .boolean) hx hb hr rfl (fun t ht hW => ⟨⟨0, (), rfl, ⟨rfl, rfl⟩, by rw [ht]; exact hP9, va_K.moved hW.alike hK, hD9⟩, hS.F ht⟩) hS.2.2 d_Rf_placesWrong_117
          have hf := ifn hf hc51
          refine lv_iconst (v := 1) hx hb d_Rf_placesWrong_112 (by decide) ?_
          refine lv_goto (tgt := 117) hx hb d_Rf_placesWrong_113 rfl ?_
          have e1_ := lf1 hf
          subst e1_
          have hP9 := hP.sub (ws' := [(hq, .inr (3, [.ref qm, .ref qf, .ref ql, .int nc, .int nd, .int nf, .int na, .int nz, .int no, .int ns, .int nv, .int np, .ref qi, .int nn, .ref qo, .int nt])), (qm, .inl (cI, 104, .inl nm)), (qf, .inl (cI, 104, .inl nb)), (ql, .inl (cI, 4, .inl nl)), (qi, .inl (cI, 24, .inl ni)), (qo, .inl (cI, 16, .inl nu))]) [0, 1, 2, 3, 4, 5] rfl
          have hD9 := hD.sub (ws' := [(hq, .inr (3, [.ref qm, .ref qf, .ref ql, .int nc, .int nd, .int nf, .int na, .int nz, .int no, .int ns, .int nv, .int np, .ref qi, .int nn, .ref qo, .int nt])), (qm, .inl (cI, 104, .inl nm)), (qf, .inl (cI, 104, .inl nb)), (ql, .inl (cI, 4, .inl nl)), (qi, .inl (cI, 24, .inl ni)), (qo, .inl (cI, 16, .inl nu))]) [0, 1, 2, 3, 4, 5] (by decide) rfl
          exact W.zret (v := 1) (ty := .boolean) hx hb hr rfl (fun t ht hW => ⟨⟨1, (), rfl, ⟨rfl, rfl⟩, by rw [ht]; exact hP9, va_K.moved hW.alike hK, hD9⟩, hS.F ht⟩) hS.2.2 d_Rf_placesWrong_117
        have hf := ifn hf hc46
        refine lv_iload_n hx hb d_Rf_placesWrong_76 rfl (lv_at hl 2 rfl) ?_
        refine lv_sipush (v := 220) hx hb d_Rf_placesWrong_77 (by decide) ?_
        refine lv_icmp_ne (tgt := 87) hx hb d_Rf_placesWrong_80 rfl (fun hc52 => ?_) (fun hc52 => ?_)
        · have hf := ifn hf hc52
          refine lv_iconst (v := 0) hx hb d_Rf_placesWrong_87 (by decide) ?_
          refine lv_istore_n hx hb d_Rf_placesWrong_88 rfl hl (by decide) rfl (fun ls hl => ?_)
          have hl : lv_has ls 4 [(3, .int 0), (2, .int 7), (0, .ref hq), (1, .int a1)] := hl
          refine lv_aload_n hx hb d_Rf_placesWrong_89 rfl (lv_at hl 2 rfl) ?_
          refine va_get (D := (dC, dI)) (ci := 3) (v := .ref qi) (C := R_Rf) (T := F_Rf) (N := 16) hx hb hts inRf hown hK hP 0 rfl rfl 12 (by decide) kf27 (fun _ h9 => h9) rfl d_Rf_placesWrong_90 ?_
          refine lv_iconst (v := 2) hx hb d_Rf_placesWrong_93 (by decide) ?_
          obtain ⟨hin_, hf⟩ := ix_some hf
          refine va_iald hx hb hK hP 4 0 rfl rfl hin_ d_Rf_placesWrong_94 ?_
          refine lv_iload_n hx hb d_Rf_placesWrong_95 rfl (lv_at hl 1 rfl) ?_
          refine lv_icmp_gt (tgt := 112) hx hb d_Rf_placesWrong_96 rfl (fun hc54 => ?_) (fun hc54 => ?_)
          · have hf := ift hf hc54
            refine lv_iconst (v := 1) hx hb d_Rf_placesWrong_112 (by decide) ?_
            refine lv_goto (tgt := 117) hx hb d_Rf_placesWrong_113 rfl ?_
            have e1_ := lf1 hf
            subst e1_
            have hP9 := hP.sub (ws' := [(hq, .inr (3, [.ref qm, .ref qf, .ref ql, .int nc, .int nd, .int nf, .int na, .int nz, .int no, .int ns, .int nv, .int np, .ref qi, .int nn, .ref qo, .int nt])), (qm, .inl (cI, 104, .inl nm)), (qf, .inl (cI, 104, .inl nb)), (ql, .inl (cI, 4, .inl nl)), (qi, .inl (cI, 24, .inl ni)), (qo, .inl (cI, 16, .inl nu))]) [0, 1, 2, 3, 4, 5] rfl
            have hD9 := hD.sub (ws' := [(hq, .inr (3, [.ref qm, .ref qf, .ref ql, .int nc, .int nd, .int nf, .int na, .int nz, .int no, .int ns, .int nv, .int np, .ref qi, .int nn, .ref qo, .int nt])), (qm, .inl (cI, 104, .inl nm)), (qf, .inl (cI, 104, .inl nb)), (ql, .inl (cI, 4, .inl nl)), (qi, .inl (cI, 24, .inl ni)), (qo, .inl (cI, 16, .inl nu))]) [0, 1, 2, 3, 4, 5] (by decide) rfl
            exact W.zret (v := 1) (ty := .boolean) hx hb hr rfl (fun t ht hW => ⟨⟨1, (), rfl, ⟨rfl, rfl⟩, by rw [ht]; exact hP9, va_K.moved hW.alike hK, hD9⟩, hS.F ht⟩) hS.2.2 d_Rf_placesWrong_117
          have hf := ifn hf hc54
          refine lv_iload_n hx hb d_Rf_placesWrong_99 rfl (lv_at hl 0 rfl) ?_
          refine lv_if_ne (tgt := 116) hx hb d_Rf_placesWrong_100 rfl (fun hc55 => ?_) (fun hc55 => ?_)
          · have hf := ifn hf hc55
            refine lv_iconst (v := 0) hx hb d_Rf_placesWrong_116 (by decide) ?_
            have e1_ := lf1 hf
            subst e1_
            have hP9 := hP.sub (ws' := [(hq, .inr (3, [.ref qm, .ref qf, .ref ql, .int nc, .int nd, .int nf, .int na, .int nz, .int no, .int ns, .int nv, .int np, .ref qi, .int nn, .ref qo, .int nt])), (qm, .inl (cI, 104, .inl nm)), (qf, .inl (cI, 104, .inl nb)), (ql, .inl (cI, 4, .inl nl)), (qi, .inl (cI, 24, .inl ni)), (qo, .inl (cI, 16, .inl nu))]) [0, 1, 2, 3, 4, 5] rfl
            have hD9 := hD.sub (ws' := [(hq, .inr (3, [.ref qm, .ref qf, .ref ql, .int nc, .int nd, .int nf, .int na, .int nz, .int no, .int ns, .int nv, .int np, .ref qi, .int nn, .ref qo, .int nt])), (qm, .inl (cI, 104, .inl nm)), (qf, .inl (cI, 104, .inl nb)), (ql, .inl (cI, 4, .inl nl)), (qi, .inl (cI, 24, .inl ni)), (qo, .inl (cI, 16, .inl nu))]) [0, 1, 2, 3, 4, 5] (by decide) rfl
            exact W.zret (v := 0) (ty := .boolean) hx hb hr rfl (fun t ht hW => ⟨⟨0, (), rfl, ⟨rfl, rfl⟩, by rw [ht]; exact hP9, va_K.moved hW.alike hK, hD9⟩, hS.F ht⟩) hS.2.2 d_Rf_placesWrong_117
          have hf := ift hf hc55
          refine lv_aload_n hx hb d_Rf_placesWrong_103 rfl (lv_at hl 2 rfl) ?_
          refine va_get (D := (dC, dI)) (ci := 3) (v := .ref qi) (C := R_Rf) (T := F_Rf) (N := 16) hx hb hts inRf hown hK hP 0 rfl rfl 12 (by decide) kf27 (fun _ h9 => h9) rfl d_Rf_placesWrong_104 ?_
          refine lv_iconst (v := 3) hx hb d_Rf_placesWrong_107 (by decide) ?_
          obtain ⟨hin_, hf⟩ := ix_some hf
          refine va_iald hx hb hK hP 4 0 rfl rfl hin_ d_Rf_placesWrong_108 ?_
          refine lv_if_eq (tgt := 116) hx hb d_Rf_placesWrong_109 rfl (fun hc57 => ?_) (fun hc57 => ?_)
          · have hf := ift hf hc57
            refine lv_iconst (v := 0) hx hb d_Rf_placesWrong_116 (by decide) ?_
            have e1_ := lf1 hf
            subst e1_
            have hP9 := hP.sub (ws' := [(hq, .inr (3, [.ref qm, .ref qf, .ref ql, .int nc, .int nd, .int nf, .int na, .int nz, .int no, .int ns, .int nv, .int np, .ref qi, .int nn, .ref qo, .int nt])), (qm, .inl (cI, 104, .inl nm)), (qf, .inl (cI, 104, .inl nb)), (ql, .inl (cI, 4, .inl nl)), (qi, .inl (cI, 24, .inl ni)), (qo, .inl (cI, 16, .inl nu))]) [0, 1, 2, 3, 4, 5] rfl
            have hD9 := hD.sub (ws' := [(hq, .inr (3, [.ref qm, .ref qf, .ref ql, .int nc, .int nd, .int nf, .int na, .int nz, .int no, .int ns, .int nv, .int np, .ref qi, .int nn, .ref qo, .int nt])), (qm, .inl (cI, 104, .inl nm)), (qf, .inl (cI, 104, .inl nb)), (ql, .inl (cI, 4, .inl nl)), (qi, .inl (cI, 24, .inl ni)), (qo, .inl (cI, 16, .inl nu))]) [0, 1, 2, 3, 4, 5] (by decide) rfl
            exact W.zret (v := 0) (ty := .boolean) hx hb hr rfl (fun t ht hW => ⟨⟨0, (), rfl, ⟨rfl, rfl⟩, by rw [ht]; exact hP9, va_K.moved hW.alike hK, hD9⟩, hS.F ht⟩) hS.2.2 d_Rf_placesWrong_117
          have hf := ifn hf hc57
          refine lv_iconst (v := 1) hx hb d_Rf_placesWrong_112 (by decide) ?_
          refine lv_goto (tgt := 117) hx hb d_Rf_placesWrong_113 rfl ?_
          have e1_ := lf1 hf
          subst e1_
          have hP9 := hP.sub (ws' := [(hq, .inr (3, [.ref qm, .ref qf, .ref ql, .int nc, .int nd, .int nf, .int na, .int nz, .int no, .int ns, .int nv, .int np, .ref qi, .int nn, .ref qo, .int nt])), (qm, .inl (cI, 104, .inl nm)), (qf, .inl (cI, 104, .inl nb)), (ql, .inl (cI, 4, .inl nl)), (qi, .inl (cI, 24, .inl ni)), (qo, .inl (cI, 16, .inl nu))]) [0, 1, 2, 3, 4, 5] rfl
          have hD9 := hD.sub (ws' := [(hq, .inr (3, [.ref qm, .ref qf, .ref ql, .int nc, .int nd, .int nf, .int na, .int nz, .int no, .int ns, .int nv, .int np, .ref qi, .int nn, .ref qo, .int nt])), (qm, .inl (cI, 104, .inl nm)), (qf, .inl (cI, 104, .inl nb)), (ql, .inl (cI, 4, .inl nl)), (qi, .inl (cI, 24, .inl ni)), (qo, .inl (cI, 16, .inl nu))]) [0, 1, 2, 3, 4, 5] (by decide) rfl
          exact W.zret (v := 1) (ty := .boolean) hx hb hr rfl (fun t ht hW => ⟨⟨1, (), rfl, ⟨rfl, rfl⟩, by rw [ht]; exact hP9, va_K.moved hW.alike hK, hD9⟩, hS.F ht⟩) hS.2.2 d_Rf_placesWrong_117
        have hf := ift hf hc52
        refine lv_iconst (v := 1) hx hb d_Rf_placesWrong_83 (by decide) ?_
        refine lv_goto (tgt := 88) hx hb d_Rf_placesWrong_84 rfl ?_
        refine lv_istore_n hx hb d_Rf_placesWrong_88 rfl hl (by decide) rfl (fun ls hl => ?_)
        have hl : lv_has ls 4 [(3, .int 1), (2, .int 7), (0, .ref hq), (1, .int a1)] := hl
        refine lv_aload_n hx hb d_Rf_placesWrong_89 rfl (lv_at hl 2 rfl) ?_
        refine va_get (D := (dC, dI)) (ci := 3) (v := .ref qi) (C := R_Rf) (T := F_Rf) (N := 16) hx hb hts inRf hown hK hP 0 rfl rfl 12 (by decide) kf27 (fun _ h9 => h9) rfl d_Rf_placesWrong_90 ?_
        refine lv_iconst (v := 2) hx hb d_Rf_placesWrong_93 (by decide) ?_
        obtain ⟨hin_, hf⟩ := ix_some hf
        refine va_iald hx hb hK hP 4 0 rfl rfl hin_ d_Rf_placesWrong_94 ?_
        refine lv_iload_n hx hb d_Rf_placesWrong_95 rfl (lv_at hl 1 rfl) ?_
        refine lv_icmp_gt (tgt := 112) hx hb d_Rf_placesWrong_96 rfl (fun hc59 => ?_) (fun hc59 => ?_)
        · have hf := ift hf hc59
          refine lv_iconst (v := 1) hx hb d_Rf_placesWrong_112 (by decide) ?_
          refine lv_goto (tgt := 117) hx hb d_Rf_placesWrong_113 rfl ?_
          have e1_ := lf1 hf
          subst e1_
          have hP9 := hP.sub (ws' := [(hq, .inr (3, [.ref qm, .ref qf, .ref ql, .int nc, .int nd, .int nf, .int na, .int nz, .int no, .int ns, .int nv, .int np, .ref qi, .int nn, .ref qo, .int nt])), (qm, .inl (cI, 104, .inl nm)), (qf, .inl (cI, 104, .inl nb)), (ql, .inl (cI, 4, .inl nl)), (qi, .inl (cI, 24, .inl ni)), (qo, .inl (cI, 16, .inl nu))]) [0, 1, 2, 3, 4, 5] rfl
          have hD9 := hD.sub (ws' := [(hq, .inr (3, [.ref qm, .ref qf, .ref ql, .int nc, .int nd, .int nf, .int na, .int nz, .int no, .int ns, .int nv, .int np, .ref qi, .int nn, .ref qo, .int nt])), (qm, .inl (cI, 104, .inl nm)), (qf, .inl (cI, 104, .inl nb)), (ql, .inl (cI, 4, .inl nl)), (qi, .inl (cI, 24, .inl ni)), (qo, .inl (cI, 16, .inl nu))]) [0, 1, 2, 3, 4, 5] (by decide) rfl
          exact W.zret (v := 1) (ty := .boolean) hx hb hr rfl (fun t ht hW => ⟨⟨1, (), rfl, ⟨rfl, rfl⟩, by rw [ht]; exact hP9, va_K.moved hW.alike hK, hD9⟩, hS.F ht⟩) hS.2.2 d_Rf_placesWrong_117
        have hf := ifn hf hc59
        refine lv_iload_n hx hb d_Rf_placesWrong_99 rfl (lv_at hl 0 rfl) ?_
        refine lv_if_ne (tgt := 116) hx hb d_Rf_placesWrong_100 rfl (fun hc60 => ?_) (fun hc60 => ?_)
        · have hf := ifn hf hc60
          refine lv_iconst (v := 0) hx hb d_Rf_placesWrong_116 (by decide) ?_
          have e1_ := lf1 hf
          subst e1_
          have hP9 := hP.sub (ws' := [(hq, .inr (3, [.ref qm, .ref qf, .ref ql, .int nc, .int nd, .int nf, .int na, .int nz, .int no, .int ns, .int nv, .int np, .ref qi, .int nn, .ref qo, .int nt])), (qm, .inl (cI, 104, .inl nm)), (qf, .inl (cI, 104, .inl nb)), (ql, .inl (cI, 4, .inl nl)), (qi, .inl (cI, 24, .inl ni)), (qo, .inl (cI, 16, .inl nu))]) [0, 1, 2, 3, 4, 5] rfl
          have hD9 := hD.sub (ws' := [(hq, .inr (3, [.ref qm, .ref qf, .ref ql, .int nc, .int nd, .int nf, .int na, .int nz, .int no, .int ns, .int nv, .int np, .ref qi, .int nn, .ref qo, .int nt])), (qm, .inl (cI, 104, .inl nm)), (qf, .inl (cI, 104, .inl nb)), (ql, .inl (cI, 4, .inl nl)), (qi, .inl (cI, 24, .inl ni)), (qo, .inl (cI, 16, .inl nu))]) [0, 1, 2, 3, 4, 5] (by decide) rfl
          exact W.zret (v := 0) (ty := .boolean) hx hb hr rfl (fun t ht hW => ⟨⟨0, (), rfl, ⟨rfl, rfl⟩, by rw [ht]; exact hP9, va_K.moved hW.alike hK, hD9⟩, hS.F ht⟩) hS.2.2 d_Rf_placesWrong_117
        have hf := ift hf hc60
        refine lv_aload_n hx hb d_Rf_placesWrong_103 rfl (lv_at hl 2 rfl) ?_
        refine va_get (D := (dC, dI)) (ci := 3) (v := .ref qi) (C := R_Rf) (T := F_Rf) (N := 16) hx hb hts inRf hown hK hP 0 rfl rfl 12 (by decide) kf27 (fun _ h9 => h9) rfl d_Rf_placesWrong_104 ?_
        refine lv_iconst (v := 3) hx hb d_Rf_placesWrong_107 (by decide) ?_
        obtain ⟨hin_, hf⟩ := ix_some hf
        refine va_iald hx hb hK hP 4 0 rfl rfl hin_ d_Rf_placesWrong_108 ?_
        refine lv_if_eq (tgt := 116) hx hb d_Rf_placesWrong_109 rfl (fun hc62 => ?_) (fun hc62 => ?_)
        · have hf := ift hf hc62
          refine lv_iconst (v := 0) hx hb d_Rf_placesWrong_116 (by decide) ?_
          have e1_ := lf1 hf
          subst e1_
          have hP9 := hP.sub (ws' := [(hq, .inr (3, [.ref qm, .ref qf, .ref ql, .int nc, .int nd, .int nf, .int na, .int nz, .int no, .int ns, .int nv, .int np, .ref qi, .int nn, .ref qo, .int nt])), (qm, .inl (cI, 104, .inl nm)), (qf, .inl (cI, 104, .inl nb)), (ql, .inl (cI, 4, .inl nl)), (qi, .inl (cI, 24, .inl ni)), (qo, .inl (cI, 16, .inl nu))]) [0, 1, 2, 3, 4, 5] rfl
          have hD9 := hD.sub (ws' := [(hq, .inr (3, [.ref qm, .ref qf, .ref ql, .int nc, .int nd, .int nf, .int na, .int nz, .int no, .int ns, .int nv, .int np, .ref qi, .int nn, .ref qo, .int nt])), (qm, .inl (cI, 104, .inl nm)), (qf, .inl (cI, 104, .inl nb)), (ql, .inl (cI, 4, .inl nl)), (qi, .inl (cI, 24, .inl ni)), (qo, .inl (cI, 16, .inl nu))]) [0, 1, 2, 3, 4, 5] (by decide) rfl
          exact W.zret (v := 0) (ty := .boolean) hx hb hr rfl (fun t ht hW => ⟨⟨0, (), rfl, ⟨rfl, rfl⟩, by rw [ht]; exact hP9, va_K.moved hW.alike hK, hD9⟩, hS.F ht⟩) hS.2.2 d_Rf_placesWrong_117
        have hf := ifn hf hc62
        refine lv_iconst (v := 1) hx hb d_Rf_placesWrong_112 (by decide) ?_
        refine lv_goto (tgt := 117) hx hb d_Rf_placesWrong_113 rfl ?_
        have e1_ := lf1 hf
        subst e1_
        have hP9 := hP.sub (ws' := [(hq, .inr (3, [.ref qm, .ref qf, .ref ql, .int nc, .int nd, .int nf, .int na, .int nz, .int no, .int ns, .int nv, .int np, .ref qi, .int nn, .ref qo, .int nt])), (qm, .inl (cI, 104, .inl nm)), (qf, .inl (cI, 104, .inl nb)), (ql, .inl (cI, 4, .inl nl)), (qi, .inl (cI, 24, .inl ni)), (qo, .inl (cI, 16, .inl nu))]) [0, 1, 2, 3, 4, 5] rfl
        have hD9 := hD.sub (ws' := [(hq, .inr (3, [.ref qm, .ref qf, .ref ql, .int nc, .int nd, .int nf, .int na, .int nz, .int no, .int ns, .int nv, .int np, .ref qi, .int nn, .ref qo, .int nt])), (qm, .inl (cI, 104, .inl nm)), (qf, .inl (cI, 104, .inl nb)), (ql, .inl (cI, 4, .inl nl)), (qi, .inl (cI, 24, .inl ni)), (qo, .inl (cI, 16, .inl nu))]) [0, 1, 2, 3, 4, 5] (by decide) rfl
        exact W.zret (v := 1) (ty := .boolean) hx hb hr rfl (fun t ht hW => ⟨⟨1, (), rfl, ⟨rfl, rfl⟩, by rw [ht]; exact hP9, va_K.moved hW.alike hK, hD9⟩, hS.F ht⟩) hS.2.2 d_Rf_placesWrong_117
      have hf := ifn hf hc33
      refine lv_iload_n hx hb d_Rf_placesWrong_34 rfl (lv_at hl 1 rfl) ?_
      refine lv_sipush (v := 178) hx hb d_Rf_placesWrong_35 (by decide) ?_
      refine lv_icmp_eq (tgt := 48) hx hb d_Rf_placesWrong_38 rfl (fun hc63 => ?_) (fun hc63 => ?_)
      · have hf := ift hf hc63
        refine lv_bipush (v := 7) hx hb d_Rf_placesWrong_48 (by decide) ?_
        refine lv_goto (tgt := 54) hx hb d_Rf_placesWrong_50 rfl ?_
        refine lv_istore_n hx hb d_Rf_placesWrong_54 rfl hl (by decide) rfl (fun ls hl => ?_)
        have hl : lv_has ls 4 [(2, .int 7), (0, .ref hq), (1, .int a1)] := hl
        refine lv_iload_n hx hb d_Rf_placesWrong_55 rfl (lv_at hl 2 rfl) ?_
        refine lv_sipush (v := 176) hx hb d_Rf_placesWrong_56 (by decide) ?_
        refine lv_icmp_eq (tgt := 83) hx hb d_Rf_placesWrong_59 rfl (fun hc64 => ?_) (fun hc64 => ?_)
        · have hf := ift hf hc64
          refine lv_iconst (v := 1) hx hb d_Rf_placesWrong_83 (by decide) ?_
          refine lv_goto (tgt := 88) hx hb d_Rf_placesWrong_84 rfl ?_
          refine lv_istore_n hx hb d_Rf_placesWrong_88 rfl hl (by decide) rfl (fun ls hl => ?_)
          have hl : lv_has ls 4 [(3, .int 1), (2, .int 7), (0, .ref hq), (1, .int a1)] := hl
          refine lv_aload_n hx hb d_Rf_placesWrong_89 rfl (lv_at hl 2 rfl) ?_
          refine va_get (D := (dC, dI)) (ci := 3) (v := .ref qi) (C := R_Rf) (T := F_Rf) (N := 16) hx hb hts inRf hown hK hP 0 rfl rfl 12 (by decide) kf27 (fun _ h9 => h9) rfl d_Rf_placesWrong_90 ?_
          refine lv_iconst (v := 2) hx hb d_Rf_placesWrong_93 (by decide) ?_
          obtain ⟨hin_, hf⟩ := ix_some hf
          refine va_iald hx hb hK hP 4 0 rfl rfl hin_ d_Rf_placesWrong_94 ?_
          refine lv_iload_n hx hb d_Rf_placesWrong_95 rfl (lv_at hl 1 rfl) ?_
          refine lv_icmp_gt (tgt := 112) hx hb d_Rf_placesWrong_96 rfl (fun hc66 => ?_) (fun hc66 => ?_)
          · have hf := ift hf hc66
            refine lv_iconst (v := 1) hx hb d_Rf_placesWrong_112 (by decide) ?_
            refine lv_goto (tgt := 117) hx hb d_Rf_placesWrong_113 rfl ?_
            have e1_ := lf1 hf
            subst e1_
            have hP9 := hP.sub (ws' := [(hq, .inr (3, [.ref qm, .ref qf, .ref ql, .int nc, .int nd, .int nf, .int na, .int nz, .int no, .int ns, .int nv, .int np, .ref qi, .int nn, .ref qo, .int nt])), (qm, .inl (cI, 104, .inl nm)), (qf, .inl (cI, 104, .inl nb)), (ql, .inl (cI, 4, .inl nl)), (qi, .inl (cI, 24, .inl ni)), (qo, .inl (cI, 16, .inl nu))]) [0, 1, 2, 3, 4, 5] rfl
            have hD9 := hD.sub (ws' := [(hq, .inr (3, [.ref qm, .ref qf, .ref ql, .int nc, .int nd, .int nf, .int na, .int nz, .int no, .int ns, .int nv, .int np, .ref qi, .int nn, .ref qo, .int nt])), (qm, .inl (cI, 104, .inl nm)), (qf, .inl (cI, 104, .inl nb)), (ql, .inl (cI, 4, .inl nl)), (qi, .inl (cI, 24, .inl ni)), (qo, .inl (cI, 16, .inl nu))]) [0, 1, 2, 3, 4, 5] (by decide) rfl
            exact W.zret (v := 1) (ty := .boolean) hx hb hr rfl (fun t ht hW => ⟨⟨1, (), rfl, ⟨rfl, rfl⟩, by rw [ht]; exact hP9, va_K.moved hW.alike hK, hD9⟩, hS.F ht⟩) hS.2.2 d_Rf_placesWrong_117
          have hf := ifn hf hc66
          refine lv_iload_n hx hb d_Rf_placesWrong_99 rfl (lv_at hl 0 rfl) ?_
          refine lv_if_ne (tgt := 116) hx hb d_Rf_placesWrong_100 rfl (fun hc67 => ?_) (fun hc67 => ?_)
          · have hf := ifn hf hc67
            refine lv_iconst (v := 0) hx hb d_Rf_placesWrong_116 (by decide) ?_
            have e1_ := lf1 hf
            subst e1_
            have hP9 := hP.sub (ws' := [(hq, .inr (3, [.ref qm, .ref qf, .ref ql, .int nc, .int nd, .int nf, .int na, .int nz, .int no, .int ns, .int nv, .int np, .ref qi, .int nn, .ref qo, .int nt])), (qm, .inl (cI, 104, .inl nm)), (qf, .inl (cI, 104, .inl nb)), (ql, .inl (cI, 4, .inl nl)), (qi, .inl (cI, 24, .inl ni)), (qo, .inl (cI, 16, .inl nu))]) [0, 1, 2, 3, 4, 5] rfl
            have hD9 := hD.sub (ws' := [(hq, .inr (3, [.ref qm, .ref qf, .ref ql, .int nc, .int nd, .int nf, .int na, .int nz, .int no, .int ns, .int nv, .int np, .ref qi, .int nn, .ref qo, .int nt])), (qm, .inl (cI, 104, .inl nm)), (qf, .inl (cI, 104, .inl nb)), (ql, .inl (cI, 4, .inl nl)), (qi, .inl (cI, 24, .inl ni)), (qo, .inl (cI, 16, .inl nu))]) [0, 1, 2, 3, 4, 5] (by decide) rfl
            exact W.zret (v := 0) (ty := .boolean) hx hb hr rfl (fun t ht hW => ⟨⟨0, (), rfl, ⟨rfl, rfl⟩, by rw [ht]; exact hP9, va_K.moved hW.alike hK, hD9⟩, hS.F ht⟩) hS.2.2 d_Rf_placesWrong_117
          have hf := ift hf hc67
          refine lv_aload_n hx hb d_Rf_placesWrong_103 rfl (lv_at hl 2 rfl) ?_
          refine va_get (D := (dC, dI)) (ci := 3) (v := .ref qi) (C := R_Rf) (T := F_Rf) (N := 16) hx hb hts inRf hown hK hP 0 rfl rfl 12 (by decide) kf27 (fun _ h9 => h9) rfl d_Rf_placesWrong_104 ?_
          refine lv_iconst (v := 3) hx hb d_Rf_placesWrong_107 (by decide) ?_
          obtain ⟨hin_, hf⟩ := ix_some hf
          refine va_iald hx hb hK hP 4 0 rfl rfl hin_ d_Rf_placesWrong_108 ?_
          refine lv_if_eq (tgt := 116) hx hb d_Rf_placesWrong_109 rfl (fun hc69 => ?_) (fun hc69 => ?_)
          · have hf := ift hf hc69
            refine lv_iconst (v := 0) hx hb d_Rf_placesWrong_116 (by decide) ?_
            have e1_ := lf1 hf
            subst e1_
            have hP9 := hP.sub (ws' := [(hq, .inr (3, [.ref qm, .ref qf, .ref ql, .int nc, .int nd, .int nf, .int na, .int nz, .int no, .int ns, .int nv, .int np, .ref qi, .int nn, .ref qo, .int nt])), (qm, .inl (cI, 104, .inl nm)), (qf, .inl (cI, 104, .inl nb)), (ql, .inl (cI, 4, .inl nl)), (qi, .inl (cI, 24, .inl ni)), (qo, .inl (cI, 16, .inl nu))]) [0, 1, 2, 3, 4, 5] rfl
            have hD9 := hD.sub (ws' := [(hq, .inr (3, [.ref qm, .ref qf, .ref ql, .int nc, .int nd, .int nf, .int na, .int nz, .int no, .int ns, .int nv, .int np, .ref qi, .int nn, .ref qo, .int nt])), (qm, .inl (cI, 104, .inl nm)), (qf, .inl (cI, 104, .inl nb)), (ql, .inl (cI, 4, .inl nl)), (qi, .inl (cI, 24, .inl ni)), (qo, .inl (cI, 16, .inl nu))]) [0, 1, 2, 3, 4, 5] (by decide) rfl
            exact W.zret (v := 0) (ty := .boolean) hx hb hr rfl (fun t ht hW => ⟨⟨0, (), rfl, ⟨rfl, rfl⟩, by rw [ht]; exact hP9, va_K.moved hW.alike hK, hD9⟩, hS.F ht⟩) hS.2.2 d_Rf_placesWrong_117
          have hf := ifn hf hc69
          refine lv_iconst (v := 1) hx hb d_Rf_placesWrong_112 (by decide) ?_
          refine lv_goto (tgt := 117) hx hb d_Rf_placesWrong_113 rfl ?_
          have e1_ := lf1 hf
          subst e1_
          have hP9 := hP.sub (ws' := [(hq, .inr (3, [.ref qm, .ref qf, .ref ql, .int nc, .int nd, .int nf, .int na, .int nz, .int no, .int ns, .int nv, .int np, .ref qi, .int nn, .ref qo, .int nt])), (qm, .inl (cI, 104, .inl nm)), (qf, .inl (cI, 104, .inl nb)), (ql, .inl (cI, 4, .inl nl)), (qi, .inl (cI, 24, .inl ni)), (qo, .inl (cI, 16, .inl nu))]) [0, 1, 2, 3, 4, 5] rfl
          have hD9 := hD.sub (ws' := [(hq, .inr (3, [.ref qm, .ref qf, .ref ql, .int nc, .int nd, .int nf, .int na, .int nz, .int no, .int ns, .int nv, .int np, .ref qi, .int nn, .ref qo, .int nt])), (qm, .inl (cI, 104, .inl nm)), (qf, .inl (cI, 104, .inl nb)), (ql, .inl (cI, 4, .inl nl)), (qi, .inl (cI, 24, .inl ni)), (qo, .inl (cI, 16, .inl nu))]) [0, 1, 2, 3, 4, 5] (by decide) rfl
          exact W.zret (v := 1) (ty := .boolean) hx hb hr rfl (fun t ht hW => ⟨⟨1, (), rfl, ⟨rfl, rfl⟩, by rw [ht]; exact hP9, va_K.moved hW.alike hK, hD9⟩, hS.F ht⟩) hS.2.2 d_Rf_placesWrong_117
        have hf := ifn hf hc64
        refine lv_iload_n hx hb d_Rf_placesWrong_62 rfl (lv_at hl 2 rfl) ?_
        refine lv_sipush (v := 214) hx hb d_Rf_placesWrong_63 (by decide) ?_
        refine lv_icmp_eq (tgt := 83) hx hb d_Rf_placesWrong_66 rfl (fun hc70 => ?_) (fun hc70 => ?_)
        · have hf := ift hf hc70
          refine lv_iconst (v := 1) hx hb d_Rf_placesWrong_83 (by decide) ?_
          refine lv_goto (tgt := 88) hx hb d_Rf_placesWrong_84 rfl ?_
          refine lv_istore_n hx hb d_Rf_placesWrong_88 rfl hl (by decide) rfl (fun ls hl => ?_)
          have hl : lv_has ls 4 [(3, .int 1), (2, .int 7), (0, .ref hq), (1, .int a1)] := hl
          refine lv_aload_n hx hb d_Rf_placesWrong_89 rfl (lv_at hl 2 rfl) ?_
          refine va_get (D := (dC, dI)) (ci := 3) (v := .ref qi) (C := R_Rf) (T := F_Rf) (N := 16) hx hb hts inRf hown hK hP 0 rfl rfl 12 (by decide) kf27 (fun _ h9 => h9) rfl d_Rf_placesWrong_90 ?_
          refine lv_iconst (v := 2) hx hb d_Rf_placesWrong_93 (by decide) ?_
          obtain ⟨hin_, hf⟩ := ix_some hf
          refine va_iald hx hb hK hP 4 0 rfl rfl hin_ d_Rf_placesWrong_94 ?_
          refine lv_iload_n hx hb d_Rf_placesWrong_95 rfl (lv_at hl 1 rfl) ?_
          refine lv_icmp_gt (tgt := 112) hx hb d_Rf_placesWrong_96 rfl (fun hc72 => ?_) (fun hc72 => ?_)
          · have hf := ift hf hc72
            refine lv_iconst (v := 1) hx hb d_Rf_placesWrong_112 (by decide) ?_
            refine lv_goto (tgt := 117) hx hb d_Rf_placesWrong_113 rfl ?_
            have e1_ := lf1 hf
            subst e1_
            have hP9 := hP.sub (ws' := [(hq, .inr (3, [.ref qm, .ref qf, .ref ql, .int nc, .int nd, .int nf, .int na, .int nz, .int no, .int ns, .int nv, .int np, .ref qi, .int nn, .ref qo, .int nt])), (qm, .inl (cI, 104, .inl nm)), (qf, .inl (cI, 104, .inl nb)), (ql, .inl (cI, 4, .inl nl)), (qi, .inl (cI, 24, .inl ni)), (qo, .inl (cI, 16, .inl nu))]) [0, 1, 2, 3, 4, 5] rfl
            have hD9 := hD.sub (ws' := [(hq, .inr (3, [.ref qm, .ref qf, .ref ql, .int nc, .int nd, .int nf, .int na, .int nz, .int no, .int ns, .int nv, .int np, .ref qi, .int nn, .ref qo, .int nt])), (qm, .inl (cI, 104, .inl nm)), (qf, .inl (cI, 104, .inl nb)), (ql, .inl (cI, 4, .inl nl)), (qi, .inl (cI, 24, .inl ni)), (qo, .inl (cI, 16, .inl nu))]) [0, 1, 2, 3, 4, 5] (by decide) rfl
            exact W.zret (v := 1) (ty := .boolean) hx hb hr rfl (fun t ht hW => ⟨⟨1, (), rfl, ⟨rfl, rfl⟩, by rw [ht]; exact hP9, va_K.moved hW.alike hK, hD9⟩, hS.F ht⟩) hS.2.2 d_Rf_placesWrong_117
          have hf := ifn hf hc72
          refine lv_iload_n hx hb d_Rf_placesWrong_99 rfl (lv_at hl 0 rfl) ?_
          refine lv_if_ne (tgt := 116) hx hb d_Rf_placesWrong_100 rfl (fun hc73 => ?_) (fun hc73 => ?_)
          · have hf := ifn hf hc73
            refine lv_iconst (v := 0) hx hb d_Rf_placesWrong_116 (by decide) ?_
            have e1_ := lf1 hf
            subst e1_
            have hP9 := hP.sub (ws' := [(hq, .inr (3, [.ref qm, .ref qf, .ref ql, .int nc, .int nd, .int nf, .int na, .int nz, .int no, .int ns, .int nv, .int np, .ref qi, .int nn, .ref qo, .int nt])), (qm, .inl (cI, 104, .inl nm)), (qf, .inl (cI, 104, .inl nb)), (ql, .inl (cI, 4, .inl nl)), (qi, .inl (cI, 24, .inl ni)), (qo, .inl (cI, 16, .inl nu))]) [0, 1, 2, 3, 4, 5] rfl
            have hD9 := hD.sub (ws' := [(hq, .inr (3, [.ref qm, .ref qf, .ref ql, .int nc, .int nd, .int nf, .int na, .int nz, .int no, .int ns, .int nv, .int np, .ref qi, .int nn, .ref qo, .int nt])), (qm, .inl (cI, 104, .inl nm)), (qf, .inl (cI, 104, .inl nb)), (ql, .inl (cI, 4, .inl nl)), (qi, .inl (cI, 24, .inl ni)), (qo, .inl (cI, 16, .inl nu))]) [0, 1, 2, 3, 4, 5] (by decide) rfl
            exact W.zret (v := 0) (ty := .boolean) hx hb hr rfl (fun t ht hW => ⟨⟨0, (), rfl, ⟨rfl, rfl⟩, by rw [ht]; exact hP9, va_K.moved hW.alike hK, hD9⟩, hS.F ht⟩) hS.2.2 d_Rf_placesWrong_117
          have hf := ift hf hc73
          refine lv_aload_n hx hb d_Rf_placesWrong_103 rfl (lv_at hl 2 rfl) ?_
          refine va_get (D := (dC, dI)) (ci := 3) (v := .ref qi) (C := R_Rf) (T := F_Rf) (N := 16) hx hb hts inRf hown hK hP 0 rfl rfl 12 (by decide) kf27 (fun _ h9 => h9) rfl d_Rf_placesWrong_104 ?_
          refine lv_iconst (v := 3) hx hb d_Rf_placesWrong_107 (by decide) ?_
          obtain ⟨hin_, hf⟩ := ix_some hf
          refine va_iald hx hb hK hP 4 0 rfl rfl hin_ d_Rf_placesWrong_108 ?_
          refine lv_if_eq (tgt := 116) hx hb d_Rf_placesWrong_109 rfl (fun hc75 => ?_) (fun hc75 => ?_)
          · have hf := ift hf hc75
            refine lv_iconst (v := 0) hx hb d_Rf_placesWrong_116 (by decide) ?_
            have e1_ := lf1 hf
            subst e1_
            have hP9 := hP.sub (ws' := [(hq, .inr (3, [.ref qm, .ref qf, .ref ql, .int nc, .int nd, .int nf, .int na, .int nz, .int no, .int ns, .int nv, .int np, .ref qi, .int nn, .ref qo, .int nt])), (qm, .inl (cI, 104, .inl nm)), (qf, .inl (cI, 104, .inl nb)), (ql, .inl (cI, 4, .inl nl)), (qi, .inl (cI, 24, .inl ni)), (qo, .inl (cI, 16, .inl nu))]) [0, 1, 2, 3, 4, 5] rfl
            have hD9 := hD.sub (ws' := [(hq, .inr (3, [.ref qm, .ref qf, .ref ql, .int nc, .int nd, .int nf, .int na, .int nz, .int no, .int ns, .int nv, .int np, .ref qi, .int nn, .ref qo, .int nt])), (qm, .inl (cI, 104, .inl nm)), (qf, .inl (cI, 104, .inl nb)), (ql, .inl (cI, 4, .inl nl)), (qi, .inl (cI, 24, .inl ni)), (qo, .inl (cI, 16, .inl nu))]) [0, 1, 2, 3, 4, 5] (by decide) rfl
            exact W.zret (v := 0) (ty := .boolean) hx hb hr rfl (fun t ht hW => ⟨⟨0, (), rfl, ⟨rfl, rfl⟩, by rw [ht]; exact hP9, va_K.moved hW.alike hK, hD9⟩, hS.F ht⟩) hS.2.2 d_Rf_placesWrong_117
          have hf := ifn hf hc75
          refine lv_iconst (v := 1) hx hb d_Rf_placesWrong_112 (by decide) ?_
          refine lv_goto (tgt := 117) hx hb d_Rf_placesWrong_113 rfl ?_
          have e1_ := lf1 hf
          subst e1_
          have hP9 := hP.sub (ws' := [(hq, .inr (3, [.ref qm, .ref qf, .ref ql, .int nc, .int nd, .int nf, .int na, .int nz, .int no, .int ns, .int nv, .int np, .ref qi, .int nn, .ref qo, .int nt])), (qm, .inl (cI, 104, .inl nm)), (qf, .inl (cI, 104, .inl nb)), (ql, .inl (cI, 4, .inl nl)), (qi, .inl (cI, 24, .inl ni)), (qo, .inl (cI, 16, .inl nu))]) [0, 1, 2, 3, 4, 5] rfl
          have hD9 := hD.sub (ws' := [(hq, .inr (3, [.ref qm, .ref qf, .ref ql, .int nc, .int nd, .int nf, .int na, .int nz, .int no, .int ns, .int nv, .int np, .ref qi, .int nn, .ref qo, .int nt])), (qm, .inl (cI, 104, .inl nm)), (qf, .inl (cI, 104, .inl nb)), (ql, .inl (cI, 4, .inl nl)), (qi, .inl (cI, 24, .inl ni)), (qo, .inl (cI, 16, .inl nu))]) [0, 1, 2, 3, 4, 5] (by decide) rfl
          exact W.zret (v := 1) (ty := .boolean) hx hb hr rfl (fun t ht hW => ⟨⟨1, (), rfl, ⟨rfl, rfl⟩, by rw [ht]; exact hP9, va_K.moved hW.alike hK, hD9⟩, hS.F ht⟩) hS.2.2 d_Rf_placesWrong_117
        have hf := ifn hf hc70
        refine lv_iload_n hx hb d_Rf_placesWrong_69 rfl (lv_at hl 2 rfl) ?_
        refine lv_sipush (v := 178) hx hb d_Rf_placesWrong_70 (by decide) ?_
        refine lv_icmp_eq (tgt := 83) hx hb d_Rf_placesWrong_73 rfl (fun hc76 => ?_) (fun hc76 => ?_)
        · have hf := ift hf hc76
          refine lv_iconst (v := 1) hx hb d_Rf_placesWrong_83 (by decide) ?_
          refine lv_goto (tgt := 88) hx hb d_Rf_placesWrong_84 rfl ?_
          refine lv_istore_n hx hb d_Rf_placesWrong_88 rfl hl (by decide) rfl (fun ls hl => ?_)
          have hl : lv_has ls 4 [(3, .int 1), (2, .int 7), (0, .ref hq), (1, .int a1)] := hl
          refine lv_aload_n hx hb d_Rf_placesWrong_89 rfl (lv_at hl 2 rfl) ?_
          refine va_get (D := (dC, dI)) (ci := 3) (v := .ref qi) (C := R_Rf) (T := F_Rf) (N := 16) hx hb hts inRf hown hK hP 0 rfl rfl 12 (by decide) kf27 (fun _ h9 => h9) rfl d_Rf_placesWrong_90 ?_
          refine lv_iconst (v := 2) hx hb d_Rf_placesWrong_93 (by decide) ?_
          obtain ⟨hin_, hf⟩ := ix_some hf
          refine va_iald hx hb hK hP 4 0 rfl rfl hin_ d_Rf_placesWrong_94 ?_
          refine lv_iload_n hx hb d_Rf_placesWrong_95 rfl (lv_at hl 1 rfl) ?_
          refine lv_icmp_gt (tgt := 112) hx hb d_Rf_placesWrong_96 rfl (fun hc78 => ?_) (fun hc78 => ?_)
          · have hf := ift hf hc78
            refine lv_iconst (v := 1) hx hb d_Rf_placesWrong_112 (by decide) ?_
            refine lv_goto (tgt := 117) hx hb d_Rf_placesWrong_113 rfl ?_
            have e1_ := lf1 hf
            subst e1_
            have hP9 := hP.sub (ws' := [(hq, .inr (3, [.ref qm, .ref qf, .ref ql, .int nc, .int nd, .int nf, .int na, .int nz, .int no, .int ns, .int nv, .int np, .ref qi, .int nn, .ref qo, .int nt])), (qm, .inl (cI, 104, .inl nm)), (qf, .inl (cI, 104, .inl nb)), (ql, .inl (cI, 4, .inl nl)), (qi, .inl (cI, 24, .inl ni)), (qo, .inl (cI, 16, .inl nu))]) [0, 1, 2, 3, 4, 5] rfl
            have hD9 := hD.sub (ws' := [(hq, .inr (3, [.ref qm, .ref qf, .ref ql, .int nc, .int nd, .int nf, .int na, .int nz, .int no, .int ns, .int nv, .int np, .ref qi, .int nn, .ref qo, .int nt])), (qm, .inl (cI, 104, .inl nm)), (qf, .inl (cI, 104, .inl nb)), (ql, .inl (cI, 4, .inl nl)), (qi, .inl (cI, 24, .inl ni)), (qo, .inl (cI, 16, .inl nu))]) [0, 1, 2, 3, 4, 5] (by decide) rfl
            exact W.zret (v := 1) (ty := .boolean) hx hb hr rfl (fun t ht hW => ⟨⟨1, (), rfl, ⟨rfl, rfl⟩, by rw [ht]; exact hP9, va_K.moved hW.alike hK, hD9⟩, hS.F ht⟩) hS.2.2 d_Rf_placesWrong_117
          have hf := ifn hf hc78
          refine lv_iload_n hx hb d_Rf_placesWrong_99 rfl (lv_at hl 0 rfl) ?_
          refine lv_if_ne (tgt := 116) hx hb d_Rf_placesWrong_100 rfl (fun hc79 => ?_) (fun hc79 => ?_)
          · have hf := ifn hf hc79
            refine lv_iconst (v := 0) hx hb d_Rf_placesWrong_116 (by decide) ?_
            have e1_ := lf1 hf
            subst e1_
            have hP9 := hP.sub (ws' := [(hq, .inr (3, [.ref qm, .ref qf, .ref ql, .int nc, .int nd, .int nf, .int na, .int nz, .int no, .int ns, .int nv, .int np, .ref qi, .int nn, .ref qo, .int nt])), (qm, .inl (cI, 104, .inl nm)), (qf, .inl (cI, 104, .inl nb)), (ql, .inl (cI, 4, .inl nl)), (qi, .inl (cI, 24, .inl ni)), (qo, .inl (cI, 16, .inl nu))]) [0, 1, 2, 3, 4, 5] rfl
            have hD9 := hD.sub (ws' := [(hq, .inr (3, [.ref qm, .ref qf, .ref ql, .int nc, .int nd, .int nf, .int na, .int nz, .int no, .int ns, .int nv, .int np, .ref qi, .int nn, .ref qo, .int nt])), (qm, .inl (cI, 104, .inl nm)), (qf, .inl (cI, 104, .inl nb)), (ql, .inl (cI, 4, .inl nl)), (qi, .inl (cI, 24, .inl ni)), (qo, .inl (cI, 16, .inl nu))]) [0, 1, 2, 3, 4, 5] (by decide) rfl
            exact W.zret (v := 0) (ty := .boolean) hx hb hr rfl (fun t ht hW => ⟨⟨0, (), rfl, ⟨rfl, rfl⟩, by rw [ht]; exact hP9, va_K.moved hW.alike hK, hD9⟩, hS.F ht⟩) hS.2.2 d_Rf_placesWrong_117
          have hf := ift hf hc79
          refine lv_aload_n hx hb d_Rf_placesWrong_103 rfl (lv_at hl 2 rfl) ?_
          refine va_get (D := (dC, dI)) (ci := 3) (v := .ref qi) (C := R_Rf) (T := F_Rf) (N := 16) hx hb hts inRf hown hK hP 0 rfl rfl 12 (by decide) kf27 (fun _ h9 => h9) rfl d_Rf_placesWrong_104 ?_
          refine lv_iconst (v := 3) hx hb d_Rf_placesWrong_107 (by decide) ?_
          obtain ⟨hin_, hf⟩ := ix_some hf
          refine va_iald hx hb hK hP 4 0 rfl rfl hin_ d_Rf_placesWrong_108 ?_
          refine lv_if_eq (tgt := 116) hx hb d_Rf_placesWrong_109 rfl (fun hc81 => ?_) (fun hc81 => ?_)
          · have hf := ift hf hc81
            refine lv_iconst (v := 0) hx hb d_Rf_placesWrong_116 (by decide) ?_
            have e1_ := lf1 hf
            subst e1_
            have hP9 := hP.sub (ws' := [(hq, .inr (3, [.ref qm, .ref qf, .ref ql, .int nc, .int nd, .int nf, .int na, .int nz, .int no, .int ns, .int nv, .int np, .ref qi, .int nn, .ref qo, .int nt])), (qm, .inl (cI, 104, .inl nm)), (qf, .inl (cI, 104, .inl nb)), (ql, .inl (cI, 4, .inl nl)), (qi, .inl (cI, 24, .inl ni)), (qo, .inl (cI, 16, .inl nu))]) [0, 1, 2, 3, 4, 5] rfl
            have hD9 := hD.sub (ws' := [(hq, .inr (3, [.ref qm, .ref qf, .ref ql, .int nc, .int nd, .int nf, .int na, .int nz, .int no, .int ns, .int nv, .int np, .ref qi, .int nn, .ref qo, .int nt])), (qm, .inl (cI, 104, .inl nm)), (qf, .inl (cI, 104, .inl nb)), (ql, .inl (cI, 4, .inl nl)), (qi, .inl (cI, 24, .inl ni)), (qo, .inl (cI, 16, .inl nu))]) [0, 1, 2, 3, 4, 5] (by decide) rfl
            exact W.zret (v := 0) (ty := .boolean) hx hb hr rfl (fun t ht hW => ⟨⟨0, (), rfl, ⟨rfl, rfl⟩, by rw [ht]; exact hP9, va_K.moved hW.alike hK, hD9⟩, hS.F ht⟩) hS.2.2 d_Rf_placesWrong_117
          have hf := ifn hf hc81
          refine lv_iconst (v := 1) hx hb d_Rf_placesWrong_112 (by decide) ?_
          refine lv_goto (tgt := 117) hx hb d_Rf_placesWrong_113 rfl ?_
          have e1_ := lf1 hf
          subst e1_
          have hP9 := hP.sub (ws' := [(hq, .inr (3, [.ref qm, .ref qf, .ref ql, .int nc, .int nd, .int nf, .int na, .int nz, .int no, .int ns, .int nv, .int np, .ref qi, .int nn, .ref qo, .int nt])), (qm, .inl (cI, 104, .inl nm)), (qf, .inl (cI, 104, .inl nb)), (ql, .inl (cI, 4, .inl nl)), (qi, .inl (cI, 24, .inl ni)), (qo, .inl (cI, 16, .inl nu))]) [0, 1, 2, 3, 4, 5] rfl
          have hD9 := hD.sub (ws' := [(hq, .inr (3, [.ref qm, .ref qf, .ref ql, .int nc, .int nd, .int nf, .int na, .int nz, .int no, .int ns, .int nv, .int np, .ref qi, .int nn, .ref qo, .int nt])), (qm, .inl (cI, 104, .inl nm)), (qf, .inl (cI, 104, .inl nb)), (ql, .inl (cI, 4, .inl nl)), (qi, .inl (cI, 24, .inl ni)), (qo, .inl (cI, 16, .inl nu))]) [0, 1, 2, 3, 4, 5] (by decide) rfl
          exact W.zret (v := 1) (ty := .boolean) hx hb hr rfl (fun t ht hW => ⟨⟨1, (), rfl, ⟨rfl, rfl⟩, by rw [ht]; exact hP9, va_K.moved hW.alike hK, hD9⟩, hS.F ht⟩) hS.2.2 d_Rf_placesWrong_117
        have hf := ifn hf hc76
        refine lv_iload_n hx hb d_Rf_placesWrong_76 rfl (lv_at hl 2 rfl) ?_
        refine lv_sipush (v := 220) hx hb d_Rf_placesWrong_77 (by decide) ?_
        refine lv_icmp_ne (tgt := 87) hx hb d_Rf_placesWrong_80 rfl (fun hc82 => ?_) (fun hc82 => ?_)
        · have hf := ifn hf hc82
          refine lv_iconst (v := 0) hx hb d_Rf_placesWrong_87 (by decide) ?_
          refine lv_istore_n hx hb d_Rf_placesWrong_88 rfl hl (by decide) rfl (fun ls hl => ?_)
          have hl : lv_has ls 4 [(3, .int 0), (2, .int 7), (0, .ref hq), (1, .int a1)] := hl
          refine lv_aload_n hx hb d_Rf_placesWrong_89 rfl (lv_at hl 2 rfl) ?_
          refine va_get (D := (dC, dI)) (ci := 3) (v := .ref qi) (C := R_Rf) (T := F_Rf) (N := 16) hx hb hts inRf hown hK hP 0 rfl rfl 12 (by decide) kf27 (fun _ h9 => h9) rfl d_Rf_placesWrong_90 ?_
          refine lv_iconst (v := 2) hx hb d_Rf_placesWrong_93 (by decide) ?_
          obtain ⟨hin_, hf⟩ := ix_some hf
          refine va_iald hx hb hK hP 4 0 rfl rfl hin_ d_Rf_placesWrong_94 ?_
          refine lv_iload_n hx hb d_Rf_placesWrong_95 rfl (lv_at hl 1 rfl) ?_
          refine lv_icmp_gt (tgt := 112) hx hb d_Rf_placesWrong_96 rfl (fun hc84 => ?_) (fun hc84 => ?_)
          · have hf := ift hf hc84
            refine lv_iconst (v := 1) hx hb d_Rf_placesWrong_112 (by decide) ?_
            refine lv_goto (tgt := 117) hx hb d_Rf_placesWrong_113 rfl ?_
            have e1_ := lf1 hf
            subst e1_
            have hP9 := hP.sub (ws' := [(hq, .inr (3, [.ref qm, .ref qf, .ref ql, .int nc, .int nd, .int nf, .int na, .int nz, .int no, .int ns, .int nv, .int np, .ref qi, .int nn, .ref qo, .int nt])), (qm, .inl (cI, 104, .inl nm)), (qf, .inl (cI, 104, .inl nb)), (ql, .inl (cI, 4, .inl nl)), (qi, .inl (cI, 24, .inl ni)), (qo, .inl (cI, 16, .inl nu))]) [0, 1, 2, 3, 4, 5] rfl
            have hD9 := hD.sub (ws' := [(hq, .inr (3, [.ref qm, .ref qf, .ref ql, .int nc, .int nd, .int nf, .int na, .int nz, .int no, .int ns, .int nv, .int np, .ref qi, .int nn, .ref qo, .int nt])), (qm, .inl (cI, 104, .inl nm)), (qf, .inl (cI, 104, .inl nb)), (ql, .inl (cI, 4, .inl nl)), (qi, .inl (cI, 24, .inl ni)), (qo, .inl (cI, 16, .inl nu))]) [0, 1, 2, 3, 4, 5] (by decide) rfl
            exact W.zret (v := 1) (ty := .boolean) hx hb hr rfl (fun t ht hW => ⟨⟨1, (), rfl, ⟨rfl, rfl⟩, by rw [ht]; exact hP9, va_K.moved hW.alike hK, hD9⟩, hS.F ht⟩) hS.2.2 d_Rf_placesWrong_117
          have hf := ifn hf hc84
          refine lv_iload_n hx hb d_Rf_placesWrong_99 rfl (lv_at hl 0 rfl) ?_
          refine lv_if_ne (tgt := 116) hx hb d_Rf_placesWrong_100 rfl (fun hc85 => ?_) (fun hc85 => ?_)
          · have hf := ifn hf hc85
            refine lv_iconst (v := 0) hx hb d_Rf_placesWrong_116 (by decide) ?_
            have e1_ := lf1 hf
            subst e1_
            have hP9 := hP.sub (ws' := [(hq, .inr (3, [.ref qm, .ref qf, .ref ql, .int nc, .int nd, .int nf, .int na, .int nz, .int no, .int ns, .int nv, .int np, .ref qi, .int nn, .ref qo, .int nt])), (qm, .inl (cI, 104, .inl nm)), (qf, .inl (cI, 104, .inl nb)), (ql, .inl (cI, 4, .inl nl)), (qi, .inl (cI, 24, .inl ni)), (qo, .inl (cI, 16, .inl nu))]) [0, 1, 2, 3, 4, 5] rfl
            have hD9 := hD.sub (ws' := [(hq, .inr (3, [.ref qm, .ref qf, .ref ql, .int nc, .int nd, .int nf, .int na, .int nz, .int no, .int ns, .int nv, .int np, .ref qi, .int nn, .ref qo, .int nt])), (qm, .inl (cI, 104, .inl nm)), (qf, .inl (cI, 104, .inl nb)), (ql, .inl (cI, 4, .inl nl)), (qi, .inl (cI, 24, .inl ni)), (qo, .inl (cI, 16, .inl nu))]) [0, 1, 2, 3, 4, 5] (by decide) rfl
            exact W.zret (v := 0) (ty := .boolean) hx hb hr rfl (fun t ht hW => ⟨⟨0, (), rfl, ⟨rfl, rfl⟩, by rw [ht]; exact hP9, va_K.moved hW.alike hK, hD9⟩, hS.F ht⟩) hS.2.2 d_Rf_placesWrong_117
          have hf := ift hf hc85
          refine lv_aload_n hx hb d_Rf_placesWrong_103 rfl (lv_at hl 2 rfl) ?_
          refine va_get (D := (dC, dI)) (ci := 3) (v := .ref qi) (C := R_Rf) (T := F_Rf) (N := 16) hx hb hts inRf hown hK hP 0 rfl rfl 12 (by decide) kf27 (fun _ h9 => h9) rfl d_Rf_placesWrong_104 ?_
          refine lv_iconst (v := 3) hx hb d_Rf_placesWrong_107 (by decide) ?_
          obtain ⟨hin_, hf⟩ := ix_some hf
          refine va_iald hx hb hK hP 4 0 rfl rfl hin_ d_Rf_placesWrong_108 ?_
          refine lv_if_eq (tgt := 116) hx hb d_Rf_placesWrong_109 rfl (fun hc87 => ?_) (fun hc87 => ?_)
          · have hf := ift hf hc87
            refine lv_iconst (v := 0) hx hb d_Rf_placesWrong_116 (by decide) ?_
            have e1_ := lf1 hf
            subst e1_
            have hP9 := hP.sub (ws' := [(hq, .inr (3, [.ref qm, .ref qf, .ref ql, .int nc, .int nd, .int nf, .int na, .int nz, .int no, .int ns, .int nv, .int np, .ref qi, .int nn, .ref qo, .int nt])), (qm, .inl (cI, 104, .inl nm)), (qf, .inl (cI, 104, .inl nb)), (ql, .inl (cI, 4, .inl nl)), (qi, .inl (cI, 24, .inl ni)), (qo, .inl (cI, 16, .inl nu))]) [0, 1, 2, 3, 4, 5] rfl
            have hD9 := hD.sub (ws' := [(hq, .inr (3, [.ref qm, .ref qf, .ref ql, .int nc, .int nd, .int nf, .int na, .int nz, .int no, .int ns, .int nv, .int np, .ref qi, .int nn, .ref qo, .int nt])), (qm, .inl (cI, 104, .inl nm)), (qf, .inl (cI, 104, .inl nb)), (ql, .inl (cI, 4, .inl nl)), (qi, .inl (cI, 24, .inl ni)), (qo, .inl (cI, 16, .inl nu))]) [0, 1, 2, 3, 4, 5] (by decide) rfl
            exact W.zret (v := 0) (ty := .boolean) hx hb hr rfl (fun t ht hW => ⟨⟨0, (), rfl, ⟨rfl, rfl⟩, by rw [ht]; exact hP9, va_K.moved hW.alike hK, hD9⟩, hS.F ht⟩) hS.2.2 d_Rf_placesWrong_117
          have hf := ifn hf hc87
          refine lv_iconst (v := 1) hx hb d_Rf_placesWrong_112 (by decide) ?_
          refine lv_goto (tgt := 117) hx hb d_Rf_placesWrong_113 rfl ?_
          have e1_ := lf1 hf
          subst e1_
          have hP9 := hP.sub (ws' := [(hq, .inr (3, [.ref qm, .ref qf, .ref ql, .int nc, .int nd, .int nf, .int na, .int nz, .int no, .int ns, .int nv, .int np, .ref qi, .int nn, .ref qo, .int nt])), (qm, .inl (cI, 104, .inl nm)), (qf, .inl (cI, 104, .inl nb)), (ql, .inl (cI, 4, .inl nl)), (qi, .inl (cI, 24, .inl ni)), (qo, .inl (cI, 16, .inl nu))]) [0, 1, 2, 3, 4, 5] rfl
          have hD9 := hD.sub (ws' := [(hq, .inr (3, [.ref qm, .ref qf, .ref ql, .int nc, .int nd, .int nf, .int na, .int nz, .int no, .int ns, .int nv, .int np, .ref qi, .int nn, .ref qo, .int nt])), (qm, .inl (cI, 104, .inl nm)), (qf, .inl (cI, 104, .inl nb)), (ql, .inl (cI, 4, .inl nl)), (qi, .inl (cI, 24, .inl ni)), (qo, .inl (cI, 16, .inl nu))]) [0, 1, 2, 3, 4, 5] (by decide) rfl
          exact W.zret (v := 1) (ty := .boolean) hx hb hr rfl (fun t ht hW => ⟨⟨1, (), rfl, ⟨rfl, rfl⟩, by rw [ht]; exact hP9, va_K.moved hW.alike hK, hD9⟩, hS.F ht⟩) hS.2.2 d_Rf_placesWrong_117
        have hf := ift hf hc82
        refine lv_iconst (v := 1) hx hb d_Rf_placesWrong_83 (by decide) ?_
        refine lv_goto (tgt := 88) hx hb d_Rf_placesWrong_84 rfl ?_
        refine lv_istore_n hx hb d_Rf_placesWrong_88 rfl hl (by decide) rfl (fun ls hl => ?_)
        have hl : lv_has ls 4 [(3, .int 1), (2, .int 7), (0, .ref hq), (1, .int a1)] := hl
        refine lv_aload_n hx hb d_Rf_placesWrong_89 rfl (lv_at hl 2 rfl) ?_
        refine va_get (D := (dC, dI)) (ci := 3) (v := .ref qi) (C := R_Rf) (T := F_Rf) (N := 16) hx hb hts inRf hown hK hP 0 rfl rfl 12 (by decide) kf27 (fun _ h9 => h9) rfl d_Rf_placesWrong_90 ?_
        refine lv_iconst (v := 2) hx hb d_Rf_placesWrong_93 (by decide) ?_
        obtain ⟨hin_, hf⟩ := ix_some hf
        refine va_iald hx hb hK hP 4 0 rfl rfl hin_ d_Rf_placesWrong_94 ?_
        refine lv_iload_n hx hb d_Rf_placesWrong_95 rfl (lv_at hl 1 rfl) ?_
        refine lv_icmp_gt (tgt := 112) hx hb d_Rf_placesWrong_96 rfl (fun hc89 => ?_) (fun hc89 => ?_)
        · have hf := ift hf hc89
          refine lv_iconst (v := 1) hx hb d_Rf_placesWrong_112 (by decide) ?_
          refine lv_goto (tgt := 117) hx hb d_Rf_placesWrong_113 rfl ?_
          have e1_ := lf1 hf
          subst e1_
          have hP9 := hP.sub (ws' := [(hq, .inr (3, [.ref qm, .ref qf, .ref ql, .int nc, .int nd, .int nf, .int na, .int nz, .int no, .int ns, .int nv, .int np, .ref qi, .int nn, .ref qo, .int nt])), (qm, .inl (cI, 104, .inl nm)), (qf, .inl (cI, 104, .inl nb)), (ql, .inl (cI, 4, .inl nl)), (qi, .inl (cI, 24, .inl ni)), (qo, .inl (cI, 16, .inl nu))]) [0, 1, 2, 3, 4, 5] rfl
          have hD9 := hD.sub (ws' := [(hq, .inr (3, [.ref qm, .ref qf, .ref ql, .int nc, .int nd, .int nf, .int na, .int nz, .int no, .int ns, .int nv, .int np, .ref qi, .int nn, .ref qo, .int nt])), (qm, .inl (cI, 104, .inl nm)), (qf, .inl (cI, 104, .inl nb)), (ql, .inl (cI, 4, .inl nl)), (qi, .inl (cI, 24, .inl ni)), (qo, .inl (cI, 16, .inl nu))]) [0, 1, 2, 3, 4, 5] (by decide) rfl
          exact W.zret (v := 1) (ty := .boolean) hx hb hr rfl (fun t ht hW => ⟨⟨1, (), rfl, ⟨rfl, rfl⟩, by rw [ht]; exact hP9, va_K.moved hW.alike hK, hD9⟩, hS.F ht⟩) hS.2.2 d_Rf_placesWrong_117
        have hf := ifn hf hc89
        refine lv_iload_n hx hb d_Rf_placesWrong_99 rfl (lv_at hl 0 rfl) ?_
        refine lv_if_ne (tgt := 116) hx hb d_Rf_placesWrong_100 rfl (fun hc90 => ?_) (fun hc90 => ?_)
        · have hf := ifn hf hc90
          refine lv_iconst (v := 0) hx hb d_Rf_placesWrong_116 (by decide) ?_
          have e1_ := lf1 hf
          subst e1_
          have hP9 := hP.sub (ws' := [(hq, .inr (3, [.ref qm, .ref qf, .ref ql, .int nc, .int nd, .int nf, .int na, .int nz, .int no, .int ns, .int nv, .int np, .ref qi, .int nn, .ref qo, .int nt])), (qm, .inl (cI, 104, .inl nm)), (qf, .inl (cI, 104, .inl nb)), (ql, .inl (cI, 4, .inl nl)), (qi, .inl (cI, 24, .inl ni)), (qo, .inl (cI, 16, .inl nu))]) [0, 1, 2, 3, 4, 5] rfl
          have hD9 := hD.sub (ws' := [(hq, .inr (3, [.ref qm, .ref qf, .ref ql, .int nc, .int nd, .int nf, .int na, .int nz, .int no, .int ns, .int nv, .int np, .ref qi, .int nn, .ref qo, .int nt])), (qm, .inl (cI, 104, .inl nm)), (qf, .inl (cI, 104, .inl nb)), (ql, .inl (cI, 4, .inl nl)), (qi, .inl (cI, 24, .inl ni)), (qo, .inl (cI, 16, .inl nu))]) [0, 1, 2, 3, 4, 5] (by decide) rfl
          exact W.zret (v := 0) (ty := .boolean) hx hb hr rfl (fun t ht hW => ⟨⟨0, (), rfl, ⟨rfl, rfl⟩, by rw [ht]; exact hP9, va_K.moved hW.alike hK, hD9⟩, hS.F ht⟩) hS.2.2 d_Rf_placesWrong_117
        have hf := ift hf hc90
        refine lv_aload_n hx hb d_Rf_placesWrong_103 rfl (lv_at hl 2 rfl) ?_
        refine va_get (D := (dC, dI)) (ci := 3) (v := .ref qi) (C := R_Rf) (T := F_Rf) (N := 16) hx hb hts inRf hown hK hP 0 rfl rfl 12 (by decide) kf27 (fun _ h9 => h9) rfl d_Rf_placesWrong_104 ?_
        refine lv_iconst (v := 3) hx hb d_Rf_placesWrong_107 (by decide) ?_
        obtain ⟨hin_, hf⟩ := ix_some hf
        refine va_iald hx hb hK hP 4 0 rfl rfl hin_ d_Rf_placesWrong_108 ?_
        refine lv_if_eq (tgt := 116) hx hb d_Rf_placesWrong_109 rfl (fun hc92 => ?_) (fun hc92 => ?_)
        · have hf := ift hf hc92
          refine lv_iconst (v := 0) hx hb d_Rf_placesWrong_116 (by decide) ?_
          have e1_ := lf1 hf
          subst e1_
          have hP9 := hP.sub (ws' := [(hq, .inr (3, [.ref qm, .ref qf, .ref ql, .int nc, .int nd, .int nf, .int na, .int nz, .int no, .int ns, .int nv, .int np, .ref qi, .int nn, .ref qo, .int nt])), (qm, .inl (cI, 104, .inl nm)), (qf, .inl (cI, 104, .inl nb)), (ql, .inl (cI, 4, .inl nl)), (qi, .inl (cI, 24, .inl ni)), (qo, .inl (cI, 16, .inl nu))]) [0, 1, 2, 3, 4, 5] rfl
          have hD9 := hD.sub (ws' := [(hq, .inr (3, [.ref qm, .ref qf, .ref ql, .int nc, .int nd, .int nf, .int na, .int nz, .int no, .int ns, .int nv, .int np, .ref qi, .int nn, .ref qo, .int nt])), (qm, .inl (cI, 104, .inl nm)), (qf, .inl (cI, 104, .inl nb)), (ql, .inl (cI, 4, .inl nl)), (qi, .inl (cI, 24, .inl ni)), (qo, .inl (cI, 16, .inl nu))]) [0, 1, 2, 3, 4, 5] (by decide) rfl
          exact W.zret (v := 0) (ty := .boolean) hx hb hr rfl (fun t ht hW => ⟨⟨0, (), rfl, ⟨rfl, rfl⟩, by rw [ht]; exact hP9, va_K.moved hW.alike hK, hD9⟩, hS.F ht⟩) hS.2.2 d_Rf_placesWrong_117
        have hf := ifn hf hc92
        refine lv_iconst (v := 1) hx hb d_Rf_placesWrong_112 (by decide) ?_
        refine lv_goto (tgt := 117) hx hb d_Rf_placesWrong_113 rfl ?_
        have e1_ := lf1 hf
        subst e1_
        have hP9 := hP.sub (ws' := [(hq, .inr (3, [.ref qm, .ref qf, .ref ql, .int nc, .int nd, .int nf, .int na, .int nz, .int no, .int ns, .int nv, .int np, .ref qi, .int nn, .ref qo, .int nt])), (qm, .inl (cI, 104, .inl nm)), (qf, .inl (cI, 104, .inl nb)), (ql, .inl (cI, 4, .inl nl)), (qi, .inl (cI, 24, .inl ni)), (qo, .inl (cI, 16, .inl nu))]) [0, 1, 2, 3, 4, 5] rfl
        have hD9 := hD.sub (ws' := [(hq, .inr (3, [.ref qm, .ref qf, .ref ql, .int nc, .int nd, .int nf, .int na, .int nz, .int no, .int ns, .int nv, .int np, .ref qi, .int nn, .ref qo, .int nt])), (qm, .inl (cI, 104, .inl nm)), (qf, .inl (cI, 104, .inl nb)), (ql, .inl (cI, 4, .inl nl)), (qi, .inl (cI, 24, .inl ni)), (qo, .inl (cI, 16, .inl nu))]) [0, 1, 2, 3, 4, 5] (by decide) rfl
        exact W.zret (v := 1) (ty := .boolean) hx hb hr rfl (fun t ht hW => ⟨⟨1, (), rfl, ⟨rfl, rfl⟩, by rw [ht]; exact hP9, va_K.moved hW.alike hK, hD9⟩, hS.F ht⟩) hS.2.2 d_Rf_placesWrong_117
      have hf := ifn hf hc63
      refine lv_iload_n hx hb d_Rf_placesWrong_41 rfl (lv_at hl 1 rfl) ?_
      refine lv_sipush (v := 220) hx hb d_Rf_placesWrong_42 (by decide) ?_
      refine lv_icmp_ne (tgt := 53) hx hb d_Rf_placesWrong_45 rfl (fun hc93 => ?_) (fun hc93 => ?_)
      · have hf := ifn hf hc93
        refine lv_iconst (v := 0) hx hb d_Rf_placesWrong_53 (by decide) ?_
        refine lv_istore_n hx hb d_Rf_placesWrong_54 rfl hl (by decide) rfl (fun ls hl => ?_)
        have hl : lv_has ls 4 [(2, .int 0), (0, .ref hq), (1, .int a1)] := hl
        refine lv_iload_n hx hb d_Rf_placesWrong_55 rfl (lv_at hl 2 rfl) ?_
        refine lv_sipush (v := 176) hx hb d_Rf_placesWrong_56 (by decide) ?_
        refine lv_icmp_eq (tgt := 83) hx hb d_Rf_placesWrong_59 rfl (fun hc94 => ?_) (fun hc94 => ?_)
        · have hf := ift hf hc94
          refine lv_iconst (v := 1) hx hb d_Rf_placesWrong_83 (by decide) ?_
          refine lv_goto (tgt := 88) hx hb d_Rf_placesWrong_84 rfl ?_
          refine lv_istore_n hx hb d_Rf_placesWrong_88 rfl hl (by decide) rfl (fun ls hl => ?_)
          have hl : lv_has ls 4 [(3, .int 1), (2, .int 0), (0, .ref hq), (1, .int a1)] := hl
          refine lv_aload_n hx hb d_Rf_placesWrong_89 rfl (lv_at hl 2 rfl) ?_
          refine va_get (D := (dC, dI)) (ci := 3) (v := .ref qi) (C := R_Rf) (T := F_Rf) (N := 16) hx hb hts inRf hown hK hP 0 rfl rfl 12 (by decide) kf27 (fun _ h9 => h9) rfl d_Rf_placesWrong_90 ?_
          refine lv_iconst (v := 2) hx hb d_Rf_placesWrong_93 (by decide) ?_
          obtain ⟨hin_, hf⟩ := ix_some hf
          refine va_iald hx hb hK hP 4 0 rfl rfl hin_ d_Rf_placesWrong_94 ?_
          refine lv_iload_n hx hb d_Rf_placesWrong_95 rfl (lv_at hl 1 rfl) ?_
          refine lv_icmp_gt (tgt := 112) hx hb d_Rf_placesWrong_96 rfl (fun hc96 => ?_) (fun hc96 => ?_)
          · have hf := ift hf hc96
            refine lv_iconst (v := 1) hx hb d_Rf_placesWrong_112 (by decide) ?_
            refine lv_goto (tgt := 117) hx hb d_Rf_placesWrong_113 rfl ?_
            have e1_ := lf1 hf
            subst e1_
            have hP9 := hP.sub (ws' := [(hq, .inr (3, [.ref qm, .ref qf, .ref ql, .int nc, .int nd, .int nf, .int na, .int nz, .int no, .int ns, .int nv, .int np, .ref qi, .int nn, .ref qo, .int nt])), (qm, .inl (cI, 104, .inl nm)), (qf, .inl (cI, 104, .inl nb)), (ql, .inl (cI, 4, .inl nl)), (qi, .inl (cI, 24, .inl ni)), (qo, .inl (cI, 16, .inl nu))]) [0, 1, 2, 3, 4, 5] rfl
            have hD9 := hD.sub (ws' := [(hq, .inr (3, [.ref qm, .ref qf, .ref ql, .int nc, .int nd, .int nf, .int na, .int nz, .int no, .int ns, .int nv, .int np, .ref qi, .int nn, .ref qo, .int nt])), (qm, .inl (cI, 104, .inl nm)), (qf, .inl (cI, 104, .inl nb)), (ql, .inl (cI, 4, .inl nl)), (qi, .inl (cI, 24, .inl ni)), (qo, .inl (cI, 16, .inl nu))]) [0, 1, 2, 3, 4, 5] (by decide) rfl
            exact W.zret (v := 1) (ty := .boolean) hx hb hr rfl (fun t ht hW => ⟨⟨1, (), rfl, ⟨rfl, rfl⟩, by rw [ht]; exact hP9, va_K.moved hW.alike hK, hD9⟩, hS.F ht⟩) hS.2.2 d_Rf_placesWrong_117
          have hf := ifn hf hc96
          refine lv_iload_n hx hb d_Rf_placesWrong_99 rfl (lv_at hl 0 rfl) ?_
          refine lv_if_ne (tgt := 116) hx hb d_Rf_placesWrong_100 rfl (fun hc97 => ?_) (fun hc97 => ?_)
          · have hf := ifn hf hc97
            refine lv_iconst (v := 0) hx hb d_Rf_placesWrong_116 (by decide) ?_
            have e1_ := lf1 hf
            subst e1_
            have hP9 := hP.sub (ws' := [(hq, .inr (3, [.ref qm, .ref qf, .ref ql, .int nc, .int nd, .int nf, .int na, .int nz, .int no, .int ns, .int nv, .int np, .ref qi, .int nn, .ref qo, .int nt])), (qm, .inl (cI, 104, .inl nm)), (qf, .inl (cI, 104, .inl nb)), (ql, .inl (cI, 4, .inl nl)), (qi, .inl (cI, 24, .inl ni)), (qo, .inl (cI, 16, .inl nu))]) [0, 1, 2, 3, 4, 5] rfl
            have hD9 := hD.sub (ws' := [(hq, .inr (3, [.ref qm, .ref qf, .ref ql, .int nc, .int nd, .int nf, .int na, .int nz, .int no, .int ns, .int nv, .int np, .ref qi, .int nn, .ref qo, .int nt])), (qm, .inl (cI, 104, .inl nm)), (qf, .inl (cI, 104, .inl nb)), (ql, .inl (cI, 4, .inl nl)), (qi, .inl (cI, 24, .inl ni)), (qo, .inl (cI, 16, .inl nu))]) [0, 1, 2, 3, 4, 5] (by decide) rfl
            exact W.zret (v := 0) (ty := .boolean) hx hb hr rfl (fun t ht hW => ⟨⟨0, (), rfl, ⟨rfl, rfl⟩, by rw [ht]; exact hP9, va_K.moved hW.alike hK, hD9⟩, hS.F ht⟩) hS.2.2 d_Rf_placesWrong_117
          have hf := ift hf hc97
          refine lv_aload_n hx hb d_Rf_placesWrong_103 rfl (lv_at hl 2 rfl) ?_
          refine va_get (D := (dC, dI)) (ci := 3) (v := .ref qi) (C := R_Rf) (T := F_Rf) (N := 16) hx hb hts inRf hown hK hP 0 rfl rfl 12 (by decide) kf27 (fun _ h9 => h9) rfl d_Rf_placesWrong_104 ?_
          refine lv_iconst (v := 3) hx hb d_Rf_placesWrong_107 (by decide) ?_
          obtain ⟨hin_, hf⟩ := ix_some hf
          refine va_iald hx hb hK hP 4 0 rfl rfl hin_ d_Rf_placesWrong_108 ?_
          refine lv_if_eq (tgt := 116) hx hb d_Rf_placesWrong_109 rfl (fun hc99 => ?_) (fun hc99 => ?_)
          · have hf := ift hf hc99
            refine lv_iconst (v := 0) hx hb d_Rf_placesWrong_116 (by decide) ?_
            have e1_ := lf1 hf
            subst e1_
            have hP9 := hP.sub (ws' := [(hq, .inr (3, [.ref qm, .ref qf, .ref ql, .int nc, .int nd, .int nf, .int na, .int nz, .int no, .int ns, .int nv, .int np, .ref qi, .int nn, .ref qo, .int nt])), (qm, .inl (cI, 104, .inl nm)), (qf, .inl (cI, 104, .inl nb)), (ql, .inl (cI, 4, .inl nl)), (qi, .inl (cI, 24, .inl ni)), (qo, .inl (cI, 16, .inl nu))]) [0, 1, 2, 3, 4, 5] rfl
            have hD9 := hD.sub (ws' := [(hq, .inr (3, [.ref qm, .ref qf, .ref ql, .int nc, .int nd, .int nf, .int na, .int nz, .int no, .int ns, .int nv, .int np, .ref qi, .int nn, .ref qo, .int nt])), (qm, .inl (cI, 104, .inl nm)), (qf, .inl (cI, 104, .inl nb)), (ql, .inl (cI, 4, .inl nl)), (qi, .inl (cI, 24, .inl ni)), (qo, .inl (cI, 16, .inl nu))]) [0, 1, 2, 3, 4, 5] (by decide) rfl
            exact W.zret (v := 0) (ty := .boolean) hx hb hr rfl (fun t ht hW => ⟨⟨0, (), rfl, ⟨rfl, rfl⟩, by rw [ht]; exact hP9, va_K.moved hW.alike hK, hD9⟩, hS.F ht⟩) hS.2.2 d_Rf_placesWrong_117
          have hf := ifn hf hc99
          refine lv_iconst (v := 1) hx hb d_Rf_placesWrong_112 (by decide) ?_
          refine lv_goto (tgt := 117) hx hb d_Rf_placesWrong_113 rfl ?_
          have e1_ := lf1 hf
          subst e1_
          have hP9 := hP.sub (ws' := [(hq, .inr (3, [.ref qm, .ref qf, .ref ql, .int nc, .int nd, .int nf, .int na, .int nz, .int no, .int ns, .int nv, .int np, .ref qi, .int nn, .ref qo, .int nt])), (qm, .inl (cI, 104, .inl nm)), (qf, .inl (cI, 104, .inl nb)), (ql, .inl (cI, 4, .inl nl)), (qi, .inl (cI, 24, .inl ni)), (qo, .inl (cI, 16, .inl nu))]) [0, 1, 2, 3, 4, 5] rfl
          have hD9 := hD.sub (ws' := [(hq, .inr (3, [.ref qm, .ref qf, .ref ql, .int nc, .int nd, .int nf, .int na, .int nz, .int no, .int ns, .int nv, .int np, .ref qi, .int nn, .ref qo, .int nt])), (qm, .inl (cI, 104, .inl nm)), (qf, .inl (cI, 104, .inl nb)), (ql, .inl (cI, 4, .inl nl)), (qi, .inl (cI, 24, .inl ni)), (qo, .inl (cI, 16, .inl nu))]) [0, 1, 2, 3, 4, 5] (by decide) rfl
          exact W.zret (v := 1) (ty := .boolean) hx hb hr rfl (fun t ht hW => ⟨⟨1, (), rfl, ⟨rfl, rfl⟩, by rw [ht]; exact hP9, va_K.moved hW.alike hK, hD9⟩, hS.F ht⟩) hS.2.2 d_Rf_placesWrong_117
        have hf := ifn hf hc94
        refine lv_iload_n hx hb d_Rf_placesWrong_62 rfl (lv_at hl 2 rfl) ?_
        refine lv_sipush (v := 214) hx hb d_Rf_placesWrong_63 (by decide) ?_
        refine lv_icmp_eq (tgt := 83) hx hb d_Rf_placesWrong_66 rfl (fun hc100 => ?_) (fun hc100 => ?_)
        · have hf := ift hf hc100
          refine lv_iconst (v := 1) hx hb d_Rf_placesWrong_83 (by decide) ?_
          refine lv_goto (tgt := 88) hx hb d_Rf_placesWrong_84 rfl ?_
          refine lv_istore_n hx hb d_Rf_placesWrong_88 rfl hl (by decide) rfl (fun ls hl => ?_)
          have hl : lv_has ls 4 [(3, .int 1), (2, .int 0), (0, .ref hq), (1, .int a1)] := hl
          refine lv_aload_n hx hb d_Rf_placesWrong_89 rfl (lv_at hl 2 rfl) ?_
          refine va_get (D := (dC, dI)) (ci := 3) (v := .ref qi) (C := R_Rf) (T := F_Rf) (N := 16) hx hb hts inRf hown hK hP 0 rfl rfl 12 (by decide) kf27 (fun _ h9 => h9) rfl d_Rf_placesWrong_90 ?_
          refine lv_iconst (v := 2) hx hb d_Rf_placesWrong_93 (by decide) ?_
          obtain ⟨hin_, hf⟩ := ix_some hf
          refine va_iald hx hb hK hP 4 0 rfl rfl hin_ d_Rf_placesWrong_94 ?_
          refine lv_iload_n hx hb d_Rf_placesWrong_95 rfl (lv_at hl 1 rfl) ?_
          refine lv_icmp_gt (tgt := 112) hx hb d_Rf_placesWrong_96 rfl (fun hc102 => ?_) (fun hc102 => ?_)
          · have hf := ift hf hc102
            refine lv_iconst (v := 1) hx hb d_Rf_placesWrong_112 (by decide) ?_
            refine lv_goto (tgt := 117) hx hb d_Rf_placesWrong_113 rfl ?_
            have e1_ := lf1 hf
            subst e1_
            have hP9 := hP.sub (ws' := [(hq, .inr (3, [.ref qm, .ref qf, .ref ql, .int nc, .int nd, .int nf, .int na, .int nz, .int no, .int ns, .int nv, .int np, .ref qi, .int nn, .ref qo, .int nt])), (qm, .inl (cI, 104, .inl nm)), (qf, .inl (cI, 104, .inl nb)), (ql, .inl (cI, 4, .inl nl)), (qi, .inl (cI, 24, .inl ni)), (qo, .inl (cI, 16, .inl nu))]) [0, 1, 2, 3, 4, 5] rfl
            have hD9 := hD.sub (ws' := [(hq, .inr (3, [.ref qm, .ref qf, .ref ql, .int nc, .int nd, .int nf, .int na, .int nz, .int no, .int ns, .int nv, .int np, .ref qi, .int nn, .ref qo, .int nt])), (qm, .inl (cI, 104, .inl nm)), (qf, .inl (cI, 104, .inl nb)), (ql, .inl (cI, 4, .inl nl)), (qi, .inl (cI, 24, .inl ni)), (qo, .inl (cI, 16, .inl nu))]) [0, 1, 2, 3, 4, 5] (by decide) rfl
            exact W.zret (v := 1) (ty := .boolean) hx hb hr rfl (fun t ht hW => ⟨⟨1, (), rfl, ⟨rfl, rfl⟩, by rw [ht]; exact hP9, va_K.moved hW.alike hK, hD9⟩, hS.F ht⟩) hS.2.2 d_Rf_placesWrong_117
          have hf := ifn hf hc102
          refine lv_iload_n hx hb d_Rf_placesWrong_99 rfl (lv_at hl 0 rfl) ?_
          refine lv_if_ne (tgt := 116) hx hb d_Rf_placesWrong_100 rfl (fun hc103 => ?_) (fun hc103 => ?_)
          · have hf := ifn hf hc103
            refine lv_iconst (v := 0) hx hb d_Rf_placesWrong_116 (by decide) ?_
            have e1_ := lf1 hf
            subst e1_
            have hP9 := hP.sub (ws' := [(hq, .inr (3, [.ref qm, .ref qf, .ref ql, .int nc, .int nd, .int nf, .int na, .int nz, .int no, .int ns, .int nv, .int np, .ref qi, .int nn, .ref qo, .int nt])), (qm, .inl (cI, 104, .inl nm)), (qf, .inl (cI, 104, .inl nb)), (ql, .inl (cI, 4, .inl nl)), (qi, .inl (cI, 24, .inl ni)), (qo, .inl (cI, 16, .inl nu))]) [0, 1, 2, 3, 4, 5] rfl
            have hD9 := hD.sub (ws' := [(hq, .inr (3, [.ref qm, .ref qf, .ref ql, .int nc, .int nd, .int nf, .int na, .int nz, .int no, .int ns, .int nv, .int np, .ref qi, .int nn, .ref qo, .int nt])), (qm, .inl (cI, 104, .inl nm)), (qf, .inl (cI, 104, .inl nb)), (ql, .inl (cI, 4, .inl nl)), (qi, .inl (cI, 24, .inl ni)), (qo, .inl (cI, 16, .inl nu))]) [0, 1, 2, 3, 4, 5] (by decide) rfl
            exact W.zret (v := 0) (ty := .boolean) hx hb hr rfl (fun t ht hW => ⟨⟨0, (), rfl, ⟨rfl, rfl⟩, by rw [ht]; exact hP9, va_K.moved hW.alike hK, hD9⟩, hS.F ht⟩) hS.2.2 d_Rf_placesWrong_117
          have hf := ift hf hc103
          refine lv_aload_n hx hb d_Rf_placesWrong_103 rfl (lv_at hl 2 rfl) ?_
          refine va_get (D := (dC, dI)) (ci := 3) (v := .ref qi) (C := R_Rf) (T := F_Rf) (N := 16) hx hb hts inRf hown hK hP 0 rfl rfl 12 (by decide) kf27 (fun _ h9 => h9) rfl d_Rf_placesWrong_104 ?_
          refine lv_iconst (v := 3) hx hb d_Rf_placesWrong_107 (by decide) ?_
          obtain ⟨hin_, hf⟩ := ix_some hf
          refine va_iald hx hb hK hP 4 0 rfl rfl hin_ d_Rf_placesWrong_108 ?_
          refine lv_if_eq (tgt := 116) hx hb d_Rf_placesWrong_109 rfl (fun hc105 => ?_) (fun hc105 => ?_)
          · have hf := ift hf hc105
            refine lv_iconst (v := 0) hx hb d_Rf_placesWrong_116 (by decide) ?_
            have e1_ := lf1 hf
            subst e1_
            have hP9 := hP.sub (ws' := [(hq, .inr (3, [.ref qm, .ref qf, .ref ql, .int nc, .int nd, .int nf, .int na, .int nz, .int no, .int ns, .int nv, .int np, .ref qi, .int nn, .ref qo, .int nt])), (qm, .inl (cI, 104, .inl nm)), (qf, .inl (cI, 104, .inl nb)), (ql, .inl (cI, 4, .inl nl)), (qi, .inl (cI, 24, .inl ni)), (qo, .inl (cI, 16, .inl nu))]) [0, 1, 2, 3, 4, 5] rfl
            have hD9 := hD.sub (ws' := [(hq, .inr (3, [.ref qm, .ref qf, .ref ql, .int nc, .int nd, .int nf, .int na, .int nz, .int no, .int ns, .int nv, .int np, .ref qi, .int nn, .ref qo, .int nt])), (qm, .inl (cI, 104, .inl nm)), (qf, .inl (cI, 104, .inl nb)), (ql, .inl (cI, 4, .inl nl)), (qi, .inl (cI, 24, .inl ni)), (qo, .inl (cI, 16, .inl nu))]) [0, 1, 2, 3, 4, 5] (by decide) rfl
            exact W.zret (v := 0) (ty := .boolean) hx hb hr rfl (fun t ht hW => ⟨⟨0, (), rfl, ⟨rfl, rfl⟩, by rw [ht]; exact hP9, va_K.moved hW.alike hK, hD9⟩, hS.F ht⟩) hS.2.2 d_Rf_placesWrong_117
          have hf := ifn hf hc105
          refine lv_iconst (v := 1) hx hb d_Rf_placesWrong_112 (by decide) ?_
          refine lv_goto (tgt := 117) hx hb d_Rf_placesWrong_113 rfl ?_
          have e1_ := lf1 hf
          subst e1_
          have hP9 := hP.sub (ws' := [(hq, .inr (3, [.ref qm, .ref qf, .ref ql, .int nc, .int nd, .int nf, .int na, .int nz, .int no, .int ns, .int nv, .int np, .ref qi, .int nn, .ref qo, .int nt])), (qm, .inl (cI, 104, .inl nm)), (qf, .inl (cI, 104, .inl nb)), (ql, .inl (cI, 4, .inl nl)), (qi, .inl (cI, 24, .inl ni)), (qo, .inl (cI, 16, .inl nu))]) [0, 1, 2, 3, 4, 5] rfl
          have hD9 := hD.sub (ws' := [(hq, .inr (3, [.ref qm, .ref qf, .ref ql, .int nc, .int nd, .int nf, .int na, .int nz, .int no, .int ns, .int nv, .int np, .ref qi, .int nn, .ref qo, .int nt])), (qm, .inl (cI, 104, .inl nm)), (qf, .inl (cI, 104, .inl nb)), (ql, .inl (cI, 4, .inl nl)), (qi, .inl (cI, 24, .inl ni)), (qo, .inl (cI, 16, .inl nu))]) [0, 1, 2, 3, 4, 5] (by decide) rfl
          exact W.zret (v := 1) (ty := .boolean) hx hb hr rfl (fun t ht hW => ⟨⟨1, (), rfl, ⟨rfl, rfl⟩, by rw [ht]; exact hP9, va_K.moved hW.alike hK, hD9⟩, hS.F ht⟩) hS.2.2 d_Rf_placesWrong_117
        have hf := ifn hf hc100
        refine lv_iload_n hx hb d_Rf_placesWrong_69 rfl (lv_at hl 2 rfl) ?_
        refine lv_sipush (v := 178) hx hb d_Rf_placesWrong_70 (by decide) ?_
        refine lv_icmp_eq (tgt := 83) hx hb d_Rf_placesWrong_73 rfl (fun hc106 => ?_) (fun hc106 => ?_)
        · have hf := ift hf hc106
          refine lv_iconst (v := 1) hx hb d_Rf_placesWrong_83 (by decide) ?_
          refine lv_goto (tgt := 88) hx hb d_Rf_placesWrong_84 rfl ?_
          refine lv_istore_n hx hb d_Rf_placesWrong_88 rfl hl (by decide) rfl (fun ls hl => ?_)
          have hl : lv_has ls 4 [(3, .int 1), (2, .int 0), (0, .ref hq), (1, .int a1)] := hl
          refine lv_aload_n hx hb d_Rf_placesWrong_89 rfl (lv_at hl 2 rfl) ?_
          refine va_get (D := (dC, dI)) (ci := 3) (v := .ref qi) (C := R_Rf) (T := F_Rf) (N := 16) hx hb hts inRf hown hK hP 0 rfl rfl 12 (by decide) kf27 (fun _ h9 => h9) rfl d_Rf_placesWrong_90 ?_
          refine lv_iconst (v := 2) hx hb d_Rf_placesWrong_93 (by decide) ?_
          obtain ⟨hin_, hf⟩ := ix_some hf
          refine va_iald hx hb hK hP 4 0 rfl rfl hin_ d_Rf_placesWrong_94 ?_
          refine lv_iload_n hx hb d_Rf_placesWrong_95 rfl (lv_at hl 1 rfl) ?_
          refine lv_icmp_gt (tgt := 112) hx hb d_Rf_placesWrong_96 rfl (fun hc108 => ?_) (fun hc108 => ?_)
          · have hf := ift hf hc108
            refine lv_iconst (v := 1) hx hb d_Rf_placesWrong_112 (by decide) ?_
            refine lv_goto (tgt := 117) hx hb d_Rf_placesWrong_113 rfl ?_
            have e1_ := lf1 hf
            subst e1_
            have hP9 := hP.sub (ws' := [(hq, .inr (3, [.ref qm, .ref qf, .ref ql, .int nc, .int nd, .int nf, .int na, .int nz, .int no, .int ns, .int nv, .int np, .ref qi, .int nn, .ref qo, .int nt])), (qm, .inl (cI, 104, .inl nm)), (qf, .inl (cI, 104, .inl nb)), (ql, .inl (cI, 4, .inl nl)), (qi, .inl (cI, 24, .inl ni)), (qo, .inl (cI, 16, .inl nu))]) [0, 1, 2, 3, 4, 5] rfl
            have hD9 := hD.sub (ws' := [(hq, .inr (3, [.ref qm, .ref qf, .ref ql, .int nc, .int nd, .int nf, .int na, .int nz, .int no, .int ns, .int nv, .int np, .ref qi, .int nn, .ref qo, .int nt])), (qm, .inl (cI, 104, .inl nm)), (qf, .inl (cI, 104, .inl nb)), (ql, .inl (cI, 4, .inl nl)), (qi, .inl (cI, 24, .inl ni)), (qo, .inl (cI, 16, .inl nu))]) [0, 1, 2, 3, 4, 5] (by decide) rfl
            exact W.zret (v := 1) (ty := .boolean) hx hb hr rfl (fun t ht hW => ⟨⟨1, (), rfl, ⟨rfl, rfl⟩, by rw [ht]; exact hP9, va_K.moved hW.alike hK, hD9⟩, hS.F ht⟩) hS.2.2 d_Rf_placesWrong_117
          have hf := ifn hf hc108
          refine lv_iload_n hx hb d_Rf_placesWrong_99 rfl (lv_at hl 0 rfl) ?_
          refine lv_if_ne (tgt := 116) hx hb d_Rf_placesWrong_100 rfl (fun hc109 => ?_) (fun hc109 => ?_)
          · have hf := ifn hf hc109
            refine lv_iconst (v := 0) hx hb d_Rf_placesWrong_116 (by decide) ?_
            have e1_ := lf1 hf
            subst e1_
            have hP9 := hP.sub (ws' := [(hq, .inr (3, [.ref qm, .ref qf, .ref ql, .int nc, .int nd, .int nf, .int na, .int nz, .int no, .int ns, .int nv, .int np, .ref qi, .int nn, .ref qo, .int nt])), (qm, .inl (cI, 104, .inl nm)), (qf, .inl (cI, 104, .inl nb)), (ql, .inl (cI, 4, .inl nl)), (qi, .inl (cI, 24, .inl ni)), (qo, .inl (cI, 16, .inl nu))]) [0, 1, 2, 3, 4, 5] rfl
            have hD9 := hD.sub (ws' := [(hq, .inr (3, [.ref qm, .ref qf, .ref ql, .int nc, .int nd, .int nf, .int na, .int nz, .int no, .int ns, .int nv, .int np, .ref qi, .int nn, .ref qo, .int nt])), (qm, .inl (cI, 104, .inl nm)), (qf, .inl (cI, 104, .inl nb)), (ql, .inl (cI, 4, .inl nl)), (qi, .inl (cI, 24, .inl ni)), (qo, .inl (cI, 16, .inl nu))]) [0, 1, 2, 3, 4, 5] (by decide) rfl
            exact W.zret (v := 0) (ty := .boolean) hx hb hr rfl (fun t ht hW => ⟨⟨0, (), rfl, ⟨rfl, rfl⟩, by rw [ht]; exact hP9, va_K.moved hW.alike hK, hD9⟩, hS.F ht⟩) hS.2.2 d_Rf_placesWrong_117
          have hf := ift hf hc109
          refine lv_aload_n hx hb d_Rf_placesWrong_103 rfl (lv_at hl 2 rfl) ?_
          refine va_get (D := (dC, dI)) (ci := 3) (v := .ref qi) (C := R_Rf) (T := F_Rf) (N := 16) hx hb hts inRf hown hK hP 0 rfl rfl 12 (by decide) kf27 (fun _ h9 => h9) rfl d_Rf_placesWrong_104 ?_
          refine lv_iconst (v := 3) hx hb d_Rf_placesWrong_107 (by decide) ?_
          obtain ⟨hin_, hf⟩ := ix_some hf
          refine va_iald hx hb hK hP 4 0 rfl rfl hin_ d_Rf_placesWrong_108 ?_
          refine lv_if_eq (tgt := 116) hx hb d_Rf_placesWrong_109 rfl (fun hc111 => ?_) (fun hc111 => ?_)
          · have hf := ift hf hc111
            refine lv_iconst (v := 0) hx hb d_Rf_placesWrong_116 (by decide) ?_
            have e1_ := lf1 hf
            subst e1_
            have hP9 := hP.sub (ws' := [(hq, .inr (3, [.ref qm, .ref qf, .ref ql, .int nc, .int nd, .int nf, .int na, .int nz, .int no, .int ns, .int nv, .int np, .ref qi, .int nn, .ref qo, .int nt])), (qm, .inl (cI, 104, .inl nm)), (qf, .inl (cI, 104, .inl nb)), (ql, .inl (cI, 4, .inl nl)), (qi, .inl (cI, 24, .inl ni)), (qo, .inl (cI, 16, .inl nu))]) [0, 1, 2, 3, 4, 5] rfl
            have hD9 := hD.sub (ws' := [(hq, .inr (3, [.ref qm, .ref qf, .ref ql, .int nc, .int nd, .int nf, .int na, .int nz, .int no, .int ns, .int nv, .int np, .ref qi, .int nn, .ref qo, .int nt])), (qm, .inl (cI, 104, .inl nm)), (qf, .inl (cI, 104, .inl nb)), (ql, .inl (cI, 4, .inl nl)), (qi, .inl (cI, 24, .inl ni)), (qo, .inl (cI, 16, .inl nu))]) [0, 1, 2, 3, 4, 5] (by decide) rfl
            exact W.zret (v := 0) (ty := .boolean) hx hb hr rfl (fun t ht hW => ⟨⟨0, (), rfl, ⟨rfl, rfl⟩, by rw [ht]; exact hP9, va_K.moved hW.alike hK, hD9⟩, hS.F ht⟩) hS.2.2 d_Rf_placesWrong_117
          have hf := ifn hf hc111
          refine lv_iconst (v := 1) hx hb d_Rf_placesWrong_112 (by decide) ?_
          refine lv_goto (tgt := 117) hx hb d_Rf_placesWrong_113 rfl ?_
          have e1_ := lf1 hf
          subst e1_
          have hP9 := hP.sub (ws' := [(hq, .inr (3, [.ref qm, .ref qf, .ref ql, .int nc, .int nd, .int nf, .int na, .int nz, .int no, .int ns, .int nv, .int np, .ref qi, .int nn, .ref qo, .int nt])), (qm, .inl (cI, 104, .inl nm)), (qf, .inl (cI, 104, .inl nb)), (ql, .inl (cI, 4, .inl nl)), (qi, .inl (cI, 24, .inl ni)), (qo, .inl (cI, 16, .inl nu))]) [0, 1, 2, 3, 4, 5] rfl
          have hD9 := hD.sub (ws' := [(hq, .inr (3, [.ref qm, .ref qf, .ref ql, .int nc, .int nd, .int nf, .int na, .int nz, .int no, .int ns, .int nv, .int np, .ref qi, .int nn, .ref qo, .int nt])), (qm, .inl (cI, 104, .inl nm)), (qf, .inl (cI, 104, .inl nb)), (ql, .inl (cI, 4, .inl nl)), (qi, .inl (cI, 24, .inl ni)), (qo, .inl (cI, 16, .inl nu))]) [0, 1, 2, 3, 4, 5] (by decide) rfl
          exact W.zret (v := 1) (ty := .boolean) hx hb hr rfl (fun t ht hW => ⟨⟨1, (), rfl, ⟨rfl, rfl⟩, by rw [ht]; exact hP9, va_K.moved hW.alike hK, hD9⟩, hS.F ht⟩) hS.2.2 d_Rf_placesWrong_117
        have hf := ifn hf hc106
        refine lv_iload_n hx hb d_Rf_placesWrong_76 rfl (lv_at hl 2 rfl) ?_
        refine lv_sipush (v := 220) hx hb d_Rf_placesWrong_77 (by decide) ?_
        refine lv_icmp_ne (tgt := 87) hx hb d_Rf_placesWrong_80 rfl (fun hc112 => ?_) (fun hc112 => ?_)
        · have hf := ifn hf hc112
          refine lv_iconst (v := 0) hx hb d_Rf_placesWrong_87 (by decide) ?_
          refine lv_istore_n hx hb d_Rf_placesWrong_88 rfl hl (by decide) rfl (fun ls hl => ?_)
          have hl : lv_has ls 4 [(3, .int 0), (2, .int 0), (0, .ref hq), (1, .int a1)] := hl
          refine lv_aload_n hx hb d_Rf_placesWrong_89 rfl (lv_at hl 2 rfl) ?_
          refine va_get (D := (dC, dI)) (ci := 3) (v := .ref qi) (C := R_Rf) (T := F_Rf) (N := 16) hx hb hts inRf hown hK hP 0 rfl rfl 12 (by decide) kf27 (fun _ h9 => h9) rfl d_Rf_placesWrong_90 ?_
          refine lv_iconst (v := 2) hx hb d_Rf_placesWrong_93 (by decide) ?_
          obtain ⟨hin_, hf⟩ := ix_some hf
          refine va_iald hx hb hK hP 4 0 rfl rfl hin_ d_Rf_placesWrong_94 ?_
          refine lv_iload_n hx hb d_Rf_placesWrong_95 rfl (lv_at hl 1 rfl) ?_
          refine lv_icmp_gt (tgt := 112) hx hb d_Rf_placesWrong_96 rfl (fun hc114 => ?_) (fun hc114 => ?_)
          · have hf := ift hf hc114
            refine lv_iconst (v := 1) hx hb d_Rf_placesWrong_112 (by decide) ?_
            refine lv_goto (tgt := 117) hx hb d_Rf_placesWrong_113 rfl ?_
            have e1_ := lf1 hf
            subst e1_
            have hP9 := hP.sub (ws' := [(hq, .inr (3, [.ref qm, .ref qf, .ref ql, .int nc, .int nd, .int nf, .int na, .int nz, .int no, .int ns, .int nv, .int np, .ref qi, .int nn, .ref qo, .int nt])), (qm, .inl (cI, 104, .inl nm)), (qf, .inl (cI, 104, .inl nb)), (ql, .inl (cI, 4, .inl nl)), (qi, .inl (cI, 24, .inl ni)), (qo, .inl (cI, 16, .inl nu))]) [0, 1, 2, 3, 4, 5] rfl
            have hD9 := hD.sub (ws' := [(hq, .inr (3, [.ref qm, .ref qf, .ref ql, .int nc, .int nd, .int nf, .int na, .int nz, .int no, .int ns, .int nv, .int np, .ref qi, .int nn, .ref qo, .int nt])), (qm, .inl (cI, 104, .inl nm)), (qf, .inl (cI, 104, .inl nb)), (ql, .inl (cI, 4, .inl nl)), (qi, .inl (cI, 24, .inl ni)), (qo, .inl (cI, 16, .inl nu))]) [0, 1, 2, 3, 4, 5] (by decide) rfl
            exact W.zret (v := 1) (ty := .boolean) hx hb hr rfl (fun t ht hW => ⟨⟨1, (), rfl, ⟨rfl, rfl⟩, by rw [ht]; exact hP9, va_K.moved hW.alike hK, hD9⟩, hS.F ht⟩) hS.2.2 d_Rf_placesWrong_117
          have hf := ifn hf hc114
          refine lv_iload_n hx hb d_Rf_placesWrong_99 rfl (lv_at hl 0 rfl) ?_
          refine lv_if_ne (tgt := 116) hx hb d_Rf_placesWrong_100 rfl (fun hc115 => ?_) (fun hc115 => ?_)
          · have hf := ifn hf hc115
            refine lv_iconst (v := 0) hx hb d_Rf_placesWrong_116 (by decide) ?_
            have e1_ := lf1 hf
            subst e1_
            have hP9 := hP.sub (ws' := [(hq, .inr (3, [.ref qm, .ref qf, .ref ql, .int nc, .int nd, .int nf, .int na, .int nz, .int no, .int ns, .int nv, .int np, .ref qi, .int nn, .ref qo, .int nt])), (qm, .inl (cI, 104, .inl nm)), (qf, .inl (cI, 104, .inl nb)), (ql, .inl (cI, 4, .inl nl)), (qi, .inl (cI, 24, .inl ni)), (qo, .inl (cI, 16, .inl nu))]) [0, 1, 2, 3, 4, 5] rfl
            have hD9 := hD.sub (ws' := [(hq, .inr (3, [.ref qm, .ref qf, .ref ql, .int nc, .int nd, .int nf, .int na, .int nz, .int no, .int ns, .int nv, .int np, .ref qi, .int nn, .ref qo, .int nt])), (qm, .inl (cI, 104, .inl nm)), (qf, .inl (cI, 104, .inl nb)), (ql, .inl (cI, 4, .inl nl)), (qi, .inl (cI, 24, .inl ni)), (qo, .inl (cI, 16, .inl nu))]) [0, 1, 2, 3, 4, 5] (by decide) rfl
            exact W.zret (v := 0) (ty := .boolean) hx hb hr rfl (fun t ht hW => ⟨⟨0, (), rfl, ⟨rfl, rfl⟩, by rw [ht]; exact hP9, va_K.moved hW.alike hK, hD9⟩, hS.F ht⟩) hS.2.2 d_Rf_placesWrong_117
          have hf := ift hf hc115
          refine lv_aload_n hx hb d_Rf_placesWrong_103 rfl (lv_at hl 2 rfl) ?_
          refine va_get (D := (dC, dI)) (ci := 3) (v := .ref qi) (C := R_Rf) (T := F_Rf) (N := 16) hx hb hts inRf hown hK hP 0 rfl rfl 12 (by decide) kf27 (fun _ h9 => h9) rfl d_Rf_placesWrong_104 ?_
          refine lv_iconst (v := 3) hx hb d_Rf_placesWrong_107 (by decide) ?_
          obtain ⟨hin_, hf⟩ := ix_some hf
          refine va_iald hx hb hK hP 4 0 rfl rfl hin_ d_Rf_placesWrong_108 ?_
          refine lv_if_eq (tgt := 116) hx hb d_Rf_placesWrong_109 rfl (fun hc117 => ?_) (fun hc117 => ?_)
          · have hf := ift hf hc117
            refine lv_iconst (v := 0) hx hb d_Rf_placesWrong_116 (by decide) ?_
            have e1_ := lf1 hf
            subst e1_
            have hP9 := hP.sub (ws' := [(hq, .inr (3, [.ref qm, .ref qf, .ref ql, .int nc, .int nd, .int nf, .int na, .int nz, .int no, .int ns, .int nv, .int np, .ref qi, .int nn, .ref qo, .int nt])), (qm, .inl (cI, 104, .inl nm)), (qf, .inl (cI, 104, .inl nb)), (ql, .inl (cI, 4, .inl nl)), (qi, .inl (cI, 24, .inl ni)), (qo, .inl (cI, 16, .inl nu))]) [0, 1, 2, 3, 4, 5] rfl
            have hD9 := hD.sub (ws' := [(hq, .inr (3, [.ref qm, .ref qf, .ref ql, .int nc, .int nd, .int nf, .int na, .int nz, .int no, .int ns, .int nv, .int np, .ref qi, .int nn, .ref qo, .int nt])), (qm, .inl (cI, 104, .inl nm)), (qf, .inl (cI, 104, .inl nb)), (ql, .inl (cI, 4, .inl nl)), (qi, .inl (cI, 24, .inl ni)), (qo, .inl (cI, 16, .inl nu))]) [0, 1, 2, 3, 4, 5] (by decide) rfl
            exact W.zret (v := 0) (ty := .boolean) hx hb hr rfl (fun t ht hW => ⟨⟨0, (), rfl, ⟨rfl, rfl⟩, by rw [ht]; exact hP9, va_K.moved hW.alike hK, hD9⟩, hS.F ht⟩) hS.2.2 d_Rf_placesWrong_117
          have hf := ifn hf hc117
          refine lv_iconst (v := 1) hx hb d_Rf_placesWrong_112 (by decide) ?_
          refine lv_goto (tgt := 117) hx hb d_Rf_placesWrong_113 rfl ?_
          have e1_ := lf1 hf
          subst e1_
          have hP9 := hP.sub (ws' := [(hq, .inr (3, [.ref qm, .ref qf, .ref ql, .int nc, .int nd, .int nf, .int na, .int nz, .int no, .int ns, .int nv, .int np, .ref qi, .int nn, .ref qo, .int nt])), (qm, .inl (cI, 104, .inl nm)), (qf, .inl (cI, 104, .inl nb)), (ql, .inl (cI, 4, .inl nl)), (qi, .inl (cI, 24, .inl ni)), (qo, .inl (cI, 16, .inl nu))]) [0, 1, 2, 3, 4, 5] rfl
          have hD9 := hD.sub (ws' := [(hq, .inr (3, [.ref qm, .ref qf, .ref ql, .int nc, .int nd, .int nf, .int na, .int nz, .int no, .int ns, .int nv, .int np, .ref qi, .int nn, .ref qo, .int nt])), (qm, .inl (cI, 104, .inl nm)), (qf, .inl (cI, 104, .inl nb)), (ql, .inl (cI, 4, .inl nl)), (qi, .inl (cI, 24, .inl ni)), (qo, .inl (cI, 16, .inl nu))]) [0, 1, 2, 3, 4, 5] (by decide) rfl
          exact W.zret (v := 1) (ty := .boolean) hx hb hr rfl (fun t ht hW => ⟨⟨1, (), rfl, ⟨rfl, rfl⟩, by rw [ht]; exact hP9, va_K.moved hW.alike hK, hD9⟩, hS.F ht⟩) hS.2.2 d_Rf_placesWrong_117
        have hf := ift hf hc112
        refine lv_iconst (v := 1) hx hb d_Rf_placesWrong_83 (by decide) ?_
        refine lv_goto (tgt := 88) hx hb d_Rf_placesWrong_84 rfl ?_
        refine lv_istore_n hx hb d_Rf_placesWrong_88 rfl hl (by decide) rfl (fun ls hl => ?_)
        have hl : lv_has ls 4 [(3, .int 1), (2, .int 0), (0, .ref hq), (1, .int a1)] := hl
        refine lv_aload_n hx hb d_Rf_placesWrong_89 rfl (lv_at hl 2 rfl) ?_
        refine va_get (D := (dC, dI)) (ci := 3) (v := .ref qi) (C := R_Rf) (T := F_Rf) (N := 16) hx hb hts inRf hown hK hP 0 rfl rfl 12 (by decide) kf27 (fun _ h9 => h9) rfl d_Rf_placesWrong_90 ?_
        refine lv_iconst (v := 2) hx hb d_Rf_placesWrong_93 (by decide) ?_
        obtain ⟨hin_, hf⟩ := ix_some hf
        refine va_iald hx hb hK hP 4 0 rfl rfl hin_ d_Rf_placesWrong_94 ?_
        refine lv_iload_n hx hb d_Rf_placesWrong_95 rfl (lv_at hl 1 rfl) ?_
        refine lv_icmp_gt (tgt := 112) hx hb d_Rf_placesWrong_96 rfl (fun hc119 => ?_) (fun hc119 => ?_)
        · have hf := ift hf hc119
          refine lv_iconst (v := 1) hx hb d_Rf_placesWrong_112 (by decide) ?_
          refine lv_goto (tgt := 117) hx hb d_Rf_placesWrong_113 rfl ?_
          have e1_ := lf1 hf
          subst e1_
          have hP9 := hP.sub (ws' := [(hq, .inr (3, [.ref qm, .ref qf, .ref ql, .int nc, .int nd, .int nf, .int na, .int nz, .int no, .int ns, .int nv, .int np, .ref qi, .int nn, .ref qo, .int nt])), (qm, .inl (cI, 104, .inl nm)), (qf, .inl (cI, 104, .inl nb)), (ql, .inl (cI, 4, .inl nl)), (qi, .inl (cI, 24, .inl ni)), (qo, .inl (cI, 16, .inl nu))]) [0, 1, 2, 3, 4, 5] rfl
          have hD9 := hD.sub (ws' := [(hq, .inr (3, [.ref qm, .ref qf, .ref ql, .int nc, .int nd, .int nf, .int na, .int nz, .int no, .int ns, .int nv, .int np, .ref qi, .int nn, .ref qo, .int nt])), (qm, .inl (cI, 104, .inl nm)), (qf, .inl (cI, 104, .inl nb)), (ql, .inl (cI, 4, .inl nl)), (qi, .inl (cI, 24, .inl ni)), (qo, .inl (cI, 16, .inl nu))]) [0, 1, 2, 3, 4, 5] (by decide) rfl
          exact W.zret (v := 1) (ty := .boolean) hx hb hr rfl (fun t ht hW => ⟨⟨1, (), rfl, ⟨rfl, rfl⟩, by rw [ht]; exact hP9, va_K.moved hW.alike hK, hD9⟩, hS.F ht⟩) hS.2.2 d_Rf_placesWrong_117
        have hf := ifn hf hc119
        refine lv_iload_n hx hb d_Rf_placesWrong_99 rfl (lv_at hl 0 rfl) ?_
        refine lv_if_ne (tgt := 116) hx hb d_Rf_placesWrong_100 rfl (fun hc120 => ?_) (fun hc120 => ?_)
        · have hf := ifn hf hc120
          refine lv_iconst (v := 0) hx hb d_Rf_placesWrong_116 (by decide) ?_
          have e1_ := lf1 hf
          subst e1_
          have hP9 := hP.sub (ws' := [(hq, .inr (3, [.ref qm, .ref qf, .ref ql, .int nc, .int nd, .int nf, .int na, .int nz, .int no, .int ns, .int nv, .int np, .ref qi, .int nn, .ref qo, .int nt])), (qm, .inl (cI, 104, .inl nm)), (qf, .inl (cI, 104, .inl nb)), (ql, .inl (cI, 4, .inl nl)), (qi, .inl (cI, 24, .inl ni)), (qo, .inl (cI, 16, .inl nu))]) [0, 1, 2, 3, 4, 5] rfl
          have hD9 := hD.sub (ws' := [(hq, .inr (3, [.ref qm, .ref qf, .ref ql, .int nc, .int nd, .int nf, .int na, .int nz, .int no, .int ns, .int nv, .int np, .ref qi, .int nn, .ref qo, .int nt])), (qm, .inl (cI, 104, .inl nm)), (qf, .inl (cI, 104, .inl nb)), (ql, .inl (cI, 4, .inl nl)), (qi, .inl (cI, 24, .inl ni)), (qo, .inl (cI, 16, .inl nu))]) [0, 1, 2, 3, 4, 5] (by decide) rfl
          exact W.zret (v := 0) (ty := .boolean) hx hb hr rfl (fun t ht hW => ⟨⟨0, (), rfl, ⟨rfl, rfl⟩, by rw [ht]; exact hP9, va_K.moved hW.alike hK, hD9⟩, hS.F ht⟩) hS.2.2 d_Rf_placesWrong_117
        have hf := ift hf hc120
        refine lv_aload_n hx hb d_Rf_placesWrong_103 rfl (lv_at hl 2 rfl) ?_
        refine va_get (D := (dC, dI)) (ci := 3) (v := .ref qi) (C := R_Rf) (T := F_Rf) (N := 16) hx hb hts inRf hown hK hP 0 rfl rfl 12 (by decide) kf27 (fun _ h9 => h9) rfl d_Rf_placesWrong_104 ?_
        refine lv_iconst (v := 3) hx hb d_Rf_placesWrong_107 (by decide) ?_
        obtain ⟨hin_, hf⟩ := ix_some hf
        refine va_iald hx hb hK hP 4 0 rfl rfl hin_ d_Rf_placesWrong_108 ?_
        refine lv_if_eq (tgt := 116) hx hb d_Rf_placesWrong_109 rfl (fun hc122 => ?_) (fun hc122 => ?_)
        · have hf := ift hf hc122
          refine lv_iconst (v := 0) hx hb d_Rf_placesWrong_116 (by decide) ?_
          have e1_ := lf1 hf
          subst e1_
          have hP9 := hP.sub (ws' := [(hq, .inr (3, [.ref qm, .ref qf, .ref ql, .int nc, .int nd, .int nf, .int na, .int nz, .int no, .int ns, .int nv, .int np, .ref qi, .int nn, .ref qo, .int nt])), (qm, .inl (cI, 104, .inl nm)), (qf, .inl (cI, 104, .inl nb)), (ql, .inl (cI, 4, .inl nl)), (qi, .inl (cI, 24, .inl ni)), (qo, .inl (cI, 16, .inl nu))]) [0, 1, 2, 3, 4, 5] rfl
          have hD9 := hD.sub (ws' := [(hq, .inr (3, [.ref qm, .ref qf, .ref ql, .int nc, .int nd, .int nf, .int na, .int nz, .int no, .int ns, .int nv, .int np, .ref qi, .int nn, .ref qo, .int nt])), (qm, .inl (cI, 104, .inl nm)), (qf, .inl (cI, 104, .inl nb)), (ql, .inl (cI, 4, .inl nl)), (qi, .inl (cI, 24, .inl ni)), (qo, .inl (cI, 16, .inl nu))]) [0, 1, 2, 3, 4, 5] (by decide) rfl
          exact W.zret (v := 0) (ty := .boolean) hx hb hr rfl (fun t ht hW => ⟨⟨0, (), rfl, ⟨rfl, rfl⟩, by rw [ht]; exact hP9, va_K.moved hW.alike hK, hD9⟩, hS.F ht⟩) hS.2.2 d_Rf_placesWrong_117
        have hf := ifn hf hc122
        refine lv_iconst (v := 1) hx hb d_Rf_placesWrong_112 (by decide) ?_
        refine lv_goto (tgt := 117) hx hb d_Rf_placesWrong_113 rfl ?_
        have e1_ := lf1 hf
        subst e1_
        have hP9 := hP.sub (ws' := [(hq, .inr (3, [.ref qm, .ref qf, .ref ql, .int nc, .int nd, .int nf, .int na, .int nz, .int no, .int ns, .int nv, .int np, .ref qi, .int nn, .ref qo, .int nt])), (qm, .inl (cI, 104, .inl nm)), (qf, .inl (cI, 104, .inl nb)), (ql, .inl (cI, 4, .inl nl)), (qi, .inl (cI, 24, .inl ni)), (qo, .inl (cI, 16, .inl nu))]) [0, 1, 2, 3, 4, 5] rfl
        have hD9 := hD.sub (ws' := [(hq, .inr (3, [.ref qm, .ref qf, .ref ql, .int nc, .int nd, .int nf, .int na, .int nz, .int no, .int ns, .int nv, .int np, .ref qi, .int nn, .ref qo, .int nt])), (qm, .inl (cI, 104, .inl nm)), (qf, .inl (cI, 104, .inl nb)), (ql, .inl (cI, 4, .inl nl)), (qi, .inl (cI, 24, .inl ni)), (qo, .inl (cI, 16, .inl nu))]) [0, 1, 2, 3, 4, 5] (by decide) rfl
        exact W.zret (v := 1) (ty := .boolean) hx hb hr rfl (fun t ht hW => ⟨⟨1, (), rfl, ⟨rfl, rfl⟩, by rw [ht]; exact hP9, va_K.moved hW.alike hK, hD9⟩, hS.F ht⟩) hS.2.2 d_Rf_placesWrong_117
      have hf := ift hf hc93
      refine lv_bipush (v := 7) hx hb d_Rf_placesWrong_48 (by decide) ?_
      refine lv_goto (tgt := 54) hx hb d_Rf_placesWrong_50 rfl ?_
      refine lv_istore_n hx hb d_Rf_placesWrong_54 rfl hl (by decide) rfl (fun ls hl => ?_)
      have hl : lv_has ls 4 [(2, .int 7), (0, .ref hq), (1, .int a1)] := hl
      refine lv_iload_n hx hb d_Rf_placesWrong_55 rfl (lv_at hl 2 rfl) ?_
      refine lv_sipush (v := 176) hx hb d_Rf_placesWrong_56 (by decide) ?_
      refine lv_icmp_eq (tgt := 83) hx hb d_Rf_placesWrong_59 rfl (fun hc123 => ?_) (fun hc123 => ?_)
      · have hf := ift hf hc123
        refine lv_iconst (v := 1) hx hb d_Rf_placesWrong_83 (by decide) ?_
        refine lv_goto (tgt := 88) hx hb d_Rf_placesWrong_84 rfl ?_
        refine lv_istore_n hx hb d_Rf_placesWrong_88 rfl hl (by decide) rfl (fun ls hl => ?_)
        have hl : lv_has ls 4 [(3, .int 1), (2, .int 7), (0, .ref hq), (1, .int a1)] := hl
        refine lv_aload_n hx hb d_Rf_placesWrong_89 rfl (lv_at hl 2 rfl) ?_
        refine va_get (D := (dC, dI)) (ci := 3) (v := .ref qi) (C := R_Rf) (T := F_Rf) (N := 16) hx hb hts inRf hown hK hP 0 rfl rfl 12 (by decide) kf27 (fun _ h9 => h9) rfl d_Rf_placesWrong_90 ?_
        refine lv_iconst (v := 2) hx hb d_Rf_placesWrong_93 (by decide) ?_
        obtain ⟨hin_, hf⟩ := ix_some hf
        refine va_iald hx hb hK hP 4 0 rfl rfl hin_ d_Rf_placesWrong_94 ?_
        refine lv_iload_n hx hb d_Rf_placesWrong_95 rfl (lv_at hl 1 rfl) ?_
        refine lv_icmp_gt (tgt := 112) hx hb d_Rf_placesWrong_96 rfl (fun hc125 => ?_) (fun hc125 => ?_)
        · have hf := ift hf hc125
          refine lv_iconst (v := 1) hx hb d_Rf_placesWrong_112 (by decide) ?_
          refine lv_goto (tgt := 117) hx hb d_Rf_placesWrong_113 rfl ?_
          have e1_ := lf1 hf
          subst e1_
          have hP9 := hP.sub (ws' := [(hq, .inr (3, [.ref qm, .ref qf, .ref ql, .int nc, .int nd, .int nf, .int na, .int nz, .int no, .int ns, .int nv, .int np, .ref qi, .int nn, .ref qo, .int nt])), (qm, .inl (cI, 104, .inl nm)), (qf, .inl (cI, 104, .inl nb)), (ql, .inl (cI, 4, .inl nl)), (qi, .inl (cI, 24, .inl ni)), (qo, .inl (cI, 16, .inl nu))]) [0, 1, 2, 3, 4, 5] rfl
          have hD9 := hD.sub (ws' := [(hq, .inr (3, [.ref qm, .ref qf, .ref ql, .int nc, .int nd, .int nf, .int na, .int nz, .int no, .int ns, .int nv, .int np, .ref qi, .int nn, .ref qo, .int nt])), (qm, .inl (cI, 104, .inl nm)), (qf, .inl (cI, 104, .inl nb)), (ql, .inl (cI, 4, .inl nl)), (qi, .inl (cI, 24, .inl ni)), (qo, .inl (cI, 16, .inl nu))]) [0, 1, 2, 3, 4, 5] (by decide) rfl
          exact W.zret (v := 1) (ty := .boolean) hx hb hr rfl (fun t ht hW => ⟨⟨1, (), rfl, ⟨rfl, rfl⟩, by rw [ht]; exact hP9, va_K.moved hW.alike hK, hD9⟩, hS.F ht⟩) hS.2.2 d_Rf_placesWrong_117
        have hf := ifn hf hc125
        refine lv_iload_n hx hb d_Rf_placesWrong_99 rfl (lv_at hl 0 rfl) ?_
        refine lv_if_ne (tgt := 116) hx hb d_Rf_placesWrong_100 rfl (fun hc126 => ?_) (fun hc126 => ?_)
        · have hf := ifn hf hc126
          refine lv_iconst (v := 0) hx hb d_Rf_placesWrong_116 (by decide) ?_
          have e1_ := lf1 hf
          subst e1_
          have hP9 := hP.sub (ws' := [(hq, .inr (3, [.ref qm, .ref qf, .ref ql, .int nc, .int nd, .int nf, .int na, .int nz, .int no, .int ns, .int nv, .int np, .ref qi, .int nn, .ref qo, .int nt])), (qm, .inl (cI, 104, .inl nm)), (qf, .inl (cI, 104, .inl nb)), (ql, .inl (cI, 4, .inl nl)), (qi, .inl (cI, 24, .inl ni)), (qo, .inl (cI, 16, .inl nu))]) [0, 1, 2, 3, 4, 5] rfl
          have hD9 := hD.sub (ws' := [(hq, .inr (3, [.ref qm, .ref qf, .ref ql, .int nc, .int nd, .int nf, .int na, .int nz, .int no, .int ns, .int nv, .int np, .ref qi, .int nn, .ref qo, .int nt])), (qm, .inl (cI, 104, .inl nm)), (qf, .inl (cI, 104, .inl nb)), (ql, .inl (cI, 4, .inl nl)), (qi, .inl (cI, 24, .inl ni)), (qo, .inl (cI, 16, .inl nu))]) [0, 1, 2, 3, 4, 5] (by decide) rfl
          exact W.zret (v := 0) (ty := .boolean) hx hb hr rfl (fun t ht hW => ⟨⟨0, (), rfl, ⟨rfl, rfl⟩, by rw [ht]; exact hP9, va_K.moved hW.alike hK, hD9⟩, hS.F ht⟩) hS.2.2 d_Rf_placesWrong_117
        have hf := ift hf hc126
        refine lv_aload_n hx hb d_Rf_placesWrong_103 rfl (lv_at hl 2 rfl) ?_
        refine va_get (D := (dC, dI)) (ci := 3) (v := .ref qi) (C := R_Rf) (T := F_Rf) (N := 16) hx hb hts inRf hown hK hP 0 rfl rfl 12 (by decide) kf27 (fun _ h9 => h9) rfl d_Rf_placesWrong_104 ?_
        refine lv_iconst (v := 3) hx hb d_Rf_placesWrong_107 (by decide) ?_
        obtain ⟨hin_, hf⟩ := ix_some hf
        refine va_iald hx hb hK hP 4 0 rfl rfl hin_ d_Rf_placesWrong_108 ?_
        refine lv_if_eq (tgt := 116) hx hb d_Rf_placesWrong_109 rfl (fun hc128 => ?_) (fun hc128 => ?_)
        · have hf := ift hf hc128
          refine lv_iconst (v := 0) hx hb d_Rf_placesWrong_116 (by decide) ?_
          have e1_ := lf1 hf
          subst e1_
          have hP9 := hP.sub (ws' := [(hq, .inr (3, [.ref qm, .ref qf, .ref ql, .int nc, .int nd, .int nf, .int na, .int nz, .int no, .int ns, .int nv, .int np, .ref qi, .int nn, .ref qo, .int nt])), (qm, .inl (cI, 104, .inl nm)), (qf, .inl (cI, 104, .inl nb)), (ql, .inl (cI, 4, .inl nl)), (qi, .inl (cI, 24, .inl ni)), (qo, .inl (cI, 16, .inl nu))]) [0, 1, 2, 3, 4, 5] rfl
          have hD9 := hD.sub (ws' := [(hq, .inr (3, [.ref qm, .ref qf, .ref ql, .int nc, .int nd, .int nf, .int na, .int nz, .int no, .int ns, .int nv, .int np, .ref qi, .int nn, .ref qo, .int nt])), (qm, .inl (cI, 104, .inl nm)), (qf, .inl (cI, 104, .inl nb)), (ql, .inl (cI, 4, .inl nl)), (qi, .inl (cI, 24, .inl ni)), (qo, .inl (cI, 16, .inl nu))]) [0, 1, 2, 3, 4, 5] (by decide) rfl
          exact W.zret (v := 0) (ty := .boolean) hx hb hr rfl (fun t ht hW => ⟨⟨0, (), rfl, ⟨rfl, rfl⟩, by rw [ht]; exact hP9, va_K.moved hW.alike hK, hD9⟩, hS.F ht⟩) hS.2.2 d_Rf_placesWrong_117
        have hf := ifn hf hc128
        refine lv_iconst (v := 1) hx hb d_Rf_placesWrong_112 (by decide) ?_
        refine lv_goto (tgt := 117) hx hb d_Rf_placesWrong_113 rfl ?_
        have e1_ := lf1 hf
        subst e1_
        have hP9 := hP.sub (ws' := [(hq, .inr (3, [.ref qm, .ref qf, .ref ql, .int nc, .int nd, .int nf, .int na, .int nz, .int no, .int ns, .int nv, .int np, .ref qi, .int nn, .ref qo, .int nt])), (qm, .inl (cI, 104, .inl nm)), (qf, .inl (cI, 104, .inl nb)), (ql, .inl (cI, 4, .inl nl)), (qi, .inl (cI, 24, .inl ni)), (qo, .inl (cI, 16, .inl nu))]) [0, 1, 2, 3, 4, 5] rfl
        have hD9 := hD.sub (ws' := [(hq, .inr (3, [.ref qm, .ref qf, .ref ql, .int nc, .int nd, .int nf, .int na, .int nz, .int no, .int ns, .int nv, .int np, .ref qi, .int nn, .ref qo, .int nt])), (qm, .inl (cI, 104, .inl nm)), (qf, .inl (cI, 104, .inl nb)), (ql, .inl (cI, 4, .inl nl)), (qi, .inl (cI, 24, .inl ni)), (qo, .inl (cI, 16, .inl nu))]) [0, 1, 2, 3, 4, 5] (by decide) rfl
        exact W.zret (v := 1) (ty := .boolean) hx hb hr rfl (fun t ht hW => ⟨⟨1, (), rfl, ⟨rfl, rfl⟩, by rw [ht]; exact hP9, va_K.moved hW.alike hK, hD9⟩, hS.F ht⟩) hS.2.2 d_Rf_placesWrong_117
      have hf := ifn hf hc123
      refine lv_iload_n hx hb d_Rf_placesWrong_62 rfl (lv_at hl 2 rfl) ?_
      refine lv_sipush (v := 214) hx hb d_Rf_placesWrong_63 (by decide) ?_
      refine lv_icmp_eq (tgt := 83) hx hb d_Rf_placesWrong_66 rfl (fun hc129 => ?_) (fun hc129 => ?_)
      · have hf := ift hf hc129
        refine lv_iconst (v := 1) hx hb d_Rf_placesWrong_83 (by decide) ?_
        refine lv_goto (tgt := 88) hx hb d_Rf_placesWrong_84 rfl ?_
        refine lv_istore_n hx hb d_Rf_placesWrong_88 rfl hl (by decide) rfl (fun ls hl => ?_)
        have hl : lv_has ls 4 [(3, .int 1), (2, .int 7), (0, .ref hq), (1, .int a1)] := hl
        refine lv_aload_n hx hb d_Rf_placesWrong_89 rfl (lv_at hl 2 rfl) ?_
        refine va_get (D := (dC, dI)) (ci := 3) (v := .ref qi) (C := R_Rf) (T := F_Rf) (N := 16) hx hb hts inRf hown hK hP 0 rfl rfl 12 (by decide) kf27 (fun _ h9 => h9) rfl d_Rf_placesWrong_90 ?_
        refine lv_iconst (v := 2) hx hb d_Rf_placesWrong_93 (by decide) ?_
        obtain ⟨hin_, hf⟩ := ix_some hf
        refine va_iald hx hb hK hP 4 0 rfl rfl hin_ d_Rf_placesWrong_94 ?_
        refine lv_iload_n hx hb d_Rf_placesWrong_95 rfl (lv_at hl 1 rfl) ?_
        refine lv_icmp_gt (tgt := 112) hx hb d_Rf_placesWrong_96 rfl (fun hc131 => ?_) (fun hc131 => ?_)
        · have hf := ift hf hc131
          refine lv_iconst (v := 1) hx hb d_Rf_placesWrong_112 (by decide) ?_
          refine lv_goto (tgt := 117) hx hb d_Rf_placesWrong_113 rfl ?_
          have e1_ := lf1 hf
          subst e1_
          have hP9 := hP.sub (ws' := [(hq, .inr (3, [.ref qm, .ref qf, .ref ql, .int nc, .int nd, .int nf, .int na, .int nz, .int no, .int ns, .int nv, .int np, .ref qi, .int nn, .ref qo, .int nt])), (qm, .inl (cI, 104, .inl nm)), (qf, .inl (cI, 104, .inl nb)), (ql, .inl (cI, 4, .inl nl)), (qi, .inl (cI, 24, .inl ni)), (qo, .inl (cI, 16, .inl nu))]) [0, 1, 2, 3, 4, 5] rfl
          have hD9 := hD.sub (ws' := [(hq, .inr (3, [.ref qm, .ref qf, .ref ql, .int nc, .int nd, .int nf, .int na, .int nz, .int no, .int ns, .int nv, .int np, .ref qi, .int nn, .ref qo, .int nt])), (qm, .inl (cI, 104, .inl nm)), (qf, .inl (cI, 104, .inl nb)), (ql, .inl (cI, 4, .inl nl)), (qi, .inl (cI, 24, .inl ni)), (qo, .inl (cI, 16, .inl nu))]) [0, 1, 2, 3, 4, 5] (by decide) rfl
          exact W.zret (v := 1) (ty := .boolean) hx hb hr rfl (fun t ht hW => ⟨⟨1, (), rfl, ⟨rfl, rfl⟩, by rw [ht]; exact hP9, va_K.moved hW.alike hK, hD9⟩, hS.F ht⟩) hS.2.2 d_Rf_placesWrong_117
        have hf := ifn hf hc131
        refine lv_iload_n hx hb d_Rf_placesWrong_99 rfl (lv_at hl 0 rfl) ?_
        refine lv_if_ne (tgt := 116) hx hb d_Rf_placesWrong_100 rfl (fun hc132 => ?_) (fun hc132 => ?_)
        · have hf := ifn hf hc132
          refine lv_iconst (v := 0) hx hb d_Rf_placesWrong_116 (by decide) ?_
          have e1_ := lf1 hf
          subst e1_
          have hP9 := hP.sub (ws' := [(hq, .inr (3, [.ref qm, .ref qf, .ref ql, .int nc, .int nd, .int nf, .int na, .int nz, .int no, .int ns, .int nv, .int np, .ref qi, .int nn, .ref qo, .int nt])), (qm, .inl (cI, 104, .inl nm)), (qf, .inl (cI, 104, .inl nb)), (ql, .inl (cI, 4, .inl nl)), (qi, .inl (cI, 24, .inl ni)), (qo, .inl (cI, 16, .inl nu))]) [0, 1, 2, 3, 4, 5] rfl
          have hD9 := hD.sub (ws' := [(hq, .inr (3, [.ref qm, .ref qf, .ref ql, .int nc, .int nd, .int nf, .int na, .int nz, .int no, .int ns, .int nv, .int np, .ref qi, .int nn, .ref qo, .int nt])), (qm, .inl (cI, 104, .inl nm)), (qf, .inl (cI, 104, .inl nb)), (ql, .inl (cI, 4, .inl nl)), (qi, .inl (cI, 24, .inl ni)), (qo, .inl (cI, 16, .inl nu))]) [0, 1, 2, 3, 4, 5] (by decide) rfl
          exact W.zret (v := 0) (ty := .boolean) hx hb hr rfl (fun t ht hW => ⟨⟨0, (), rfl, ⟨rfl, rfl⟩, by rw [ht]; exact hP9, va_K.moved hW.alike hK, hD9⟩, hS.F ht⟩) hS.2.2 d_Rf_placesWrong_117
        have hf := ift hf hc132
        refine lv_aload_n hx hb d_Rf_placesWrong_103 rfl (lv_at hl 2 rfl) ?_
        refine va_get (D := (dC, dI)) (ci := 3) (v := .ref qi) (C := R_Rf) (T := F_Rf) (N := 16) hx hb hts inRf hown hK hP 0 rfl rfl 12 (by decide) kf27 (fun _ h9 => h9) rfl d_Rf_placesWrong_104 ?_
        refine lv_iconst (v := 3) hx hb d_Rf_placesWrong_107 (by decide) ?_
        obtain ⟨hin_, hf⟩ := ix_some hf
        refine va_iald hx hb hK hP 4 0 rfl rfl hin_ d_Rf_placesWrong_108 ?_
        refine lv_if_eq (tgt := 116) hx hb d_Rf_placesWrong_109 rfl (fun hc134 => ?_) (fun hc134 => ?_)
        · have hf := ift hf hc134
          refine lv_iconst (v := 0) hx hb d_Rf_placesWrong_116 (by decide) ?_
          have e1_ := lf1 hf
          subst e1_
          have hP9 := hP.sub (ws' := [(hq, .inr (3, [.ref qm, .ref qf, .ref ql, .int nc, .int nd, .int nf, .int na, .int nz, .int no, .int ns, .int nv, .int np, .ref qi, .int nn, .ref qo, .int nt])), (qm, .inl (cI, 104, .inl nm)), (qf, .inl (cI, 104, .inl nb)), (ql, .inl (cI, 4, .inl nl)), (qi, .inl (cI, 24, .inl ni)), (qo, .inl (cI, 16, .inl nu))]) [0, 1, 2, 3, 4, 5] rfl
          have hD9 := hD.sub (ws' := [(hq, .inr (3, [.ref qm, .ref qf, .ref ql, .int nc, .int nd, .int nf, .int na, .int nz, .int no, .int ns, .int nv, .int np, .ref qi, .int nn, .ref qo, .int nt])), (qm, .inl (cI, 104, .inl nm)), (qf, .inl (cI, 104, .inl nb)), (ql, .inl (cI, 4, .inl nl)), (qi, .inl (cI, 24, .inl ni)), (qo, .inl (cI, 16, .inl nu))]) [0, 1, 2, 3, 4, 5] (by decide) rfl
          exact W.zret (v := 0) (ty := .boolean) hx hb hr rfl (fun t ht hW => ⟨⟨0, (), rfl, ⟨rfl, rfl⟩, by rw [ht]; exact hP9, va_K.moved hW.alike hK, hD9⟩, hS.F ht⟩) hS.2.2 d_Rf_placesWrong_117
        have hf := ifn hf hc134
        refine lv_iconst (v := 1) hx hb d_Rf_placesWrong_112 (by decide) ?_
        refine lv_goto (tgt := 117) hx hb d_Rf_placesWrong_113 rfl ?_
        have e1_ := lf1 hf
        subst e1_
        have hP9 := hP.sub (ws' := [(hq, .inr (3, [.ref qm, .ref qf, .ref ql, .int nc, .int nd, .int nf, .int na, .int nz, .int no, .int ns, .int nv, .int np, .ref qi, .int nn, .ref qo, .int nt])), (qm, .inl (cI, 104, .inl nm)), (qf, .inl (cI, 104, .inl nb)), (ql, .inl (cI, 4, .inl nl)), (qi, .inl (cI, 24, .inl ni)), (qo, .inl (cI, 16, .inl nu))]) [0, 1, 2, 3, 4, 5] rfl
        have hD9 := hD.sub (ws' := [(hq, .inr (3, [.ref qm, .ref qf, .ref ql, .int nc, .int nd, .int nf, .int na, .int nz, .int no, .int ns, .int nv, .int np, .ref qi, .int nn, .ref qo, .int nt])), (qm, .inl (cI, 104, .inl nm)), (qf, .inl (cI, 104, .inl nb)), (ql, .inl (cI, 4, .inl nl)), (qi, .inl (cI, 24, .inl ni)), (qo, .inl (cI, 16, .inl nu))]) [0, 1, 2, 3, 4, 5] (by decide) rfl
        exact W.zret (v := 1) (ty := .boolean) hx hb hr rfl (fun t ht hW => ⟨⟨1, (), rfl, ⟨rfl, rfl⟩, by rw [ht]; exact hP9, va_K.moved hW.alike hK, hD9⟩, hS.F ht⟩) hS.2.2 d_Rf_placesWrong_117
      have hf := ifn hf hc129
      refine lv_iload_n hx hb d_Rf_placesWrong_69 rfl (lv_at hl 2 rfl) ?_
      refine lv_sipush (v := 178) hx hb d_Rf_placesWrong_70 (by decide) ?_
      refine lv_icmp_eq (tgt := 83) hx hb d_Rf_placesWrong_73 rfl (fun hc135 => ?_) (fun hc135 => ?_)
      · have hf := ift hf hc135
        refine lv_iconst (v := 1) hx hb d_Rf_placesWrong_83 (by decide) ?_
        refine lv_goto (tgt := 88) hx hb d_Rf_placesWrong_84 rfl ?_
        refine lv_istore_n hx hb d_Rf_placesWrong_88 rfl hl (by decide) rfl (fun ls hl => ?_)
        have hl : lv_has ls 4 [(3, .int 1), (2, .int 7), (0, .ref hq), (1, .int a1)] := hl
        refine lv_aload_n hx hb d_Rf_placesWrong_89 rfl (lv_at hl 2 rfl) ?_
        refine va_get (D := (dC, dI)) (ci := 3) (v := .ref qi) (C := R_Rf) (T := F_Rf) (N := 16) hx hb hts inRf hown hK hP 0 rfl rfl 12 (by decide) kf27 (fun _ h9 => h9) rfl d_Rf_placesWrong_90 ?_
        refine lv_iconst (v := 2) hx hb d_Rf_placesWrong_93 (by decide) ?_
        obtain ⟨hin_, hf⟩ := ix_some hf
        refine va_iald hx hb hK hP 4 0 rfl rfl hin_ d_Rf_placesWrong_94 ?_
        refine lv_iload_n hx hb d_Rf_placesWrong_95 rfl (lv_at hl 1 rfl) ?_
        refine lv_icmp_gt (tgt := 112) hx hb d_Rf_placesWrong_96 rfl (fun hc137 => ?_) (fun hc137 => ?_)
        · have hf := ift hf hc137
          refine lv_iconst (v := 1) hx hb d_Rf_placesWrong_112 (by decide) ?_
          refine lv_goto (tgt := 117) hx hb d_Rf_placesWrong_113 rfl ?_
          have e1_ := lf1 hf
          subst e1_
          have hP9 := hP.sub (ws' := [(hq, .inr (3, [.ref qm, .ref qf, .ref ql, .int nc, .int nd, .int nf, .int na, .int nz, .int no, .int ns, .int nv, .int np, .ref qi, .int nn, .ref qo, .int nt])), (qm, .inl (cI, 104, .inl nm)), (qf, .inl (cI, 104, .inl nb)), (ql, .inl (cI, 4, .inl nl)), (qi, .inl (cI, 24, .inl ni)), (qo, .inl (cI, 16, .inl nu))]) [0, 1, 2, 3, 4, 5] rfl
          have hD9 := hD.sub (ws' := [(hq, .inr (3, [.ref qm, .ref qf, .ref ql, .int nc, .int nd, .int nf, .int na, .int nz, .int no, .int ns, .int nv, .int np, .ref qi, .int nn, .ref qo, .int nt])), (qm, .inl (cI, 104, .inl nm)), (qf, .inl (cI, 104, .inl nb)), (ql, .inl (cI, 4, .inl nl)), (qi, .inl (cI, 24, .inl ni)), (qo, .inl (cI, 16, .inl nu))]) [0, 1, 2, 3, 4, 5] (by decide) rfl
          exact W.zret (v := 1) (ty := .boolean) hx hb hr rfl (fun t ht hW => ⟨⟨1, (), rfl, ⟨rfl, rfl⟩, by rw [ht]; exact hP9, va_K.moved hW.alike hK, hD9⟩, hS.F ht⟩) hS.2.2 d_Rf_placesWrong_117
        have hf := ifn hf hc137
        refine lv_iload_n hx hb d_Rf_placesWrong_99 rfl (lv_at hl 0 rfl) ?_
        refine lv_if_ne (tgt := 116) hx hb d_Rf_placesWrong_100 rfl (fun hc138 => ?_) (fun hc138 => ?_)
        · have hf := ifn hf hc138
          refine lv_iconst (v := 0) hx hb d_Rf_placesWrong_116 (by decide) ?_
          have e1_ := lf1 hf
          subst e1_
          have hP9 := hP.sub (ws' := [(hq, .inr (3, [.ref qm, .ref qf, .ref ql, .int nc, .int nd, .int nf, .int na, .int nz, .int no, .int ns, .int nv, .int np, .ref qi, .int nn, .ref qo, .int nt])), (qm, .inl (cI, 104, .inl nm)), (qf, .inl (cI, 104, .inl nb)), (ql, .inl (cI, 4, .inl nl)), (qi, .inl (cI, 24, .inl ni)), (qo, .inl (cI, 16, .inl nu))]) [0, 1, 2, 3, 4, 5] rfl
          have hD9 := hD.sub (ws' := [(hq, .inr (3, [.ref qm, .ref qf, .ref ql, .int nc, .int nd, .int nf, .int na, .int nz, .int no, .int ns, .int nv, .int np, .ref qi, .int nn, .ref qo, .int nt])), (qm, .inl (cI, 104, .inl nm)), (qf, .inl (cI, 104, .inl nb)), (ql, .inl (cI, 4, .inl nl)), (qi, .inl (cI, 24, .inl ni)), (qo, .inl (cI, 16, .inl nu))]) [0, 1, 2, 3, 4, 5] (by decide) rfl
          exact W.zret (v := 0) (ty := .boolean) hx hb hr rfl (fun t ht hW => ⟨⟨0, (), rfl, ⟨rfl, rfl⟩, by rw [ht]; exact hP9, va_K.moved hW.alike hK, hD9⟩, hS.F ht⟩) hS.2.2 d_Rf_placesWrong_117
        have hf := ift hf hc138
        refine lv_aload_n hx hb d_Rf_placesWrong_103 rfl (lv_at hl 2 rfl) ?_
        refine va_get (D := (dC, dI)) (ci := 3) (v := .ref qi) (C := R_Rf) (T := F_Rf) (N := 16) hx hb hts inRf hown hK hP 0 rfl rfl 12 (by decide) kf27 (fun _ h9 => h9) rfl d_Rf_placesWrong_104 ?_
        refine lv_iconst (v := 3) hx hb d_Rf_placesWrong_107 (by decide) ?_
        obtain ⟨hin_, hf⟩ := ix_some hf
        refine va_iald hx hb hK hP 4 0 rfl rfl hin_ d_Rf_placesWrong_108 ?_
        refine lv_if_eq (tgt := 116) hx hb d_Rf_placesWrong_109 rfl (fun hc140 => ?_) (fun hc140 => ?_)
        · have hf := ift hf hc140
          refine lv_iconst (v := 0) hx hb d_Rf_placesWrong_116 (by decide) ?_
          have e1_ := lf1 hf
          subst e1_
          have hP9 := hP.sub (ws' := [(hq, .inr (3, [.ref qm, .ref qf, .ref ql, .int nc, .int nd, .int nf, .int na, .int nz, .int no, .int ns, .int nv, .int np, .ref qi, .int nn, .ref qo, .int nt])), (qm, .inl (cI, 104, .inl nm)), (qf, .inl (cI, 104, .inl nb)), (ql, .inl (cI, 4, .inl nl)), (qi, .inl (cI, 24, .inl ni)), (qo, .inl (cI, 16, .inl nu))]) [0, 1, 2, 3, 4, 5] rfl
          have hD9 := hD.sub (ws' := [(hq, .inr (3, [.ref qm, .ref qf, .ref ql, .int nc, .int nd, .int nf, .int na, .int nz, .int no, .int ns, .int nv, .int np, .ref qi, .int nn, .ref qo, .int nt])), (qm, .inl (cI, 104, .inl nm)), (qf, .inl (cI, 104, .inl nb)), (ql, .inl (cI, 4, .inl nl)), (qi, .inl (cI, 24, .inl ni)), (qo, .inl (cI, 16, .inl nu))]) [0, 1, 2, 3, 4, 5] (by decide) rfl
          exact W.zret (v := 0) (ty := .boolean) hx hb hr rfl (fun t ht hW => ⟨⟨0, (), rfl, ⟨rfl, rfl⟩, by rw [ht]; exact hP9, va_K.moved hW.alike hK, hD9⟩, hS.F ht⟩) hS.2.2 d_Rf_placesWrong_117
        have hf := ifn hf hc140
        refine lv_iconst (v := 1) hx hb d_Rf_placesWrong_112 (by decide) ?_
        refine lv_goto (tgt := 117) hx hb d_Rf_placesWrong_113 rfl ?_
        have e1_ := lf1 hf
        subst e1_
        have hP9 := hP.sub (ws' := [(hq, .inr (3, [.ref qm, .ref qf, .ref ql, .int nc, .int nd, .int nf, .int na, .int nz, .int no, .int ns, .int nv, .int np, .ref qi, .int nn, .ref qo, .int nt])), (qm, .inl (cI, 104, .inl nm)), (qf, .inl (cI, 104, .inl nb)), (ql, .inl (cI, 4, .inl nl)), (qi, .inl (cI, 24, .inl ni)), (qo, .inl (cI, 16, .inl nu))]) [0, 1, 2, 3, 4, 5] rfl
        have hD9 := hD.sub (ws' := [(hq, .inr (3, [.ref qm, .ref qf, .ref ql, .int nc, .int nd, .int nf, .int na, .int nz, .int no, .int ns, .int nv, .int np, .ref qi, .int nn, .ref qo, .int nt])), (qm, .inl (cI, 104, .inl nm)), (qf, .inl (cI, 104, .inl nb)), (ql, .inl (cI, 4, .inl nl)), (qi, .inl (cI, 24, .inl ni)), (qo, .inl (cI, 16, .inl nu))]) [0, 1, 2, 3, 4, 5] (by decide) rfl
        exact W.zret (v := 1) (ty := .boolean) hx hb hr rfl (fun t ht hW => ⟨⟨1, (), rfl, ⟨rfl, rfl⟩, by rw [ht]; exact hP9, va_K.moved hW.alike hK, hD9⟩, hS.F ht⟩) hS.2.2 d_Rf_placesWrong_117
      have hf := ifn hf hc135
      refine lv_iload_n hx hb d_Rf_placesWrong_76 rfl (lv_at hl 2 rfl) ?_
      refine lv_sipush (v := 220) hx hb d_Rf_placesWrong_77 (by decide) ?_
      refine lv_icmp_ne (tgt := 87) hx hb d_Rf_placesWrong_80 rfl (fun hc141 => ?_) (fun hc141 => ?_)
      · have hf := ifn hf hc141
        refine lv_iconst (v := 0) hx hb d_Rf_placesWrong_87 (by decide) ?_
        refine lv_istore_n hx hb d_Rf_placesWrong_88 rfl hl (by decide) rfl (fun ls hl => ?_)
        have hl : lv_has ls 4 [(3, .int 0), (2, .int 7), (0, .ref hq), (1, .int a1)] := hl
        refine lv_aload_n hx hb d_Rf_placesWrong_89 rfl (lv_at hl 2 rfl) ?_
        refine va_get (D := (dC, dI)) (ci := 3) (v := .ref qi) (C := R_Rf) (T := F_Rf) (N := 16) hx hb hts inRf hown hK hP 0 rfl rfl 12 (by decide) kf27 (fun _ h9 => h9) rfl d_Rf_placesWrong_90 ?_
        refine lv_iconst (v := 2) hx hb d_Rf_placesWrong_93 (by decide) ?_
        obtain ⟨hin_, hf⟩ := ix_some hf
        refine va_iald hx hb hK hP 4 0 rfl rfl hin_ d_Rf_placesWrong_94 ?_
        refine lv_iload_n hx hb d_Rf_placesWrong_95 rfl (lv_at hl 1 rfl) ?_
        refine lv_icmp_gt (tgt := 112) hx hb d_Rf_placesWrong_96 rfl (fun hc143 => ?_) (fun hc143 => ?_)
        · have hf := ift hf hc143
          refine lv_iconst (v := 1) hx hb d_Rf_placesWrong_112 (by decide) ?_
          refine lv_goto (tgt := 117) hx hb d_Rf_placesWrong_113 rfl ?_
          have e1_ := lf1 hf
          subst e1_
          have hP9 := hP.sub (ws' := [(hq, .inr (3, [.ref qm, .ref qf, .ref ql, .int nc, .int nd, .int nf, .int na, .int nz, .int no, .int ns, .int nv, .int np, .ref qi, .int nn, .ref qo, .int nt])), (qm, .inl (cI, 104, .inl nm)), (qf, .inl (cI, 104, .inl nb)), (ql, .inl (cI, 4, .inl nl)), (qi, .inl (cI, 24, .inl ni)), (qo, .inl (cI, 16, .inl nu))]) [0, 1, 2, 3, 4, 5] rfl
          have hD9 := hD.sub (ws' := [(hq, .inr (3, [.ref qm, .ref qf, .ref ql, .int nc, .int nd, .int nf, .int na, .int nz, .int no, .int ns, .int nv, .int np, .ref qi, .int nn, .ref qo, .int nt])), (qm, .inl (cI, 104, .inl nm)), (qf, .inl (cI, 104, .inl nb)), (ql, .inl (cI, 4, .inl nl)), (qi, .inl (cI, 24, .inl ni)), (qo, .inl (cI, 16, .inl nu))]) [0, 1, 2, 3, 4, 5] (by decide) rfl
          exact W.zret (v := 1) (ty := .boolean) hx hb hr rfl (fun t ht hW => ⟨⟨1, (), rfl, ⟨rfl, rfl⟩, by rw [ht]; exact hP9, va_K.moved hW.alike hK, hD9⟩, hS.F ht⟩) hS.2.2 d_Rf_placesWrong_117
        have hf := ifn hf hc143
        refine lv_iload_n hx hb d_Rf_placesWrong_99 rfl (lv_at hl 0 rfl) ?_
        refine lv_if_ne (tgt := 116) hx hb d_Rf_placesWrong_100 rfl (fun hc144 => ?_) (fun hc144 => ?_)
        · have hf := ifn hf hc144
          refine lv_iconst (v := 0) hx hb d_Rf_placesWrong_116 (by decide) ?_
          have e1_ := lf1 hf
          subst e1_
          have hP9 := hP.sub (ws' := [(hq, .inr (3, [.ref qm, .ref qf, .ref ql, .int nc, .int nd, .int nf, .int na, .int nz, .int no, .int ns, .int nv, .int np, .ref qi, .int nn, .ref qo, .int nt])), (qm, .inl (cI, 104, .inl nm)), (qf, .inl (cI, 104, .inl nb)), (ql, .inl (cI, 4, .inl nl)), (qi, .inl (cI, 24, .inl ni)), (qo, .inl (cI, 16, .inl nu))]) [0, 1, 2, 3, 4, 5] rfl
          have hD9 := hD.sub (ws' := [(hq, .inr (3, [.ref qm, .ref qf, .ref ql, .int nc, .int nd, .int nf, .int na, .int nz, .int no, .int ns, .int nv, .int np, .ref qi, .int nn, .ref qo, .int nt])), (qm, .inl (cI, 104, .inl nm)), (qf, .inl (cI, 104, .inl nb)), (ql, .inl (cI, 4, .inl nl)), (qi, .inl (cI, 24, .inl ni)), (qo, .inl (cI, 16, .inl nu))]) [0, 1, 2, 3, 4, 5] (by decide) rfl
          exact W.zret (v := 0) (ty := .boolean) hx hb hr rfl (fun t ht hW => ⟨⟨0, (), rfl, ⟨rfl, rfl⟩, by rw [ht]; exact hP9, va_K.moved hW.alike hK, hD9⟩, hS.F ht⟩) hS.2.2 d_Rf_placesWrong_117
        have hf := ift hf hc144
        refine lv_aload_n hx hb d_Rf_placesWrong_103 rfl (lv_at hl 2 rfl) ?_
        refine va_get (D := (dC, dI)) (ci := 3) (v := .ref qi) (C := R_Rf) (T := F_Rf) (N := 16) hx hb hts inRf hown hK hP 0 rfl rfl 12 (by decide) kf27 (fun _ h9 => h9) rfl d_Rf_placesWrong_104 ?_
        refine lv_iconst (v := 3) hx hb d_Rf_placesWrong_107 (by decide) ?_
        obtain ⟨hin_, hf⟩ := ix_some hf
        refine va_iald hx hb hK hP 4 0 rfl rfl hin_ d_Rf_placesWrong_108 ?_
        refine lv_if_eq (tgt := 116) hx hb d_Rf_placesWrong_109 rfl (fun hc146 => ?_) (fun hc146 => ?_)
        · have hf := ift hf hc146
          refine lv_iconst (v := 0) hx hb d_Rf_placesWrong_116 (by decide) ?_
          have e1_ := lf1 hf
          subst e1_
          have hP9 := hP.sub (ws' := [(hq, .inr (3, [.ref qm, .ref qf, .ref ql, .int nc, .int nd, .int nf, .int na, .int nz, .int no, .int ns, .int nv, .int np, .ref qi, .int nn, .ref qo, .int nt])), (qm, .inl (cI, 104, .inl nm)), (qf, .inl (cI, 104, .inl nb)), (ql, .inl (cI, 4, .inl nl)), (qi, .inl (cI, 24, .inl ni)), (qo, .inl (cI, 16, .inl nu))]) [0, 1, 2, 3, 4, 5] rfl
          have hD9 := hD.sub (ws' := [(hq, .inr (3, [.ref qm, .ref qf, .ref ql, .int nc, .int nd, .int nf, .int na, .int nz, .int no, .int ns, .int nv, .int np, .ref qi, .int nn, .ref qo, .int nt])), (qm, .inl (cI, 104, .inl nm)), (qf, .inl (cI, 104, .inl nb)), (ql, .inl (cI, 4, .inl nl)), (qi, .inl (cI, 24, .inl ni)), (qo, .inl (cI, 16, .inl nu))]) [0, 1, 2, 3, 4, 5] (by decide) rfl
          exact W.zret (v := 0) (ty := .boolean) hx hb hr rfl (fun t ht hW => ⟨⟨0, (), rfl, ⟨rfl, rfl⟩, by rw [ht]; exact hP9, va_K.moved hW.alike hK, hD9⟩, hS.F ht⟩) hS.2.2 d_Rf_placesWrong_117
        have hf := ifn hf hc146
        refine lv_iconst (v := 1) hx hb d_Rf_placesWrong_112 (by decide) ?_
        refine lv_goto (tgt := 117) hx hb d_Rf_placesWrong_113 rfl ?_
        have e1_ := lf1 hf
        subst e1_
        have hP9 := hP.sub (ws' := [(hq, .inr (3, [.ref qm, .ref qf, .ref ql, .int nc, .int nd, .int nf, .int na, .int nz, .int no, .int ns, .int nv, .int np, .ref qi, .int nn, .ref qo, .int nt])), (qm, .inl (cI, 104, .inl nm)), (qf, .inl (cI, 104, .inl nb)), (ql, .inl (cI, 4, .inl nl)), (qi, .inl (cI, 24, .inl ni)), (qo, .inl (cI, 16, .inl nu))]) [0, 1, 2, 3, 4, 5] rfl
        have hD9 := hD.sub (ws' := [(hq, .inr (3, [.ref qm, .ref qf, .ref ql, .int nc, .int nd, .int nf, .int na, .int nz, .int no, .int ns, .int nv, .int np, .ref qi, .int nn, .ref qo, .int nt])), (qm, .inl (cI, 104, .inl nm)), (qf, .inl (cI, 104, .inl nb)), (ql, .inl (cI, 4, .inl nl)), (qi, .inl (cI, 24, .inl ni)), (qo, .inl (cI, 16, .inl nu))]) [0, 1, 2, 3, 4, 5] (by decide) rfl
        exact W.zret (v := 1) (ty := .boolean) hx hb hr rfl (fun t ht hW => ⟨⟨1, (), rfl, ⟨rfl, rfl⟩, by rw [ht]; exact hP9, va_K.moved hW.alike hK, hD9⟩, hS.F ht⟩) hS.2.2 d_Rf_placesWrong_117
      have hf := ift hf hc141
      refine lv_iconst (v := 1) hx hb d_Rf_placesWrong_83 (by decide) ?_
      refine lv_goto (tgt := 88) hx hb d_Rf_placesWrong_84 rfl ?_
      refine lv_istore_n hx hb d_Rf_placesWrong_88 rfl hl (by decide) rfl (fun ls hl => ?_)
      have hl : lv_has ls 4 [(3, .int 1), (2, .int 7), (0, .ref hq), (1, .int a1)] := hl
      refine lv_aload_n hx hb d_Rf_placesWrong_89 rfl (lv_at hl 2 rfl) ?_
      refine va_get (D := (dC, dI)) (ci := 3) (v := .ref qi) (C := R_Rf) (T := F_Rf) (N := 16) hx hb hts inRf hown hK hP 0 rfl rfl 12 (by decide) kf27 (fun _ h9 => h9) rfl d_Rf_placesWrong_90 ?_
      refine lv_iconst (v := 2) hx hb d_Rf_placesWrong_93 (by decide) ?_
      obtain ⟨hin_, hf⟩ := ix_some hf
      refine va_iald hx hb hK hP 4 0 rfl rfl hin_ d_Rf_placesWrong_94 ?_
      refine lv_iload_n hx hb d_Rf_placesWrong_95 rfl (lv_at hl 1 rfl) ?_
      refine lv_icmp_gt (tgt := 112) hx hb d_Rf_placesWrong_96 rfl (fun hc148 => ?_) (fun hc148 => ?_)
      · have hf := ift hf hc148
        refine lv_iconst (v := 1) hx hb d_Rf_placesWrong_112 (by decide) ?_
        refine lv_goto (tgt := 117) hx hb d_Rf_placesWrong_113 rfl ?_
        have e1_ := lf1 hf
        subst e1_
        have hP9 := hP.sub (ws' := [(hq, .inr (3, [.ref qm, .ref qf, .ref ql, .int nc, .int nd, .int nf, .int na, .int nz, .int no, .int ns, .int nv, .int np, .ref qi, .int nn, .ref qo, .int nt])), (qm, .inl (cI, 104, .inl nm)), (qf, .inl (cI, 104, .inl nb)), (ql, .inl (cI, 4, .inl nl)), (qi, .inl (cI, 24, .inl ni)), (qo, .inl (cI, 16, .inl nu))]) [0, 1, 2, 3, 4, 5] rfl
        have hD9 := hD.sub (ws' := [(hq, .inr (3, [.ref qm, .ref qf, .ref ql, .int nc, .int nd, .int nf, .int na, .int nz, .int no, .int ns, .int nv, .int np, .ref qi, .int nn, .ref qo, .int nt])), (qm, .inl (cI, 104, .inl nm)), (qf, .inl (cI, 104, .inl nb)), (ql, .inl (cI, 4, .inl nl)), (qi, .inl (cI, 24, .inl ni)), (qo, .inl (cI, 16, .inl nu))]) [0, 1, 2, 3, 4, 5] (by decide) rfl
        exact W.zret (v := 1) (ty := .boolean) hx hb hr rfl (fun t ht hW => ⟨⟨1, (), rfl, ⟨rfl, rfl⟩, by rw [ht]; exact hP9, va_K.moved hW.alike hK, hD9⟩, hS.F ht⟩) hS.2.2 d_Rf_placesWrong_117
      have hf := ifn hf hc148
      refine lv_iload_n hx hb d_Rf_placesWrong_99 rfl (lv_at hl 0 rfl) ?_
      refine lv_if_ne (tgt := 116) hx hb d_Rf_placesWrong_100 rfl (fun hc149 => ?_) (fun hc149 => ?_)
      · have hf := ifn hf hc149
        refine lv_iconst (v := 0) hx hb d_Rf_placesWrong_116 (by decide) ?_
        have e1_ := lf1 hf
        subst e1_
        have hP9 := hP.sub (ws' := [(hq, .inr (3, [.ref qm, .ref qf, .ref ql, .int nc, .int nd, .int nf, .int na, .int nz, .int no, .int ns, .int nv, .int np, .ref qi, .int nn, .ref qo, .int nt])), (qm, .inl (cI, 104, .inl nm)), (qf, .inl (cI, 104, .inl nb)), (ql, .inl (cI, 4, .inl nl)), (qi, .inl (cI, 24, .inl ni)), (qo, .inl (cI, 16, .inl nu))]) [0, 1, 2, 3, 4, 5] rfl
        have hD9 := hD.sub (ws' := [(hq, .inr (3, [.ref qm, .ref qf, .ref ql, .int nc, .int nd, .int nf, .int na, .int nz, .int no, .int ns, .int nv, .int np, .ref qi, .int nn, .ref qo, .int nt])), (qm, .inl (cI, 104, .inl nm)), (qf, .inl (cI, 104, .inl nb)), (ql, .inl (cI, 4, .inl nl)), (qi, .inl (cI, 24, .inl ni)), (qo, .inl (cI, 16, .inl nu))]) [0, 1, 2, 3, 4, 5] (by decide) rfl
        exact W.zret (v := 0) (ty := .boolean) hx hb hr rfl (fun t ht hW => ⟨⟨0, (), rfl, ⟨rfl, rfl⟩, by rw [ht]; exact hP9, va_K.moved hW.alike hK, hD9⟩, hS.F ht⟩) hS.2.2 d_Rf_placesWrong_117
      have hf := ift hf hc149
      refine lv_aload_n hx hb d_Rf_placesWrong_103 rfl (lv_at hl 2 rfl) ?_
      refine va_get (D := (dC, dI)) (ci := 3) (v := .ref qi) (C := R_Rf) (T := F_Rf) (N := 16) hx hb hts inRf hown hK hP 0 rfl rfl 12 (by decide) kf27 (fun _ h9 => h9) rfl d_Rf_placesWrong_104 ?_
      refine lv_iconst (v := 3) hx hb d_Rf_placesWrong_107 (by decide) ?_
      obtain ⟨hin_, hf⟩ := ix_some hf
      refine va_iald hx hb hK hP 4 0 rfl rfl hin_ d_Rf_placesWrong_108 ?_
      refine lv_if_eq (tgt := 116) hx hb d_Rf_placesWrong_109 rfl (fun hc151 => ?_) (fun hc151 => ?_)
      · have hf := ift hf hc151
        refine lv_iconst (v := 0) hx hb d_Rf_placesWrong_116 (by decide) ?_
        have e1_ := lf1 hf
        subst e1_
        have hP9 := hP.sub (ws' := [(hq, .inr (3, [.ref qm, .ref qf, .ref ql, .int nc, .int nd, .int nf, .int na, .int nz, .int no, .int ns, .int nv, .int np, .ref qi, .int nn, .ref qo, .int nt])), (qm, .inl (cI, 104, .inl nm)), (qf, .inl (cI, 104, .inl nb)), (ql, .inl (cI, 4, .inl nl)), (qi, .inl (cI, 24, .inl ni)), (qo, .inl (cI, 16, .inl nu))]) [0, 1, 2, 3, 4, 5] rfl
        have hD9 := hD.sub (ws' := [(hq, .inr (3, [.ref qm, .ref qf, .ref ql, .int nc, .int nd, .int nf, .int na, .int nz, .int no, .int ns, .int nv, .int np, .ref qi, .int nn, .ref qo, .int nt])), (qm, .inl (cI, 104, .inl nm)), (qf, .inl (cI, 104, .inl nb)), (ql, .inl (cI, 4, .inl nl)), (qi, .inl (cI, 24, .inl ni)), (qo, .inl (cI, 16, .inl nu))]) [0, 1, 2, 3, 4, 5] (by decide) rfl
        exact W.zret (v := 0) (ty := .boolean) hx hb hr rfl (fun t ht hW => ⟨⟨0, (), rfl, ⟨rfl, rfl⟩, by rw [ht]; exact hP9, va_K.moved hW.alike hK, hD9⟩, hS.F ht⟩) hS.2.2 d_Rf_placesWrong_117
      have hf := ifn hf hc151
      refine lv_iconst (v := 1) hx hb d_Rf_placesWrong_112 (by decide) ?_
      refine lv_goto (tgt := 117) hx hb d_Rf_placesWrong_113 rfl ?_
      have e1_ := lf1 hf
      subst e1_
      have hP9 := hP.sub (ws' := [(hq, .inr (3, [.ref qm, .ref qf, .ref ql, .int nc, .int nd, .int nf, .int na, .int nz, .int no, .int ns, .int nv, .int np, .ref qi, .int nn, .ref qo, .int nt])), (qm, .inl (cI, 104, .inl nm)), (qf, .inl (cI, 104, .inl nb)), (ql, .inl (cI, 4, .inl nl)), (qi, .inl (cI, 24, .inl ni)), (qo, .inl (cI, 16, .inl nu))]) [0, 1, 2, 3, 4, 5] rfl
      have hD9 := hD.sub (ws' := [(hq, .inr (3, [.ref qm, .ref qf, .ref ql, .int nc, .int nd, .int nf, .int na, .int nz, .int no, .int ns, .int nv, .int np, .ref qi, .int nn, .ref qo, .int nt])), (qm, .inl (cI, 104, .inl nm)), (qf, .inl (cI, 104, .inl nb)), (ql, .inl (cI, 4, .inl nl)), (qi, .inl (cI, 24, .inl ni)), (qo, .inl (cI, 16, .inl nu))]) [0, 1, 2, 3, 4, 5] (by decide) rfl
      exact W.zret (v := 1) (ty := .boolean) hx hb hr rfl (fun t ht hW => ⟨⟨1, (), rfl, ⟨rfl, rfl⟩, by rw [ht]; exact hP9, va_K.moved hW.alike hK, hD9⟩, hS.F ht⟩) hS.2.2 d_Rf_placesWrong_117
    have hf := ift hf hc2
    refine lv_iconst (v := 1) hx hb d_Rf_placesWrong_16 (by decide) ?_
    refine lv_goto (tgt := 54) hx hb d_Rf_placesWrong_17 rfl ?_
    refine lv_istore_n hx hb d_Rf_placesWrong_54 rfl hl (by decide) rfl (fun ls hl => ?_)
    have hl : lv_has ls 4 [(2, .int 1), (0, .ref hq), (1, .int a1)] := hl
    refine lv_iload_n hx hb d_Rf_placesWrong_55 rfl (lv_at hl 2 rfl) ?_
    refine lv_sipush (v := 176) hx hb d_Rf_placesWrong_56 (by decide) ?_
    refine lv_icmp_eq (tgt := 83) hx hb d_Rf_placesWrong_59 rfl (fun hc152 => ?_) (fun hc152 => ?_)
    · have hf := ift hf hc152
      refine lv_iconst (v := 1) hx hb d_Rf_placesWrong_83 (by decide) ?_
      refine lv_goto (tgt := 88) hx hb d_Rf_placesWrong_84 rfl ?_
      refine lv_istore_n hx hb d_Rf_placesWrong_88 rfl hl (by decide) rfl (fun ls hl => ?_)
      have hl : lv_has ls 4 [(3, .int 1), (2, .int 1), (0, .ref hq), (1, .int a1)] := hl
      refine lv_aload_n hx hb d_Rf_placesWrong_89 rfl (lv_at hl 2 rfl) ?_
      refine va_get (D := (dC, dI)) (ci := 3) (v := .ref qi) (C := R_Rf) (T := F_Rf) (N := 16) hx hb hts inRf hown hK hP 0 rfl rfl 12 (by decide) kf27 (fun _ h9 => h9) rfl d_Rf_placesWrong_90 ?_
      refine lv_iconst (v := 2) hx hb d_Rf_placesWrong_93 (by decide) ?_
      obtain ⟨hin_, hf⟩ := ix_some hf
      refine va_iald hx hb hK hP 4 0 rfl rfl hin_ d_Rf_placesWrong_94 ?_
      refine lv_iload_n hx hb d_Rf_placesWrong_95 rfl (lv_at hl 1 rfl) ?_
      refine lv_icmp_gt (tgt := 112) hx hb d_Rf_placesWrong_96 rfl (fun hc154 => ?_) (fun hc154 => ?_)
      · have hf := ift hf hc154
        refine lv_iconst (v := 1) hx hb d_Rf_placesWrong_112 (by decide) ?_
        refine lv_goto (tgt := 117) hx hb d_Rf_placesWrong_113 rfl ?_
        have e1_ := lf1 hf
        subst e1_
        have hP9 := hP.sub (ws' := [(hq, .inr (3, [.ref qm, .ref qf, .ref ql, .int nc, .int nd, .int nf, .int na, .int nz, .int no, .int ns, .int nv, .int np, .ref qi, .int nn, .ref qo, .int nt])), (qm, .inl (cI, 104, .inl nm)), (qf, .inl (cI, 104, .inl nb)), (ql, .inl (cI, 4, .inl nl)), (qi, .inl (cI, 24, .inl ni)), (qo, .inl (cI, 16, .inl nu))]) [0, 1, 2, 3, 4, 5] rfl
        have hD9 := hD.sub (ws' := [(hq, .inr (3, [.ref qm, .ref qf, .ref ql, .int nc, .int nd, .int nf, .int na, .int nz, .int no, .int ns, .int nv, .int np, .ref qi, .int nn, .ref qo, .int nt])), (qm, .inl (cI, 104, .inl nm)), (qf, .inl (cI, 104, .inl nb)), (ql, .inl (cI, 4, .inl nl)), (qi, .inl (cI, 24, .inl ni)), (qo, .inl (cI, 16, .inl nu))]) [0, 1, 2, 3, 4, 5] (by decide) rfl
        exact W.zret (v := 1) (ty := .boolean) hx hb hr rfl (fun t ht hW => ⟨⟨1, (), rfl, ⟨rfl, rfl⟩, by rw [ht]; exact hP9, va_K.moved hW.alike hK, hD9⟩, hS.F ht⟩) hS.2.2 d_Rf_placesWrong_117
      have hf := ifn hf hc154
      refine lv_iload_n hx hb d_Rf_placesWrong_99 rfl (lv_at hl 0 rfl) ?_
      refine lv_if_ne (tgt := 116) hx hb d_Rf_placesWrong_100 rfl (fun hc155 => ?_) (fun hc155 => ?_)
      · have hf := ifn hf hc155
        refine lv_iconst (v := 0) hx hb d_Rf_placesWrong_116 (by decide) ?_
        have e1_ := lf1 hf
        subst e1_
        have hP9 := hP.sub (ws' := [(hq, .inr (3, [.ref qm, .ref qf, .ref ql, .int nc, .int nd, .int nf, .int na, .int nz, .int no, .int ns, .int nv, .int np, .ref qi, .int nn, .ref qo, .int nt])), (qm, .inl (cI, 104, .inl nm)), (qf, .inl (cI, 104, .inl nb)), (ql, .inl (cI, 4, .inl nl)), (qi, .inl (cI, 24, .inl ni)), (qo, .inl (cI, 16, .inl nu))]) [0, 1, 2, 3, 4, 5] rfl
        have hD9 := hD.sub (ws' := [(hq, .inr (3, [.ref qm, .ref qf, .ref ql, .int nc, .int nd, .int nf, .int na, .int nz, .int no, .int ns, .int nv, .int np, .ref qi, .int nn, .ref qo, .int nt])), (qm, .inl (cI, 104, .inl nm)), (qf, .inl (cI, 104, .inl nb)), (ql, .inl (cI, 4, .inl nl)), (qi, .inl (cI, 24, .inl ni)), (qo, .inl (cI, 16, .inl nu))]) [0, 1, 2, 3, 4, 5] (by decide) rfl
        exact W.zret (v := 0) (ty := .boolean) hx hb hr rfl (fun t ht hW => ⟨⟨0, (), rfl, ⟨rfl, rfl⟩, by rw [ht]; exact hP9, va_K.moved hW.alike hK, hD9⟩, hS.F ht⟩) hS.2.2 d_Rf_placesWrong_117
      have hf := ift hf hc155
      refine lv_aload_n hx hb d_Rf_placesWrong_103 rfl (lv_at hl 2 rfl) ?_
      refine va_get (D := (dC, dI)) (ci := 3) (v := .ref qi) (C := R_Rf) (T := F_Rf) (N := 16) hx hb hts inRf hown hK hP 0 rfl rfl 12 (by decide) kf27 (fun _ h9 => h9) rfl d_Rf_placesWrong_104 ?_
      refine lv_iconst (v := 3) hx hb d_Rf_placesWrong_107 (by decide) ?_
      obtain ⟨hin_, hf⟩ := ix_some hf
      refine va_iald hx hb hK hP 4 0 rfl rfl hin_ d_Rf_placesWrong_108 ?_
      refine lv_if_eq (tgt := 116) hx hb d_Rf_placesWrong_109 rfl (fun hc157 => ?_) (fun hc157 => ?_)
      · have hf := ift hf hc157
        refine lv_iconst (v := 0) hx hb d_Rf_placesWrong_116 (by decide) ?_
        have e1_ := lf1 hf
        subst e1_
        have hP9 := hP.sub (ws' := [(hq, .inr (3, [.ref qm, .ref qf, .ref ql, .int nc, .int nd, .int nf, .int na, .int nz, .int no, .int ns, .int nv, .int np, .ref qi, .int nn, .ref qo, .int nt])), (qm, .inl (cI, 104, .inl nm)), (qf, .inl (cI, 104, .inl nb)), (ql, .inl (cI, 4, .inl nl)), (qi, .inl (cI, 24, .inl ni)), (qo, .inl (cI, 16, .inl nu))]) [0, 1, 2, 3, 4, 5] rfl
        have hD9 := hD.sub (ws' := [(hq, .inr (3, [.ref qm, .ref qf, .ref ql, .int nc, .int nd, .int nf, .int na, .int nz, .int no, .int ns, .int nv, .int np, .ref qi, .int nn, .ref qo, .int nt])), (qm, .inl (cI, 104, .inl nm)), (qf, .inl (cI, 104, .inl nb)), (ql, .inl (cI, 4, .inl nl)), (qi, .inl (cI, 24, .inl ni)), (qo, .inl (cI, 16, .inl nu))]) [0, 1, 2, 3, 4, 5] (by decide) rfl
        exact W.zret (v := 0) (ty := .boolean) hx hb hr rfl (fun t ht hW => ⟨⟨0, (), rfl, ⟨rfl, rfl⟩, by rw [ht]; exact hP9, va_K.moved hW.alike hK, hD9⟩, hS.F ht⟩) hS.2.2 d_Rf_placesWrong_117
      have hf := ifn hf hc157
      refine lv_iconst (v := 1) hx hb d_Rf_placesWrong_112 (by decide) ?_
      refine lv_goto (tgt := 117) hx hb d_Rf_placesWrong_113 rfl ?_
      have e1_ := lf1 hf
      subst e1_
      have hP9 := hP.sub (ws' := [(hq, .inr (3, [.ref qm, .ref qf, .ref ql, .int nc, .int nd, .int nf, .int na, .int nz, .int no, .int ns, .int nv, .int np, .ref qi, .int nn, .ref qo, .int nt])), (qm, .inl (cI, 104, .inl nm)), (qf, .inl (cI, 104, .inl nb)), (ql, .inl (cI, 4, .inl nl)), (qi, .inl (cI, 24, .inl ni)), (qo, .inl (cI, 16, .inl nu))]) [0, 1, 2, 3, 4, 5] rfl
      have hD9 := hD.sub (ws' := [(hq, .inr (3, [.ref qm, .ref qf, .ref ql, .int nc, .int nd, .int nf, .int na, .int nz, .int no, .int ns, .int nv, .int np, .ref qi, .int nn, .ref qo, .int nt])), (qm, .inl (cI, 104, .inl nm)), (qf, .inl (cI, 104, .inl nb)), (ql, .inl (cI, 4, .inl nl)), (qi, .inl (cI, 24, .inl ni)), (qo, .inl (cI, 16, .inl nu))]) [0, 1, 2, 3, 4, 5] (by decide) rfl
      exact W.zret (v := 1) (ty := .boolean) hx hb hr rfl (fun t ht hW => ⟨⟨1, (), rfl, ⟨rfl, rfl⟩, by rw [ht]; exact hP9, va_K.moved hW.alike hK, hD9⟩, hS.F ht⟩) hS.2.2 d_Rf_placesWrong_117
    have hf := ifn hf hc152
    refine lv_iload_n hx hb d_Rf_placesWrong_62 rfl (lv_at hl 2 rfl) ?_
    refine lv_sipush (v := 214) hx hb d_Rf_placesWrong_63 (by decide) ?_
    refine lv_icmp_eq (tgt := 83) hx hb d_Rf_placesWrong_66 rfl (fun hc158 => ?_) (fun hc158 => ?_)
    · have hf := ift hf hc158
      refine lv_iconst (v := 1) hx hb d_Rf_placesWrong_83 (by decide) ?_
      refine lv_goto (tgt := 88) hx hb d_Rf_placesWrong_84 rfl ?_
      refine lv_istore_n hx hb d_Rf_placesWrong_88 rfl hl (by decide) rfl (fun ls hl => ?_)
      have hl : lv_has ls 4 [(3, .int 1), (2, .int 1), (0, .ref hq), (1, .int a1)] := hl
      refine lv_aload_n hx hb d_Rf_placesWrong_89 rfl (lv_at hl 2 rfl) ?_
      refine va_get (D := (dC, dI)) (ci := 3) (v := .ref qi) (C := R_Rf) (T := F_Rf) (N := 16) hx hb hts inRf hown hK hP 0 rfl rfl 12 (by decide) kf27 (fun _ h9 => h9) rfl d_Rf_placesWrong_90 ?_
      refine lv_iconst (v := 2) hx hb d_Rf_placesWrong_93 (by decide) ?_
      obtain ⟨hin_, hf⟩ := ix_some hf
      refine va_iald hx hb hK hP 4 0 rfl rfl hin_ d_Rf_placesWrong_94 ?_
      refine lv_iload_n hx hb d_Rf_placesWrong_95 rfl (lv_at hl 1 rfl) ?_
      refine lv_icmp_gt (tgt := 112) hx hb d_Rf_placesWrong_96 rfl (fun hc160 => ?_) (fun hc160 => ?_)
      · have hf := ift hf hc160
        refine lv_iconst (v := 1) hx hb d_Rf_placesWrong_112 (by decide) ?_
        refine lv_goto (tgt := 117) hx hb d_Rf_placesWrong_113 rfl ?_
        have e1_ := lf1 hf
        subst e1_
        have hP9 := hP.sub (ws' := [(hq, .inr (3, [.ref qm, .ref qf, .ref ql, .int nc, .int nd, .int nf, .int na, .int nz, .int no, .int ns, .int nv, .int np, .ref qi, .int nn, .ref qo, .int nt])), (qm, .inl (cI, 104, .inl nm)), (qf, .inl (cI, 104, .inl nb)), (ql, .inl (cI, 4, .inl nl)), (qi, .inl (cI, 24, .inl ni)), (qo, .inl (cI, 16, .inl nu))]) [0, 1, 2, 3, 4, 5] rfl
        have hD9 := hD.sub (ws' := [(hq, .inr (3, [.ref qm, .ref qf, .ref ql, .int nc, .int nd, .int nf, .int na, .int nz, .int no, .int ns, .int nv, .int np, .ref qi, .int nn, .ref qo, .int nt])), (qm, .inl (cI, 104, .inl nm)), (qf, .inl (cI, 104, .inl nb)), (ql, .inl (cI, 4, .inl nl)), (qi, .inl (cI, 24, .inl ni)), (qo, .inl (cI, 16, .inl nu))]) [0, 1, 2, 3, 4, 5] (by decide) rfl
        exact W.zret (v := 1) (ty := .boolean) hx hb hr rfl (fun t ht hW => ⟨⟨1, (), rfl, ⟨rfl, rfl⟩, by rw [ht]; exact hP9, va_K.moved hW.alike hK, hD9⟩, hS.F ht⟩) hS.2.2 d_Rf_placesWrong_117
      have hf := ifn hf hc160
      refine lv_iload_n hx hb d_Rf_placesWrong_99 rfl (lv_at hl 0 rfl) ?_
      refine lv_if_ne (tgt := 116) hx hb d_Rf_placesWrong_100 rfl (fun hc161 => ?_) (fun hc161 => ?_)
      · have hf := ifn hf hc161
        refine lv_iconst (v := 0) hx hb d_Rf_placesWrong_116 (by decide) ?_
        have e1_ := lf1 hf
        subst e1_
        have hP9 := hP.sub (ws' := [(hq, .inr (3, [.ref qm, .ref qf, .ref ql, .int nc, .int nd, .int nf, .int na, .int nz, .int no, .int ns, .int nv, .int np, .ref qi, .int nn, .ref qo, .int nt])), (qm, .inl (cI, 104, .inl nm)), (qf, .inl (cI, 104, .inl nb)), (ql, .inl (cI, 4, .inl nl)), (qi, .inl (cI, 24, .inl ni)), (qo, .inl (cI, 16, .inl nu))]) [0, 1, 2, 3, 4, 5] rfl
        have hD9 := hD.sub (ws' := [(hq, .inr (3, [.ref qm, .ref qf, .ref ql, .int nc, .int nd, .int nf, .int na, .int nz, .int no, .int ns, .int nv, .int np, .ref qi, .int nn, .ref qo, .int nt])), (qm, .inl (cI, 104, .inl nm)), (qf, .inl (cI, 104, .inl nb)), (ql, .inl (cI, 4, .inl nl)), (qi, .inl (cI, 24, .inl ni)), (qo, .inl (cI, 16, .inl nu))]) [0, 1, 2, 3, 4, 5] (by decide) rfl
        exact W.zret (v := 0) (ty := .boolean) hx hb hr rfl (fun t ht hW => ⟨⟨0, (), rfl, ⟨rfl, rfl⟩, by rw [ht]; exact hP9, va_K.moved hW.alike hK, hD9⟩, hS.F ht⟩) hS.2.2 d_Rf_placesWrong_117
      have hf := ift hf hc161
      refine lv_aload_n hx hb d_Rf_placesWrong_103 rfl (lv_at hl 2 rfl) ?_
      refine va_get (D := (dC, dI)) (ci := 3) (v := .ref qi) (C := R_Rf) (T := F_Rf) (N := 16) hx hb hts inRf hown hK hP 0 rfl rfl 12 (by decide) kf27 (fun _ h9 => h9) rfl d_Rf_placesWrong_104 ?_
      refine lv_iconst (v := 3) hx hb d_Rf_placesWrong_107 (by decide) ?_
      obtain ⟨hin_, hf⟩ := ix_some hf
      refine va_iald hx hb hK hP 4 0 rfl rfl hin_ d_Rf_placesWrong_108 ?_
      refine lv_if_eq (tgt := 116) hx hb d_Rf_placesWrong_109 rfl (fun hc163 => ?_) (fun hc163 => ?_)
      · have hf := ift hf hc163
        refine lv_iconst (v := 0) hx hb d_Rf_placesWrong_116 (by decide) ?_
        have e1_ := lf1 hf
        subst e1_
        have hP9 := hP.sub (ws' := [(hq, .inr (3, [.ref qm, .ref qf, .ref ql, .int nc, .int nd, .int nf, .int na, .int nz, .int no, .int ns, .int nv, .int np, .ref qi, .int nn, .ref qo, .int nt])), (qm, .inl (cI, 104, .inl nm)), (qf, .inl (cI, 104, .inl nb)), (ql, .inl (cI, 4, .inl nl)), (qi, .inl (cI, 24, .inl ni)), (qo, .inl (cI, 16, .inl nu))]) [0, 1, 2, 3, 4, 5] rfl
        have hD9 := hD.sub (ws' := [(hq, .inr (3, [.ref qm, .ref qf, .ref ql, .int nc, .int nd, .int nf, .int na, .int nz, .int no, .int ns, .int nv, .int np, .ref qi, .int nn, .ref qo, .int nt])), (qm, .inl (cI, 104, .inl nm)), (qf, .inl (cI, 104, .inl nb)), (ql, .inl (cI, 4, .inl nl)), (qi, .inl (cI, 24, .inl ni)), (qo, .inl (cI, 16, .inl nu))]) [0, 1, 2, 3, 4, 5] (by decide) rfl
        exact W.zret (v := 0) (ty := .boolean) hx hb hr rfl (fun t ht hW => ⟨⟨0, (), rfl, ⟨rfl, rfl⟩, by rw [ht]; exact hP9, va_K.moved hW.alike hK, hD9⟩, hS.F ht⟩) hS.2.2 d_Rf_placesWrong_117
      have hf := ifn hf hc163
      refine lv_iconst (v := 1) hx hb d_Rf_placesWrong_112 (by decide) ?_
      refine lv_goto (tgt := 117) hx hb d_Rf_placesWrong_113 rfl ?_
      have e1_ := lf1 hf
      subst e1_
      have hP9 := hP.sub (ws' := [(hq, .inr (3, [.ref qm, .ref qf, .ref ql, .int nc, .int nd, .int nf, .int na, .int nz, .int no, .int ns, .int nv, .int np, .ref qi, .int nn, .ref qo, .int nt])), (qm, .inl (cI, 104, .inl nm)), (qf, .inl (cI, 104, .inl nb)), (ql, .inl (cI, 4, .inl nl)), (qi, .inl (cI, 24, .inl ni)), (qo, .inl (cI, 16, .inl nu))]) [0, 1, 2, 3, 4, 5] rfl
      have hD9 := hD.sub (ws' := [(hq, .inr (3, [.ref qm, .ref qf, .ref ql, .int nc, .int nd, .int nf, .int na, .int nz, .int no, .int ns, .int nv, .int np, .ref qi, .int nn, .ref qo, .int nt])), (qm, .inl (cI, 104, .inl nm)), (qf, .inl (cI, 104, .inl nb)), (ql, .inl (cI, 4, .inl nl)), (qi, .inl (cI, 24, .inl ni)), (qo, .inl (cI, 16, .inl nu))]) [0, 1, 2, 3, 4, 5] (by decide) rfl
      exact W.zret (v := 1) (ty := .boolean) hx hb hr rfl (fun t ht hW => ⟨⟨1, (), rfl, ⟨rfl, rfl⟩, by rw [ht]; exact hP9, va_K.moved hW.alike hK, hD9⟩, hS.F ht⟩) hS.2.2 d_Rf_placesWrong_117
    have hf := ifn hf hc158
    refine lv_iload_n hx hb d_Rf_placesWrong_69 rfl (lv_at hl 2 rfl) ?_
    refine lv_sipush (v := 178) hx hb d_Rf_placesWrong_70 (by decide) ?_
    refine lv_icmp_eq (tgt := 83) hx hb d_Rf_placesWrong_73 rfl (fun hc164 => ?_) (fun hc164 => ?_)
    · have hf := ift hf hc164
      refine lv_iconst (v := 1) hx hb d_Rf_placesWrong_83 (by decide) ?_
      refine lv_goto (tgt := 88) hx hb d_Rf_placesWrong_84 rfl ?_
      refine lv_istore_n hx hb d_Rf_placesWrong_88 rfl hl (by decide) rfl (fun ls hl => ?_)
      have hl : lv_has ls 4 [(3, .int 1), (2, .int 1), (0, .ref hq), (1, .int a1)] := hl
      refine lv_aload_n hx hb d_Rf_placesWrong_89 rfl (lv_at hl 2 rfl) ?_
      refine va_get (D := (dC, dI)) (ci := 3) (v := .ref qi) (C := R_Rf) (T := F_Rf) (N := 16) hx hb hts inRf hown hK hP 0 rfl rfl 12 (by decide) kf27 (fun _ h9 => h9) rfl d_Rf_placesWrong_90 ?_
      refine lv_iconst (v := 2) hx hb d_Rf_placesWrong_93 (by decide) ?_
      obtain ⟨hin_, hf⟩ := ix_some hf
      refine va_iald hx hb hK hP 4 0 rfl rfl hin_ d_Rf_placesWrong_94 ?_
      refine lv_iload_n hx hb d_Rf_placesWrong_95 rfl (lv_at hl 1 rfl) ?_
      refine lv_icmp_gt (tgt := 112) hx hb d_Rf_placesWrong_96 rfl (fun hc166 => ?_) (fun hc166 => ?_)
      · have hf := ift hf hc166
        refine lv_iconst (v := 1) hx hb d_Rf_placesWrong_112 (by decide) ?_
        refine lv_goto (tgt := 117) hx hb d_Rf_placesWrong_113 rfl ?_
        have e1_ := lf1 hf
        subst e1_
        have hP9 := hP.sub (ws' := [(hq, .inr (3, [.ref qm, .ref qf, .ref ql, .int nc, .int nd, .int nf, .int na, .int nz, .int no, .int ns, .int nv, .int np, .ref qi, .int nn, .ref qo, .int nt])), (qm, .inl (cI, 104, .inl nm)), (qf, .inl (cI, 104, .inl nb)), (ql, .inl (cI, 4, .inl nl)), (qi, .inl (cI, 24, .inl ni)), (qo, .inl (cI, 16, .inl nu))]) [0, 1, 2, 3, 4, 5] rfl
        have hD9 := hD.sub (ws' := [(hq, .inr (3, [.ref qm, .ref qf, .ref ql, .int nc, .int nd, .int nf, .int na, .int nz, .int no, .int ns, .int nv, .int np, .ref qi, .int nn, .ref qo, .int nt])), (qm, .inl (cI, 104, .inl nm)), (qf, .inl (cI, 104, .inl nb)), (ql, .inl (cI, 4, .inl nl)), (qi, .inl (cI, 24, .inl ni)), (qo, .inl (cI, 16, .inl nu))]) [0, 1, 2, 3, 4, 5] (by decide) rfl
        exact W.zret (v := 1) (ty := .boolean) hx hb hr rfl (fun t ht hW => ⟨⟨1, (), rfl, ⟨rfl, rfl⟩, by rw [ht]; exact hP9, va_K.moved hW.alike hK, hD9⟩, hS.F ht⟩) hS.2.2 d_Rf_placesWrong_117
      have hf := ifn hf hc166
      refine lv_iload_n hx hb d_Rf_placesWrong_99 rfl (lv_at hl 0 rfl) ?_
      refine lv_if_ne (tgt := 116) hx hb d_Rf_placesWrong_100 rfl (fun hc167 => ?_) (fun hc167 => ?_)
      · have hf := ifn hf hc167
        refine lv_iconst (v := 0) hx hb d_Rf_placesWrong_116 (by decide) ?_
        have e1_ := lf1 hf
        subst e1_
        have hP9 := hP.sub (ws' := [(hq, .inr (3, [.ref qm, .ref qf, .ref ql, .int nc, .int nd, .int nf, .int na, .int nz, .int no, .int ns, .int nv, .int np, .ref qi, .int nn, .ref qo, .int nt])), (qm, .inl (cI, 104, .inl nm)), (qf, .inl (cI, 104, .inl nb)), (ql, .inl (cI, 4, .inl nl)), (qi, .inl (cI, 24, .inl ni)), (qo, .inl (cI, 16, .inl nu))]) [0, 1, 2, 3, 4, 5] rfl
        have hD9 := hD.sub (ws' := [(hq, .inr (3, [.ref qm, .ref qf, .ref ql, .int nc, .int nd, .int nf, .int na, .int nz, .int no, .int ns, .int nv, .int np, .ref qi, .int nn, .ref qo, .int nt])), (qm, .inl (cI, 104, .inl nm)), (qf, .inl (cI, 104, .inl nb)), (ql, .inl (cI, 4, .inl nl)), (qi, .inl (cI, 24, .inl ni)), (qo, .inl (cI, 16, .inl nu))]) [0, 1, 2, 3, 4, 5] (by decide) rfl
        exact W.zret (v := 0) (ty := .boolean) hx hb hr rfl (fun t ht hW => ⟨⟨0, (), rfl, ⟨rfl, rfl⟩, by rw [ht]; exact hP9, va_K.moved hW.alike hK, hD9⟩, hS.F ht⟩) hS.2.2 d_Rf_placesWrong_117
      have hf := ift hf hc167
      refine lv_aload_n hx hb d_Rf_placesWrong_103 rfl (lv_at hl 2 rfl) ?_
      refine va_get (D := (dC, dI)) (ci := 3) (v := .ref qi) (C := R_Rf) (T := F_Rf) (N := 16) hx hb hts inRf hown hK hP 0 rfl rfl 12 (by decide) kf27 (fun _ h9 => h9) rfl d_Rf_placesWrong_104 ?_
      refine lv_iconst (v := 3) hx hb d_Rf_placesWrong_107 (by decide) ?_
      obtain ⟨hin_, hf⟩ := ix_some hf
      refine va_iald hx hb hK hP 4 0 rfl rfl hin_ d_Rf_placesWrong_108 ?_
      refine lv_if_eq (tgt := 116) hx hb d_Rf_placesWrong_109 rfl (fun hc169 => ?_) (fun hc169 => ?_)
      · have hf := ift hf hc169
        refine lv_iconst (v := 0) hx hb d_Rf_placesWrong_116 (by decide) ?_
        have e1_ := lf1 hf
        subst e1_
        have hP9 := hP.sub (ws' := [(hq, .inr (3, [.ref qm, .ref qf, .ref ql, .int nc, .int nd, .int nf, .int na, .int nz, .int no, .int ns, .int nv, .int np, .ref qi, .int nn, .ref qo, .int nt])), (qm, .inl (cI, 104, .inl nm)), (qf, .inl (cI, 104, .inl nb)), (ql, .inl (cI, 4, .inl nl)), (qi, .inl (cI, 24, .inl ni)), (qo, .inl (cI, 16, .inl nu))]) [0, 1, 2, 3, 4, 5] rfl
        have hD9 := hD.sub (ws' := [(hq, .inr (3, [.ref qm, .ref qf, .ref ql, .int nc, .int nd, .int nf, .int na, .int nz, .int no, .int ns, .int nv, .int np, .ref qi, .int nn, .ref qo, .int nt])), (qm, .inl (cI, 104, .inl nm)), (qf, .inl (cI, 104, .inl nb)), (ql, .inl (cI, 4, .inl nl)), (qi, .inl (cI, 24, .inl ni)), (qo, .inl (cI, 16, .inl nu))]) [0, 1, 2, 3, 4, 5] (by decide) rfl
        exact W.zret (v := 0) (ty := .boolean) hx hb hr rfl (fun t ht hW => ⟨⟨0, (), rfl, ⟨rfl, rfl⟩, by rw [ht]; exact hP9, va_K.moved hW.alike hK, hD9⟩, hS.F ht⟩) hS.2.2 d_Rf_placesWrong_117
      have hf := ifn hf hc169
      refine lv_iconst (v := 1) hx hb d_Rf_placesWrong_112 (by decide) ?_
      refine lv_goto (tgt := 117) hx hb d_Rf_placesWrong_113 rfl ?_
      have e1_ := lf1 hf
      subst e1_
      have hP9 := hP.sub (ws' := [(hq, .inr (3, [.ref qm, .ref qf, .ref ql, .int nc, .int nd, .int nf, .int na, .int nz, .int no, .int ns, .int nv, .int np, .ref qi, .int nn, .ref qo, .int nt])), (qm, .inl (cI, 104, .inl nm)), (qf, .inl (cI, 104, .inl nb)), (ql, .inl (cI, 4, .inl nl)), (qi, .inl (cI, 24, .inl ni)), (qo, .inl (cI, 16, .inl nu))]) [0, 1, 2, 3, 4, 5] rfl
      have hD9 := hD.sub (ws' := [(hq, .inr (3, [.ref qm, .ref qf, .ref ql, .int nc, .int nd, .int nf, .int na, .int nz, .int no, .int ns, .int nv, .int np, .ref qi, .int nn, .ref qo, .int nt])), (qm, .inl (cI, 104, .inl nm)), (qf, .inl (cI, 104, .inl nb)), (ql, .inl (cI, 4, .inl nl)), (qi, .inl (cI, 24, .inl ni)), (qo, .inl (cI, 16, .inl nu))]) [0, 1, 2, 3, 4, 5] (by decide) rfl
      exact W.zret (v := 1) (ty := .boolean) hx hb hr rfl (fun t ht hW => ⟨⟨1, (), rfl, ⟨rfl, rfl⟩, by rw [ht]; exact hP9, va_K.moved hW.alike hK, hD9⟩, hS.F ht⟩) hS.2.2 d_Rf_placesWrong_117
    have hf := ifn hf hc164
    refine lv_iload_n hx hb d_Rf_placesWrong_76 rfl (lv_at hl 2 rfl) ?_
    refine lv_sipush (v := 220) hx hb d_Rf_placesWrong_77 (by decide) ?_
    refine lv_icmp_ne (tgt := 87) hx hb d_Rf_placesWrong_80 rfl (fun hc170 => ?_) (fun hc170 => ?_)
    · have hf := ifn hf hc170
      refine lv_iconst (v := 0) hx hb d_Rf_placesWrong_87 (by decide) ?_
      refine lv_istore_n hx hb d_Rf_placesWrong_88 rfl hl (by decide) rfl (fun ls hl => ?_)
      have hl : lv_has ls 4 [(3, .int 0), (2, .int 1), (0, .ref hq), (1, .int a1)] := hl
      refine lv_aload_n hx hb d_Rf_placesWrong_89 rfl (lv_at hl 2 rfl) ?_
      refine va_get (D := (dC, dI)) (ci := 3) (v := .ref qi) (C := R_Rf) (T := F_Rf) (N := 16) hx hb hts inRf hown hK hP 0 rfl rfl 12 (by decide) kf27 (fun _ h9 => h9) rfl d_Rf_placesWrong_90 ?_
      refine lv_iconst (v := 2) hx hb d_Rf_placesWrong_93 (by decide) ?_
      obtain ⟨hin_, hf⟩ := ix_some hf
      refine va_iald hx hb hK hP 4 0 rfl rfl hin_ d_Rf_placesWrong_94 ?_
      refine lv_iload_n hx hb d_Rf_placesWrong_95 rfl (lv_at hl 1 rfl) ?_
      refine lv_icmp_gt (tgt := 112) hx hb d_Rf_placesWrong_96 rfl (fun hc172 => ?_) (fun hc172 => ?_)
      · have hf := ift hf hc172
        refine lv_iconst (v := 1) hx hb d_Rf_placesWrong_112 (by decide) ?_
        refine lv_goto (tgt := 117) hx hb d_Rf_placesWrong_113 rfl ?_
        have e1_ := lf1 hf
        subst e1_
        have hP9 := hP.sub (ws' := [(hq, .inr (3, [.ref qm, .ref qf, .ref ql, .int nc, .int nd, .int nf, .int na, .int nz, .int no, .int ns, .int nv, .int np, .ref qi, .int nn, .ref qo, .int nt])), (qm, .inl (cI, 104, .inl nm)), (qf, .inl (cI, 104, .inl nb)), (ql, .inl (cI, 4, .inl nl)), (qi, .inl (cI, 24, .inl ni)), (qo, .inl (cI, 16, .inl nu))]) [0, 1, 2, 3, 4, 5] rfl
        have hD9 := hD.sub (ws' := [(hq, .inr (3, [.ref qm, .ref qf, .ref ql, .int nc, .int nd, .int nf, .int na, .int nz, .int no, .int ns, .int nv, .int np, .ref qi, .int nn, .ref qo, .int nt])), (qm, .inl (cI, 104, .inl nm)), (qf, .inl (cI, 104, .inl nb)), (ql, .inl (cI, 4, .inl nl)), (qi, .inl (cI, 24, .inl ni)), (qo, .inl (cI, 16, .inl nu))]) [0, 1, 2, 3, 4, 5] (by decide) rfl
        exact W.zret (v := 1) (ty := .boolean) hx hb hr rfl (fun t ht hW => ⟨⟨1, (), rfl, ⟨rfl, rfl⟩, by rw [ht]; exact hP9, va_K.moved hW.alike hK, hD9⟩, hS.F ht⟩) hS.2.2 d_Rf_placesWrong_117
      have hf := ifn hf hc172
      refine lv_iload_n hx hb d_Rf_placesWrong_99 rfl (lv_at hl 0 rfl) ?_
      refine lv_if_ne (tgt := 116) hx hb d_Rf_placesWrong_100 rfl (fun hc173 => ?_) (fun hc173 => ?_)
      · have hf := ifn hf hc173
        refine lv_iconst (v := 0) hx hb d_Rf_placesWrong_116 (by decide) ?_
        have e1_ := lf1 hf
        subst e1_
        have hP9 := hP.sub (ws' := [(hq, .inr (3, [.ref qm, .ref qf, .ref ql, .int nc, .int nd, .int nf, .int na, .int nz, .int no, .int ns, .int nv, .int np, .ref qi, .int nn, .ref qo, .int nt])), (qm, .inl (cI, 104, .inl nm)), (qf, .inl (cI, 104, .inl nb)), (ql, .inl (cI, 4, .inl nl)), (qi, .inl (cI, 24, .inl ni)), (qo, .inl (cI, 16, .inl nu))]) [0, 1, 2, 3, 4, 5] rfl
        have hD9 := hD.sub (ws' := [(hq, .inr (3, [.ref qm, .ref qf, .ref ql, .int nc, .int nd, .int nf, .int na, .int nz, .int no, .int ns, .int nv, .int np, .ref qi, .int nn, .ref qo, .int nt])), (qm, .inl (cI, 104, .inl nm)), (qf, .inl (cI, 104, .inl nb)), (ql, .inl (cI, 4, .inl nl)), (qi, .inl (cI, 24, .inl ni)), (qo, .inl (cI, 16, .inl nu))]) [0, 1, 2, 3, 4, 5] (by decide) rfl
        exact W.zret (v := 0) (ty := .boolean) hx hb hr rfl (fun t ht hW => ⟨⟨0, (), rfl, ⟨rfl, rfl⟩, by rw [ht]; exact hP9, va_K.moved hW.alike hK, hD9⟩, hS.F ht⟩) hS.2.2 d_Rf_placesWrong_117
      have hf := ift hf hc173
      refine lv_aload_n hx hb d_Rf_placesWrong_103 rfl (lv_at hl 2 rfl) ?_
      refine va_get (D := (dC, dI)) (ci := 3) (v := .ref qi) (C := R_Rf) (T := F_Rf) (N := 16) hx hb hts inRf hown hK hP 0 rfl rfl 12 (by decide) kf27 (fun _ h9 => h9) rfl d_Rf_placesWrong_104 ?_
      refine lv_iconst (v := 3) hx hb d_Rf_placesWrong_107 (by decide) ?_
      obtain ⟨hin_, hf⟩ := ix_some hf
      refine va_iald hx hb hK hP 4 0 rfl rfl hin_ d_Rf_placesWrong_108 ?_
      refine lv_if_eq (tgt := 116) hx hb d_Rf_placesWrong_109 rfl (fun hc175 => ?_) (fun hc175 => ?_)
      · have hf := ift hf hc175
        refine lv_iconst (v := 0) hx hb d_Rf_placesWrong_116 (by decide) ?_
        have e1_ := lf1 hf
        subst e1_
        have hP9 := hP.sub (ws' := [(hq, .inr (3, [.ref qm, .ref qf, .ref ql, .int nc, .int nd, .int nf, .int na, .int nz, .int no, .int ns, .int nv, .int np, .ref qi, .int nn, .ref qo, .int nt])), (qm, .inl (cI, 104, .inl nm)), (qf, .inl (cI, 104, .inl nb)), (ql, .inl (cI, 4, .inl nl)), (qi, .inl (cI, 24, .inl ni)), (qo, .inl (cI, 16, .inl nu))]) [0, 1, 2, 3, 4, 5] rfl
        have hD9 := hD.sub (ws' := [(hq, .inr (3, [.ref qm, .ref qf, .ref ql, .int nc, .int nd, .int nf, .int na, .int nz, .int no, .int ns, .int nv, .int np, .ref qi, .int nn, .ref qo, .int nt])), (qm, .inl (cI, 104, .inl nm)), (qf, .inl (cI, 104, .inl nb)), (ql, .inl (cI, 4, .inl nl)), (qi, .inl (cI, 24, .inl ni)), (qo, .inl (cI, 16, .inl nu))]) [0, 1, 2, 3, 4, 5] (by decide) rfl
        exact W.zret (v := 0) (ty := .boolean) hx hb hr rfl (fun t ht hW => ⟨⟨0, (), rfl, ⟨rfl, rfl⟩, by rw [ht]; exact hP9, va_K.moved hW.alike hK, hD9⟩, hS.F ht⟩) hS.2.2 d_Rf_placesWrong_117
      have hf := ifn hf hc175
      refine lv_iconst (v := 1) hx hb d_Rf_placesWrong_112 (by decide) ?_
      refine lv_goto (tgt := 117) hx hb d_Rf_placesWrong_113 rfl ?_
      have e1_ := lf1 hf
      subst e1_
      have hP9 := hP.sub (ws' := [(hq, .inr (3, [.ref qm, .ref qf, .ref ql, .int nc, .int nd, .int nf, .int na, .int nz, .int no, .int ns, .int nv, .int np, .ref qi, .int nn, .ref qo, .int nt])), (qm, .inl (cI, 104, .inl nm)), (qf, .inl (cI, 104, .inl nb)), (ql, .inl (cI, 4, .inl nl)), (qi, .inl (cI, 24, .inl ni)), (qo, .inl (cI, 16, .inl nu))]) [0, 1, 2, 3, 4, 5] rfl
      have hD9 := hD.sub (ws' := [(hq, .inr (3, [.ref qm, .ref qf, .ref ql, .int nc, .int nd, .int nf, .int na, .int nz, .int no, .int ns, .int nv, .int np, .ref qi, .int nn, .ref qo, .int nt])), (qm, .inl (cI, 104, .inl nm)), (qf, .inl (cI, 104, .inl nb)), (ql, .inl (cI, 4, .inl nl)), (qi, .inl (cI, 24, .inl ni)), (qo, .inl (cI, 16, .inl nu))]) [0, 1, 2, 3, 4, 5] (by decide) rfl
      exact W.zret (v := 1) (ty := .boolean) hx hb hr rfl (fun t ht hW => ⟨⟨1, (), rfl, ⟨rfl, rfl⟩, by rw [ht]; exact hP9, va_K.moved hW.alike hK, hD9⟩, hS.F ht⟩) hS.2.2 d_Rf_placesWrong_117
    have hf := ift hf hc170
    refine lv_iconst (v := 1) hx hb d_Rf_placesWrong_83 (by decide) ?_
    refine lv_goto (tgt := 88) hx hb d_Rf_placesWrong_84 rfl ?_
    refine lv_istore_n hx hb d_Rf_placesWrong_88 rfl hl (by decide) rfl (fun ls hl => ?_)
    have hl : lv_has ls 4 [(3, .int 1), (2, .int 1), (0, .ref hq), (1, .int a1)] := hl
    refine lv_aload_n hx hb d_Rf_placesWrong_89 rfl (lv_at hl 2 rfl) ?_
    refine va_get (D := (dC, dI)) (ci := 3) (v := .ref qi) (C := R_Rf) (T := F_Rf) (N := 16) hx hb hts inRf hown hK hP 0 rfl rfl 12 (by decide) kf27 (fun _ h9 => h9) rfl d_Rf_placesWrong_90 ?_
    refine lv_iconst (v := 2) hx hb d_Rf_placesWrong_93 (by decide) ?_
    obtain ⟨hin_, hf⟩ := ix_some hf
    refine va_iald hx hb hK hP 4 0 rfl rfl hin_ d_Rf_placesWrong_94 ?_
    refine lv_iload_n hx hb d_Rf_placesWrong_95 rfl (lv_at hl 1 rfl) ?_
    refine lv_icmp_gt (tgt := 112) hx hb d_Rf_placesWrong_96 rfl (fun hc177 => ?_) (fun hc177 => ?_)
    · have hf := ift hf hc177
      refine lv_iconst (v := 1) hx hb d_Rf_placesWrong_112 (by decide) ?_
      refine lv_goto (tgt := 117) hx hb d_Rf_placesWrong_113 rfl ?_
      have e1_ := lf1 hf
      subst e1_
      have hP9 := hP.sub (ws' := [(hq, .inr (3, [.ref qm, .ref qf, .ref ql, .int nc, .int nd, .int nf, .int na, .int nz, .int no, .int ns, .int nv, .int np, .ref qi, .int nn, .ref qo, .int nt])), (qm, .inl (cI, 104, .inl nm)), (qf, .inl (cI, 104, .inl nb)), (ql, .inl (cI, 4, .inl nl)), (qi, .inl (cI, 24, .inl ni)), (qo, .inl (cI, 16, .inl nu))]) [0, 1, 2, 3, 4, 5] rfl
      have hD9 := hD.sub (ws' := [(hq, .inr (3, [.ref qm, .ref qf, .ref ql, .int nc, .int nd, .int nf, .int na, .int nz, .int no, .int ns, .int nv, .int np, .ref qi, .int nn, .ref qo, .int nt])), (qm, .inl (cI, 104, .inl nm)), (qf, .inl (cI, 104, .inl nb)), (ql, .inl (cI, 4, .inl nl)), (qi, .inl (cI, 24, .inl ni)), (qo, .inl (cI, 16, .inl nu))]) [0, 1, 2, 3, 4, 5] (by decide) rfl
      exact W.zret (v := 1) (ty := .boolean) hx hb hr rfl (fun t ht hW => ⟨⟨1, (), rfl, ⟨rfl, rfl⟩, by rw [ht]; exact hP9, va_K.moved hW.alike hK, hD9⟩, hS.F ht⟩) hS.2.2 d_Rf_placesWrong_117
    have hf := ifn hf hc177
    refine lv_iload_n hx hb d_Rf_placesWrong_99 rfl (lv_at hl 0 rfl) ?_
    refine lv_if_ne (tgt := 116) hx hb d_Rf_placesWrong_100 rfl (fun hc178 => ?_) (fun hc178 => ?_)
    · have hf := ifn hf hc178
      refine lv_iconst (v := 0) hx hb d_Rf_placesWrong_116 (by decide) ?_
      have e1_ := lf1 hf
      subst e1_
      have hP9 := hP.sub (ws' := [(hq, .inr (3, [.ref qm, .ref qf, .ref ql, .int nc, .int nd, .int nf, .int na, .int nz, .int no, .int ns, .int nv, .int np, .ref qi, .int nn, .ref qo, .int nt])), (qm, .inl (cI, 104, .inl nm)), (qf, .inl (cI, 104, .inl nb)), (ql, .inl (cI, 4, .inl nl)), (qi, .inl (cI, 24, .inl ni)), (qo, .inl (cI, 16, .inl nu))]) [0, 1, 2, 3, 4, 5] rfl
      have hD9 := hD.sub (ws' := [(hq, .inr (3, [.ref qm, .ref qf, .ref ql, .int nc, .int nd, .int nf, .int na, .int nz, .int no, .int ns, .int nv, .int np, .ref qi, .int nn, .ref qo, .int nt])), (qm, .inl (cI, 104, .inl nm)), (qf, .inl (cI, 104, .inl nb)), (ql, .inl (cI, 4, .inl nl)), (qi, .inl (cI, 24, .inl ni)), (qo, .inl (cI, 16, .inl nu))]) [0, 1, 2, 3, 4, 5] (by decide) rfl
      exact W.zret (v := 0) (ty := .boolean) hx hb hr rfl (fun t ht hW => ⟨⟨0, (), rfl, ⟨rfl, rfl⟩, by rw [ht]; exact hP9, va_K.moved hW.alike hK, hD9⟩, hS.F ht⟩) hS.2.2 d_Rf_placesWrong_117
    have hf := ift hf hc178
    refine lv_aload_n hx hb d_Rf_placesWrong_103 rfl (lv_at hl 2 rfl) ?_
    refine va_get (D := (dC, dI)) (ci := 3) (v := .ref qi) (C := R_Rf) (T := F_Rf) (N := 16) hx hb hts inRf hown hK hP 0 rfl rfl 12 (by decide) kf27 (fun _ h9 => h9) rfl d_Rf_placesWrong_104 ?_
    refine lv_iconst (v := 3) hx hb d_Rf_placesWrong_107 (by decide) ?_
    obtain ⟨hin_, hf⟩ := ix_some hf
    refine va_iald hx hb hK hP 4 0 rfl rfl hin_ d_Rf_placesWrong_108 ?_
    refine lv_if_eq (tgt := 116) hx hb d_Rf_placesWrong_109 rfl (fun hc180 => ?_) (fun hc180 => ?_)
    · have hf := ift hf hc180
      refine lv_iconst (v := 0) hx hb d_Rf_placesWrong_116 (by decide) ?_
      have e1_ := lf1 hf
      subst e1_
      have hP9 := hP.sub (ws' := [(hq, .inr (3, [.ref qm, .ref qf, .ref ql, .int nc, .int nd, .int nf, .int na, .int nz, .int no, .int ns, .int nv, .int np, .ref qi, .int nn, .ref qo, .int nt])), (qm, .inl (cI, 104, .inl nm)), (qf, .inl (cI, 104, .inl nb)), (ql, .inl (cI, 4, .inl nl)), (qi, .inl (cI, 24, .inl ni)), (qo, .inl (cI, 16, .inl nu))]) [0, 1, 2, 3, 4, 5] rfl
      have hD9 := hD.sub (ws' := [(hq, .inr (3, [.ref qm, .ref qf, .ref ql, .int nc, .int nd, .int nf, .int na, .int nz, .int no, .int ns, .int nv, .int np, .ref qi, .int nn, .ref qo, .int nt])), (qm, .inl (cI, 104, .inl nm)), (qf, .inl (cI, 104, .inl nb)), (ql, .inl (cI, 4, .inl nl)), (qi, .inl (cI, 24, .inl ni)), (qo, .inl (cI, 16, .inl nu))]) [0, 1, 2, 3, 4, 5] (by decide) rfl
      exact W.zret (v := 0) (ty := .boolean) hx hb hr rfl (fun t ht hW => ⟨⟨0, (), rfl, ⟨rfl, rfl⟩, by rw [ht]; exact hP9, va_K.moved hW.alike hK, hD9⟩, hS.F ht⟩) hS.2.2 d_Rf_placesWrong_117
    have hf := ifn hf hc180
    refine lv_iconst (v := 1) hx hb d_Rf_placesWrong_112 (by decide) ?_
    refine lv_goto (tgt := 117) hx hb d_Rf_placesWrong_113 rfl ?_
    have e1_ := lf1 hf
    subst e1_
    have hP9 := hP.sub (ws' := [(hq, .inr (3, [.ref qm, .ref qf, .ref ql, .int nc, .int nd, .int nf, .int na, .int nz, .int no, .int ns, .int nv, .int np, .ref qi, .int nn, .ref qo, .int nt])), (qm, .inl (cI, 104, .inl nm)), (qf, .inl (cI, 104, .inl nb)), (ql, .inl (cI, 4, .inl nl)), (qi, .inl (cI, 24, .inl ni)), (qo, .inl (cI, 16, .inl nu))]) [0, 1, 2, 3, 4, 5] rfl
    have hD9 := hD.sub (ws' := [(hq, .inr (3, [.ref qm, .ref qf, .ref ql, .int nc, .int nd, .int nf, .int na, .int nz, .int no, .int ns, .int nv, .int np, .ref qi, .int nn, .ref qo, .int nt])), (qm, .inl (cI, 104, .inl nm)), (qf, .inl (cI, 104, .inl nb)), (ql, .inl (cI, 4, .inl nl)), (qi, .inl (cI, 24, .inl ni)), (qo, .inl (cI, 16, .inl nu))]) [0, 1, 2, 3, 4, 5] (by decide) rfl
    exact W.zret (v := 1) (ty := .boolean) hx hb hr rfl (fun t ht hW => ⟨⟨1, (), rfl, ⟨rfl, rfl⟩, by rw [ht]; exact hP9, va_K.moved hW.alike hK, hD9⟩, hS.F ht⟩) hS.2.2 d_Rf_placesWrong_117
  have hf := ift hf hc1
  refine lv_iconst (v := 3) hx hb d_Rf_placesWrong_6 (by decide) ?_
  refine lv_goto (tgt := 54) hx hb d_Rf_placesWrong_7 rfl ?_
  refine lv_istore_n hx hb d_Rf_placesWrong_54 rfl hl (by decide) rfl (fun ls hl => ?_)
  have hl : lv_has ls 4 [(2, .int 3), (0, .ref hq), (1, .int a1)] := hl
  refine lv_iload_n hx hb d_Rf_placesWrong_55 rfl (lv_at hl 2 rfl) ?_
  refine lv_sipush (v := 176) hx hb d_Rf_placesWrong_56 (by decide) ?_
  refine lv_icmp_eq (tgt := 83) hx hb d_Rf_placesWrong_59 rfl (fun hc181 => ?_) (fun hc181 => ?_)
  · have hf := ift hf hc181
    refine lv_iconst (v := 1) hx hb d_Rf_placesWrong_83 (by decide) ?_
    refine lv_goto (tgt := 88) hx hb d_Rf_placesWrong_84 rfl ?_
    refine lv_istore_n hx hb d_Rf_placesWrong_88 rfl hl (by decide) rfl (fun ls hl => ?_)
    have hl : lv_has ls 4 [(3, .int 1), (2, .int 3), (0, .ref hq), (1, .int a1)] := hl
    refine lv_aload_n hx hb d_Rf_placesWrong_89 rfl (lv_at hl 2 rfl) ?_
    refine va_get (D := (dC, dI)) (ci := 3) (v := .ref qi) (C := R_Rf) (T := F_Rf) (N := 16) hx hb hts inRf hown hK hP 0 rfl rfl 12 (by decide) kf27 (fun _ h9 => h9) rfl d_Rf_placesWrong_90 ?_
    refine lv_iconst (v := 2) hx hb d_Rf_placesWrong_93 (by decide) ?_
    obtain ⟨hin_, hf⟩ := ix_some hf
    refine va_iald hx hb hK hP 4 0 rfl rfl hin_ d_Rf_placesWrong_94 ?_
    refine lv_iload_n hx hb d_Rf_placesWrong_95 rfl (lv_at hl 1 rfl) ?_
    refine lv_icmp_gt (tgt := 112) hx hb d_Rf_placesWrong_96 rfl (fun hc183 => ?_) (fun hc183 => ?_)
    · have hf := ift hf hc183
      refine lv_iconst (v := 1) hx hb d_Rf_placesWrong_112 (by decide) ?_
      refine lv_goto (tgt := 117) hx hb d_Rf_placesWrong_113 rfl ?_
      have e1_ := lf1 hf
      subst e1_
      have hP9 := hP.sub (ws' := [(hq, .inr (3, [.ref qm, .ref qf, .ref ql, .int nc, .int nd, .int nf, .int na, .int nz, .int no, .int ns, .int nv, .int np, .ref qi, .int nn, .ref qo, .int nt])), (qm, .inl (cI, 104, .inl nm)), (qf, .inl (cI, 104, .inl nb)), (ql, .inl (cI, 4, .inl nl)), (qi, .inl (cI, 24, .inl ni)), (qo, .inl (cI, 16, .inl nu))]) [0, 1, 2, 3, 4, 5] rfl
      have hD9 := hD.sub (ws' := [(hq, .inr (3, [.ref qm, .ref qf, .ref ql, .int nc, .int nd, .int nf, .int na, .int nz, .int no, .int ns, .int nv, .int np, .ref qi, .int nn, .ref qo, .int nt])), (qm, .inl (cI, 104, .inl nm)), (qf, .inl (cI, 104, .inl nb)), (ql, .inl (cI, 4, .inl nl)), (qi, .inl (cI, 24, .inl ni)), (qo, .inl (cI, 16, .inl nu))]) [0, 1, 2, 3, 4, 5] (by decide) rfl
      exact W.zret (v := 1) (ty := .boolean) hx hb hr rfl (fun t ht hW => ⟨⟨1, (), rfl, ⟨rfl, rfl⟩, by rw [ht]; exact hP9, va_K.moved hW.alike hK, hD9⟩, hS.F ht⟩) hS.2.2 d_Rf_placesWrong_117
    have hf := ifn hf hc183
    refine lv_iload_n hx hb d_Rf_placesWrong_99 rfl (lv_at hl 0 rfl) ?_
    refine lv_if_ne (tgt := 116) hx hb d_Rf_placesWrong_100 rfl (fun hc184 => ?_) (fun hc184 => ?_)
    · have hf := ifn hf hc184
      refine lv_iconst (v := 0) hx hb d_Rf_placesWrong_116 (by decide) ?_
      have e1_ := lf1 hf
      subst e1_
      have hP9 := hP.sub (ws' := [(hq, .inr (3, [.ref qm, .ref qf, .ref ql, .int nc, .int nd, .int nf, .int na, .int nz, .int no, .int ns, .int nv, .int np, .ref qi, .int nn, .ref qo, .int nt])), (qm, .inl (cI, 104, .inl nm)), (qf, .inl (cI, 104, .inl nb)), (ql, .inl (cI, 4, .inl nl)), (qi, .inl (cI, 24, .inl ni)), (qo, .inl (cI, 16, .inl nu))]) [0, 1, 2, 3, 4, 5] rfl
      have hD9 := hD.sub (ws' := [(hq, .inr (3, [.ref qm, .ref qf, .ref ql, .int nc, .int nd, .int nf, .int na, .int nz, .int no, .int ns, .int nv, .int np, .ref qi, .int nn, .ref qo, .int nt])), (qm, .inl (cI, 104, .inl nm)), (qf, .inl (cI, 104, .inl nb)), (ql, .inl (cI, 4, .inl nl)), (qi, .inl (cI, 24, .inl ni)), (qo, .inl (cI, 16, .inl nu))]) [0, 1, 2, 3, 4, 5] (by decide) rfl
      exact W.zret (v := 0) (ty := .boolean) hx hb hr rfl (fun t ht hW => ⟨⟨0, (), rfl, ⟨rfl, rfl⟩, by rw [ht]; exact hP9, va_K.moved hW.alike hK, hD9⟩, hS.F ht⟩) hS.2.2 d_Rf_placesWrong_117
    have hf := ift hf hc184
    refine lv_aload_n hx hb d_Rf_placesWrong_103 rfl (lv_at hl 2 rfl) ?_
    refine va_get (D := (dC, dI)) (ci := 3) (v := .ref qi) (C := R_Rf) (T := F_Rf) (N := 16) hx hb hts inRf hown hK hP 0 rfl rfl 12 (by decide) kf27 (fun _ h9 => h9) rfl d_Rf_placesWrong_104 ?_
    refine lv_iconst (v := 3) hx hb d_Rf_placesWrong_107 (by decide) ?_
    obtain ⟨hin_, hf⟩ := ix_some hf
    refine va_iald hx hb hK hP 4 0 rfl rfl hin_ d_Rf_placesWrong_108 ?_
    refine lv_if_eq (tgt := 116) hx hb d_Rf_placesWrong_109 rfl (fun hc186 => ?_) (fun hc186 => ?_)
    · have hf := ift hf hc186
      refine lv_iconst (v := 0) hx hb d_Rf_placesWrong_116 (by decide) ?_
      have e1_ := lf1 hf
      subst e1_
      have hP9 := hP.sub (ws' := [(hq, .inr (3, [.ref qm, .ref qf, .ref ql, .int nc, .int nd, .int nf, .int na, .int nz, .int no, .int ns, .int nv, .int np, .ref qi, .int nn, .ref qo, .int nt])), (qm, .inl (cI, 104, .inl nm)), (qf, .inl (cI, 104, .inl nb)), (ql, .inl (cI, 4, .inl nl)), (qi, .inl (cI, 24, .inl ni)), (qo, .inl (cI, 16, .inl nu))]) [0, 1, 2, 3, 4, 5] rfl
      have hD9 := hD.sub (ws' := [(hq, .inr (3, [.ref qm, .ref qf, .ref ql, .int nc, .int nd, .int nf, .int na, .int nz, .int no, .int ns, .int nv, .int np, .ref qi, .int nn, .ref qo, .int nt])), (qm, .inl (cI, 104, .inl nm)), (qf, .inl (cI, 104, .inl nb)), (ql, .inl (cI, 4, .inl nl)), (qi, .inl (cI, 24, .inl ni)), (qo, .inl (cI, 16, .inl nu))]) [0, 1, 2, 3, 4, 5] (by decide) rfl
      exact W.zret (v := 0) (ty := .boolean) hx hb hr rfl (fun t ht hW => ⟨⟨0, (), rfl, ⟨rfl, rfl⟩, by rw [ht]; exact hP9, va_K.moved hW.alike hK, hD9⟩, hS.F ht⟩) hS.2.2 d_Rf_placesWrong_117
    have hf := ifn hf hc186
    refine lv_iconst (v := 1) hx hb d_Rf_placesWrong_112 (by decide) ?_
    refine lv_goto (tgt := 117) hx hb d_Rf_placesWrong_113 rfl ?_
    have e1_ := lf1 hf
    subst e1_
    have hP9 := hP.sub (ws' := [(hq, .inr (3, [.ref qm, .ref qf, .ref ql, .int nc, .int nd, .int nf, .int na, .int nz, .int no, .int ns, .int nv, .int np, .ref qi, .int nn, .ref qo, .int nt])), (qm, .inl (cI, 104, .inl nm)), (qf, .inl (cI, 104, .inl nb)), (ql, .inl (cI, 4, .inl nl)), (qi, .inl (cI, 24, .inl ni)), (qo, .inl (cI, 16, .inl nu))]) [0, 1, 2, 3, 4, 5] rfl
    have hD9 := hD.sub (ws' := [(hq, .inr (3, [.ref qm, .ref qf, .ref ql, .int nc, .int nd, .int nf, .int na, .int nz, .int no, .int ns, .int nv, .int np, .ref qi, .int nn, .ref qo, .int nt])), (qm, .inl (cI, 104, .inl nm)), (qf, .inl (cI, 104, .inl nb)), (ql, .inl (cI, 4, .inl nl)), (qi, .inl (cI, 24, .inl ni)), (qo, .inl (cI, 16, .inl nu))]) [0, 1, 2, 3, 4, 5] (by decide) rfl
    exact W.zret (v := 1) (ty := .boolean) hx hb hr rfl (fun t ht hW => ⟨⟨1, (), rfl, ⟨rfl, rfl⟩, by rw [ht]; exact hP9, va_K.moved hW.alike hK, hD9⟩, hS.F ht⟩) hS.2.2 d_Rf_placesWrong_117
  have hf := ifn hf hc181
  refine lv_iload_n hx hb d_Rf_placesWrong_62 rfl (lv_at hl 2 rfl) ?_
  refine lv_sipush (v := 214) hx hb d_Rf_placesWrong_63 (by decide) ?_
  refine lv_icmp_eq (tgt := 83) hx hb d_Rf_placesWrong_66 rfl (fun hc187 => ?_) (fun hc187 => ?_)
  · have hf := ift hf hc187
    refine lv_iconst (v := 1) hx hb d_Rf_placesWrong_83 (by decide) ?_
    refine lv_goto (tgt := 88) hx hb d_Rf_placesWrong_84 rfl ?_
    refine lv_istore_n hx hb d_Rf_placesWrong_88 rfl hl (by decide) rfl (fun ls hl => ?_)
    have hl : lv_has ls 4 [(3, .int 1), (2, .int 3), (0, .ref hq), (1, .int a1)] := hl
    refine lv_aload_n hx hb d_Rf_placesWrong_89 rfl (lv_at hl 2 rfl) ?_
    refine va_get (D := (dC, dI)) (ci := 3) (v := .ref qi) (C := R_Rf) (T := F_Rf) (N := 16) hx hb hts inRf hown hK hP 0 rfl rfl 12 (by decide) kf27 (fun _ h9 => h9) rfl d_Rf_placesWrong_90 ?_
    refine lv_iconst (v := 2) hx hb d_Rf_placesWrong_93 (by decide) ?_
    obtain ⟨hin_, hf⟩ := ix_some hf
    refine va_iald hx hb hK hP 4 0 rfl rfl hin_ d_Rf_placesWrong_94 ?_
    refine lv_iload_n hx hb d_Rf_placesWrong_95 rfl (lv_at hl 1 rfl) ?_
    refine lv_icmp_gt (tgt := 112) hx hb d_Rf_placesWrong_96 rfl (fun hc189 => ?_) (fun hc189 => ?_)
    · have hf := ift hf hc189
      refine lv_iconst (v := 1) hx hb d_Rf_placesWrong_112 (by decide) ?_
      refine lv_goto (tgt := 117) hx hb d_Rf_placesWrong_113 rfl ?_
      have e1_ := lf1 hf
      subst e1_
      have hP9 := hP.sub (ws' := [(hq, .inr (3, [.ref qm, .ref qf, .ref ql, .int nc, .int nd, .int nf, .int na, .int nz, .int no, .int ns, .int nv, .int np, .ref qi, .int nn, .ref qo, .int nt])), (qm, .inl (cI, 104, .inl nm)), (qf, .inl (cI, 104, .inl nb)), (ql, .inl (cI, 4, .inl nl)), (qi, .inl (cI, 24, .inl ni)), (qo, .inl (cI, 16, .inl nu))]) [0, 1, 2, 3, 4, 5] rfl
      have hD9 := hD.sub (ws' := [(hq, .inr (3, [.ref qm, .ref qf, .ref ql, .int nc, .int nd, .int nf, .int na, .int nz, .int no, .int ns, .int nv, .int np, .ref qi, .int nn, .ref qo, .int nt])), (qm, .inl (cI, 104, .inl nm)), (qf, .inl (cI, 104, .inl nb)), (ql, .inl (cI, 4, .inl nl)), (qi, .inl (cI, 24, .inl ni)), (qo, .inl (cI, 16, .inl nu))]) [0, 1, 2, 3, 4, 5] (by decide) rfl
      exact W.zret (v := 1) (ty := .boolean) hx hb hr rfl (fun t ht hW => ⟨⟨1, (), rfl, ⟨rfl, rfl⟩, by rw [ht]; exact hP9, va_K.moved hW.alike hK, hD9⟩, hS.F ht⟩) hS.2.2 d_Rf_placesWrong_117
    have hf := ifn hf hc189
    refine lv_iload_n hx hb d_Rf_placesWrong_99 rfl (lv_at hl 0 rfl) ?_
    refine lv_if_ne (tgt := 116) hx hb d_Rf_placesWrong_100 rfl (fun hc190 => ?_) (fun hc190 => ?_)
    · have hf := ifn hf hc190
      refine lv_iconst (v := 0) hx hb d_Rf_placesWrong_116 (by decide) ?_
      have e1_ := lf1 hf
      subst e1_
      have hP9 := hP.sub (ws' := [(hq, .inr (3, [.ref qm, .ref qf, .ref ql, .int nc, .int nd, .int nf, .int na, .int nz, .int no, .int ns, .int nv, .int np, .ref qi, .int nn, .ref qo, .int nt])), (qm, .inl (cI, 104, .inl nm)), (qf, .inl (cI, 104, .inl nb)), (ql, .inl (cI, 4, .inl nl)), (qi, .inl (cI, 24, .inl ni)), (qo, .inl (cI, 16, .inl nu))]) [0, 1, 2, 3, 4, 5] rfl
      have hD9 := hD.sub (ws' := [(hq, .inr (3, [.ref qm, .ref qf, .ref ql, .int nc, .int nd, .int nf, .int na, .int nz, .int no, .int ns, .int nv, .int np, .ref qi, .int nn, .ref qo, .int nt])), (qm, .inl (cI, 104, .inl nm)), (qf, .inl (cI, 104, .inl nb)), (ql, .inl (cI, 4, .inl nl)), (qi, .inl (cI, 24, .inl ni)), (qo, .inl (cI, 16, .inl nu))]) [0, 1, 2, 3, 4, 5] (by decide) rfl
      exact W.zret (v := 0) (ty := .boolean) hx hb hr rfl (fun t ht hW => ⟨⟨0, (), rfl, ⟨rfl, rfl⟩, by rw [ht]; exact hP9, va_K.moved hW.alike hK, hD9⟩, hS.F ht⟩) hS.2.2 d_Rf_placesWrong_117
    have hf := ift hf hc190
    refine lv_aload_n hx hb d_Rf_placesWrong_103 rfl (lv_at hl 2 rfl) ?_
    refine va_get (D := (dC, dI)) (ci := 3) (v := .ref qi) (C := R_Rf) (T := F_Rf) (N := 16) hx hb hts inRf hown hK hP 0 rfl rfl 12 (by decide) kf27 (fun _ h9 => h9) rfl d_Rf_placesWrong_104 ?_
    refine lv_iconst (v := 3) hx hb d_Rf_placesWrong_107 (by decide) ?_
    obtain ⟨hin_, hf⟩ := ix_some hf
    refine va_iald hx hb hK hP 4 0 rfl rfl hin_ d_Rf_placesWrong_108 ?_
    refine lv_if_eq (tgt := 116) hx hb d_Rf_placesWrong_109 rfl (fun hc192 => ?_) (fun hc192 => ?_)
    · have hf := ift hf hc192
      refine lv_iconst (v := 0) hx hb d_Rf_placesWrong_116 (by decide) ?_
      have e1_ := lf1 hf
      subst e1_
      have hP9 := hP.sub (ws' := [(hq, .inr (3, [.ref qm, .ref qf, .ref ql, .int nc, .int nd, .int nf, .int na, .int nz, .int no, .int ns, .int nv, .int np, .ref qi, .int nn, .ref qo, .int nt])), (qm, .inl (cI, 104, .inl nm)), (qf, .inl (cI, 104, .inl nb)), (ql, .inl (cI, 4, .inl nl)), (qi, .inl (cI, 24, .inl ni)), (qo, .inl (cI, 16, .inl nu))]) [0, 1, 2, 3, 4, 5] rfl
      have hD9 := hD.sub (ws' := [(hq, .inr (3, [.ref qm, .ref qf, .ref ql, .int nc, .int nd, .int nf, .int na, .int nz, .int no, .int ns, .int nv, .int np, .ref qi, .int nn, .ref qo, .int nt])), (qm, .inl (cI, 104, .inl nm)), (qf, .inl (cI, 104, .inl nb)), (ql, .inl (cI, 4, .inl nl)), (qi, .inl (cI, 24, .inl ni)), (qo, .inl (cI, 16, .inl nu))]) [0, 1, 2, 3, 4, 5] (by decide) rfl
      exact W.zret (v := 0) (ty := .boolean) hx hb hr rfl (fun t ht hW => ⟨⟨0, (), rfl, ⟨rfl, rfl⟩, by rw [ht]; exact hP9, va_K.moved hW.alike hK, hD9⟩, hS.F ht⟩) hS.2.2 d_Rf_placesWrong_117
    have hf := ifn hf hc192
    refine lv_iconst (v := 1) hx hb d_Rf_placesWrong_112 (by decide) ?_
    refine lv_goto (tgt := 117) hx hb d_Rf_placesWrong_113 rfl ?_
    have e1_ := lf1 hf
    subst e1_
    have hP9 := hP.sub (ws' := [(hq, .inr (3, [.ref qm, .ref qf, .ref ql, .int nc, .int nd, .int nf, .int na, .int nz, .int no, .int ns, .int nv, .int np, .ref qi, .int nn, .ref qo, .int nt])), (qm, .inl (cI, 104, .inl nm)), (qf, .inl (cI, 104, .inl nb)), (ql, .inl (cI, 4, .inl nl)), (qi, .inl (cI, 24, .inl ni)), (qo, .inl (cI, 16, .inl nu))]) [0, 1, 2, 3, 4, 5] rfl
    have hD9 := hD.sub (ws' := [(hq, .inr (3, [.ref qm, .ref qf, .ref ql, .int nc, .int nd, .int nf, .int na, .int nz, .int no, .int ns, .int nv, .int np, .ref qi, .int nn, .ref qo, .int nt])), (qm, .inl (cI, 104, .inl nm)), (qf, .inl (cI, 104, .inl nb)), (ql, .inl (cI, 4, .inl nl)), (qi, .inl (cI, 24, .inl ni)), (qo, .inl (cI, 16, .inl nu))]) [0, 1, 2, 3, 4, 5] (by decide) rfl
    exact W.zret (v := 1) (ty := .boolean) hx hb hr rfl (fun t ht hW => ⟨⟨1, (), rfl, ⟨rfl, rfl⟩, by rw [ht]; exact hP9, va_K.moved hW.alike hK, hD9⟩, hS.F ht⟩) hS.2.2 d_Rf_placesWrong_117
  have hf := ifn hf hc187
  refine lv_iload_n hx hb d_Rf_placesWrong_69 rfl (lv_at hl 2 rfl) ?_
  refine lv_sipush (v := 178) hx hb d_Rf_placesWrong_70 (by decide) ?_
  refine lv_icmp_eq (tgt := 83) hx hb d_Rf_placesWrong_73 rfl (fun hc193 => ?_) (fun hc193 => ?_)
  · have hf := ift hf hc193
    refine lv_iconst (v := 1) hx hb d_Rf_placesWrong_83 (by decide) ?_
    refine lv_goto (tgt := 88) hx hb d_Rf_placesWrong_84 rfl ?_
    refine lv_istore_n hx hb d_Rf_placesWrong_88 rfl hl (by decide) rfl (fun ls hl => ?_)
    have hl : lv_has ls 4 [(3, .int 1), (2, .int 3), (0, .ref hq), (1, .int a1)] := hl
    refine lv_aload_n hx hb d_Rf_placesWrong_89 rfl (lv_at hl 2 rfl) ?_
    refine va_get (D := (dC, dI)) (ci := 3) (v := .ref qi) (C := R_Rf) (T := F_Rf) (N := 16) hx hb hts inRf hown hK hP 0 rfl rfl 12 (by decide) kf27 (fun _ h9 => h9) rfl d_Rf_placesWrong_90 ?_
    refine lv_iconst (v := 2) hx hb d_Rf_placesWrong_93 (by decide) ?_
    obtain ⟨hin_, hf⟩ := ix_some hf
    refine va_iald hx hb hK hP 4 0 rfl rfl hin_ d_Rf_placesWrong_94 ?_
    refine lv_iload_n hx hb d_Rf_placesWrong_95 rfl (lv_at hl 1 rfl) ?_
    refine lv_icmp_gt (tgt := 112) hx hb d_Rf_placesWrong_96 rfl (fun hc195 => ?_) (fun hc195 => ?_)
    · have hf := ift hf hc195
      refine lv_iconst (v := 1) hx hb d_Rf_placesWrong_112 (by decide) ?_
      refine lv_goto (tgt := 117) hx hb d_Rf_placesWrong_113 rfl ?_
      have e1_ := lf1 hf
      subst e1_
      have hP9 := hP.sub (ws' := [(hq, .inr (3, [.ref qm, .ref qf, .ref ql, .int nc, .int nd, .int nf, .int na, .int nz, .int no, .int ns, .int nv, .int np, .ref qi, .int nn, .ref qo, .int nt])), (qm, .inl (cI, 104, .inl nm)), (qf, .inl (cI, 104, .inl nb)), (ql, .inl (cI, 4, .inl nl)), (qi, .inl (cI, 24, .inl ni)), (qo, .inl (cI, 16, .inl nu))]) [0, 1, 2, 3, 4, 5] rfl
      have hD9 := hD.sub (ws' := [(hq, .inr (3, [.ref qm, .ref qf, .ref ql, .int nc, .int nd, .int nf, .int na, .int nz, .int no, .int ns, .int nv, .int np, .ref qi, .int nn, .ref qo, .int nt])), (qm, .inl (cI, 104, .inl nm)), (qf, .inl (cI, 104, .inl nb)), (ql, .inl (cI, 4, .inl nl)), (qi, .inl (cI, 24, .inl ni)), (qo, .inl (cI, 16, .inl nu))]) [0, 1, 2, 3, 4, 5] (by decide) rfl
      exact W.zret (v := 1) (ty := .boolean) hx hb hr rfl (fun t ht hW => ⟨⟨1, (), rfl, ⟨rfl, rfl⟩, by rw [ht]; exact hP9, va_K.moved hW.alike hK, hD9⟩, hS.F ht⟩) hS.2.2 d_Rf_placesWrong_117
    have hf := ifn hf hc195
    refine lv_iload_n hx hb d_Rf_placesWrong_99 rfl (lv_at hl 0 rfl) ?_
    refine lv_if_ne (tgt := 116) hx hb d_Rf_placesWrong_100 rfl (fun hc196 => ?_) (fun hc196 => ?_)
    · have hf := ifn hf hc196
      refine lv_iconst (v := 0) hx hb d_Rf_placesWrong_116 (by decide) ?_
      have e1_ := lf1 hf
      subst e1_
      have hP9 := hP.sub (ws' := [(hq, .inr (3, [.ref qm, .ref qf, .ref ql, .int nc, .int nd, .int nf, .int na, .int nz, .int no, .int ns, .int nv, .int np, .ref qi, .int nn, .ref qo, .int nt])), (qm, .inl (cI, 104, .inl nm)), (qf, .inl (cI, 104, .inl nb)), (ql, .inl (cI, 4, .inl nl)), (qi, .inl (cI, 24, .inl ni)), (qo, .inl (cI, 16, .inl nu))]) [0, 1, 2, 3, 4, 5] rfl
      have hD9 := hD.sub (ws' := [(hq, .inr (3, [.ref qm, .ref qf, .ref ql, .int nc, .int nd, .int nf, .int na, .int nz, .int no, .int ns, .int nv, .int np, .ref qi, .int nn, .ref qo, .int nt])), (qm, .inl (cI, 104, .inl nm)), (qf, .inl (cI, 104, .inl nb)), (ql, .inl (cI, 4, .inl nl)), (qi, .inl (cI, 24, .inl ni)), (qo, .inl (cI, 16, .inl nu))]) [0, 1, 2, 3, 4, 5] (by decide) rfl
      exact W.zret (v := 0) (ty := .boolean) hx hb hr rfl (fun t ht hW => ⟨⟨0, (), rfl, ⟨rfl, rfl⟩, by rw [ht]; exact hP9, va_K.moved hW.alike hK, hD9⟩, hS.F ht⟩) hS.2.2 d_Rf_placesWrong_117
    have hf := ift hf hc196
    refine lv_aload_n hx hb d_Rf_placesWrong_103 rfl (lv_at hl 2 rfl) ?_
    refine va_get (D := (dC, dI)) (ci := 3) (v := .ref qi) (C := R_Rf) (T := F_Rf) (N := 16) hx hb hts inRf hown hK hP 0 rfl rfl 12 (by decide) kf27 (fun _ h9 => h9) rfl d_Rf_placesWrong_104 ?_
    refine lv_iconst (v := 3) hx hb d_Rf_placesWrong_107 (by decide) ?_
    obtain ⟨hin_, hf⟩ := ix_some hf
    refine va_iald hx hb hK hP 4 0 rfl rfl hin_ d_Rf_placesWrong_108 ?_
    refine lv_if_eq (tgt := 116) hx hb d_Rf_placesWrong_109 rfl (fun hc198 => ?_) (fun hc198 => ?_)
    · have hf := ift hf hc198
      refine lv_iconst (v := 0) hx hb d_Rf_placesWrong_116 (by decide) ?_
      have e1_ := lf1 hf
      subst e1_
      have hP9 := hP.sub (ws' := [(hq, .inr (3, [.ref qm, .ref qf, .ref ql, .int nc, .int nd, .int nf, .int na, .int nz, .int no, .int ns, .int nv, .int np, .ref qi, .int nn, .ref qo, .int nt])), (qm, .inl (cI, 104, .inl nm)), (qf, .inl (cI, 104, .inl nb)), (ql, .inl (cI, 4, .inl nl)), (qi, .inl (cI, 24, .inl ni)), (qo, .inl (cI, 16, .inl nu))]) [0, 1, 2, 3, 4, 5] rfl
      have hD9 := hD.sub (ws' := [(hq, .inr (3, [.ref qm, .ref qf, .ref ql, .int nc, .int nd, .int nf, .int na, .int nz, .int no, .int ns, .int nv, .int np, .ref qi, .int nn, .ref qo, .int nt])), (qm, .inl (cI, 104, .inl nm)), (qf, .inl (cI, 104, .inl nb)), (ql, .inl (cI, 4, .inl nl)), (qi, .inl (cI, 24, .inl ni)), (qo, .inl (cI, 16, .inl nu))]) [0, 1, 2, 3, 4, 5] (by decide) rfl
      exact W.zret (v := 0) (ty := .boolean) hx hb hr rfl (fun t ht hW => ⟨⟨0, (), rfl, ⟨rfl, rfl⟩, by rw [ht]; exact hP9, va_K.moved hW.alike hK, hD9⟩, hS.F ht⟩) hS.2.2 d_Rf_placesWrong_117
    have hf := ifn hf hc198
    refine lv_iconst (v := 1) hx hb d_Rf_placesWrong_112 (by decide) ?_
    refine lv_goto (tgt := 117) hx hb d_Rf_placesWrong_113 rfl ?_
    have e1_ := lf1 hf
    subst e1_
    have hP9 := hP.sub (ws' := [(hq, .inr (3, [.ref qm, .ref qf, .ref ql, .int nc, .int nd, .int nf, .int na, .int nz, .int no, .int ns, .int nv, .int np, .ref qi, .int nn, .ref qo, .int nt])), (qm, .inl (cI, 104, .inl nm)), (qf, .inl (cI, 104, .inl nb)), (ql, .inl (cI, 4, .inl nl)), (qi, .inl (cI, 24, .inl ni)), (qo, .inl (cI, 16, .inl nu))]) [0, 1, 2, 3, 4, 5] rfl
    have hD9 := hD.sub (ws' := [(hq, .inr (3, [.ref qm, .ref qf, .ref ql, .int nc, .int nd, .int nf, .int na, .int nz, .int no, .int ns, .int nv, .int np, .ref qi, .int nn, .ref qo, .int nt])), (qm, .inl (cI, 104, .inl nm)), (qf, .inl (cI, 104, .inl nb)), (ql, .inl (cI, 4, .inl nl)), (qi, .inl (cI, 24, .inl ni)), (qo, .inl (cI, 16, .inl nu))]) [0, 1, 2, 3, 4, 5] (by decide) rfl
    exact W.zret (v := 1) (ty := .boolean) hx hb hr rfl (fun t ht hW => ⟨⟨1, (), rfl, ⟨rfl, rfl⟩, by rw [ht]; exact hP9, va_K.moved hW.alike hK, hD9⟩, hS.F ht⟩) hS.2.2 d_Rf_placesWrong_117
  have hf := ifn hf hc193
  refine lv_iload_n hx hb d_Rf_placesWrong_76 rfl (lv_at hl 2 rfl) ?_
  refine lv_sipush (v := 220) hx hb d_Rf_placesWrong_77 (by decide) ?_
  refine lv_icmp_ne (tgt := 87) hx hb d_Rf_placesWrong_80 rfl (fun hc199 => ?_) (fun hc199 => ?_)
  · have hf := ifn hf hc199
    refine lv_iconst (v := 0) hx hb d_Rf_placesWrong_87 (by decide) ?_
    refine lv_istore_n hx hb d_Rf_placesWrong_88 rfl hl (by decide) rfl (fun ls hl => ?_)
    have hl : lv_has ls 4 [(3, .int 0), (2, .int 3), (0, .ref hq), (1, .int a1)] := hl
    refine lv_aload_n hx hb d_Rf_placesWrong_89 rfl (lv_at hl 2 rfl) ?_
    refine va_get (D := (dC, dI)) (ci := 3) (v := .ref qi) (C := R_Rf) (T := F_Rf) (N := 16) hx hb hts inRf hown hK hP 0 rfl rfl 12 (by decide) kf27 (fun _ h9 => h9) rfl d_Rf_placesWrong_90 ?_
    refine lv_iconst (v := 2) hx hb d_Rf_placesWrong_93 (by decide) ?_
    obtain ⟨hin_, hf⟩ := ix_some hf
    refine va_iald hx hb hK hP 4 0 rfl rfl hin_ d_Rf_placesWrong_94 ?_
    refine lv_iload_n hx hb d_Rf_placesWrong_95 rfl (lv_at hl 1 rfl) ?_
    refine lv_icmp_gt (tgt := 112) hx hb d_Rf_placesWrong_96 rfl (fun hc201 => ?_) (fun hc201 => ?_)
    · have hf := ift hf hc201
      refine lv_iconst (v := 1) hx hb d_Rf_placesWrong_112 (by decide) ?_
      refine lv_goto (tgt := 117) hx hb d_Rf_placesWrong_113 rfl ?_
      have e1_ := lf1 hf
      subst e1_
      have hP9 := hP.sub (ws' := [(hq, .inr (3, [.ref qm, .ref qf, .ref ql, .int nc, .int nd, .int nf, .int na, .int nz, .int no, .int ns, .int nv, .int np, .ref qi, .int nn, .ref qo, .int nt])), (qm, .inl (cI, 104, .inl nm)), (qf, .inl (cI, 104, .inl nb)), (ql, .inl (cI, 4, .inl nl)), (qi, .inl (cI, 24, .inl ni)), (qo, .inl (cI, 16, .inl nu))]) [0, 1, 2, 3, 4, 5] rfl
      have hD9 := hD.sub (ws' := [(hq, .inr (3, [.ref qm, .ref qf, .ref ql, .int nc, .int nd, .int nf, .int na, .int nz, .int no, .int ns, .int nv, .int np, .ref qi, .int nn, .ref qo, .int nt])), (qm, .inl (cI, 104, .inl nm)), (qf, .inl (cI, 104, .inl nb)), (ql, .inl (cI, 4, .inl nl)), (qi, .inl (cI, 24, .inl ni)), (qo, .inl (cI, 16, .inl nu))]) [0, 1, 2, 3, 4, 5] (by decide) rfl
      exact W.zret (v := 1) (ty := .boolean) hx hb hr rfl (fun t ht hW => ⟨⟨1, (), rfl, ⟨rfl, rfl⟩, by rw [ht]; exact hP9, va_K.moved hW.alike hK, hD9⟩, hS.F ht⟩) hS.2.2 d_Rf_placesWrong_117
    have hf := ifn hf hc201
    refine lv_iload_n hx hb d_Rf_placesWrong_99 rfl (lv_at hl 0 rfl) ?_
    refine lv_if_ne (tgt := 116) hx hb d_Rf_placesWrong_100 rfl (fun hc202 => ?_) (fun hc202 => ?_)
    · have hf := ifn hf hc202
      refine lv_iconst (v := 0) hx hb d_Rf_placesWrong_116 (by decide) ?_
      have e1_ := lf1 hf
      subst e1_
      have hP9 := hP.sub (ws' := [(hq, .inr (3, [.ref qm, .ref qf, .ref ql, .int nc, .int nd, .int nf, .int na, .int nz, .int no, .int ns, .int nv, .int np, .ref qi, .int nn, .ref qo, .int nt])), (qm, .inl (cI, 104, .inl nm)), (qf, .inl (cI, 104, .inl nb)), (ql, .inl (cI, 4, .inl nl)), (qi, .inl (cI, 24, .inl ni)), (qo, .inl (cI, 16, .inl nu))]) [0, 1, 2, 3, 4, 5] rfl
      have hD9 := hD.sub (ws' := [(hq, .inr (3, [.ref qm, .ref qf, .ref ql, .int nc, .int nd, .int nf, .int na, .int nz, .int no, .int ns, .int nv, .int np, .ref qi, .int nn, .ref qo, .int nt])), (qm, .inl (cI, 104, .inl nm)), (qf, .inl (cI, 104, .inl nb)), (ql, .inl (cI, 4, .inl nl)), (qi, .inl (cI, 24, .inl ni)), (qo, .inl (cI, 16, .inl nu))]) [0, 1, 2, 3, 4, 5] (by decide) rfl
      exact W.zret (v := 0) (ty := .boolean) hx hb hr rfl (fun t ht hW => ⟨⟨0, (), rfl, ⟨rfl, rfl⟩, by rw [ht]; exact hP9, va_K.moved hW.alike hK, hD9⟩, hS.F ht⟩) hS.2.2 d_Rf_placesWrong_117
    have hf := ift hf hc202
    refine lv_aload_n hx hb d_Rf_placesWrong_103 rfl (lv_at hl 2 rfl) ?_
    refine va_get (D := (dC, dI)) (ci := 3) (v := .ref qi) (C := R_Rf) (T := F_Rf) (N := 16) hx hb hts inRf hown hK hP 0 rfl rfl 12 (by decide) kf27 (fun _ h9 => h9) rfl d_Rf_placesWrong_104 ?_
    refine lv_iconst (v := 3) hx hb d_Rf_placesWrong_107 (by decide) ?_
    obtain ⟨hin_, hf⟩ := ix_some hf
    refine va_iald hx hb hK hP 4 0 rfl rfl hin_ d_Rf_placesWrong_108 ?_
    refine lv_if_eq (tgt := 116) hx hb d_Rf_placesWrong_109 rfl (fun hc204 => ?_) (fun hc204 => ?_)
    · have hf := ift hf hc204
      refine lv_iconst (v := 0) hx hb d_Rf_placesWrong_116 (by decide) ?_
      have e1_ := lf1 hf
      subst e1_
      have hP9 := hP.sub (ws' := [(hq, .inr (3, [.ref qm, .ref qf, .ref ql, .int nc, .int nd, .int nf, .int na, .int nz, .int no, .int ns, .int nv, .int np, .ref qi, .int nn, .ref qo, .int nt])), (qm, .inl (cI, 104, .inl nm)), (qf, .inl (cI, 104, .inl nb)), (ql, .inl (cI, 4, .inl nl)), (qi, .inl (cI, 24, .inl ni)), (qo, .inl (cI, 16, .inl nu))]) [0, 1, 2, 3, 4, 5] rfl
      have hD9 := hD.sub (ws' := [(hq, .inr (3, [.ref qm, .ref qf, .ref ql, .int nc, .int nd, .int nf, .int na, .int nz, .int no, .int ns, .int nv, .int np, .ref qi, .int nn, .ref qo, .int nt])), (qm, .inl (cI, 104, .inl nm)), (qf, .inl (cI, 104, .inl nb)), (ql, .inl (cI, 4, .inl nl)), (qi, .inl (cI, 24, .inl ni)), (qo, .inl (cI, 16, .inl nu))]) [0, 1, 2, 3, 4, 5] (by decide) rfl
      exact W.zret (v := 0) (ty := .boolean) hx hb hr rfl (fun t ht hW => ⟨⟨0, (), rfl, ⟨rfl, rfl⟩, by rw [ht]; exact hP9, va_K.moved hW.alike hK, hD9⟩, hS.F ht⟩) hS.2.2 d_Rf_placesWrong_117
    have hf := ifn hf hc204
    refine lv_iconst (v := 1) hx hb d_Rf_placesWrong_112 (by decide) ?_
    refine lv_goto (tgt := 117) hx hb d_Rf_placesWrong_113 rfl ?_
    have e1_ := lf1 hf
    subst e1_
    have hP9 := hP.sub (ws' := [(hq, .inr (3, [.ref qm, .ref qf, .ref ql, .int nc, .int nd, .int nf, .int na, .int nz, .int no, .int ns, .int nv, .int np, .ref qi, .int nn, .ref qo, .int nt])), (qm, .inl (cI, 104, .inl nm)), (qf, .inl (cI, 104, .inl nb)), (ql, .inl (cI, 4, .inl nl)), (qi, .inl (cI, 24, .inl ni)), (qo, .inl (cI, 16, .inl nu))]) [0, 1, 2, 3, 4, 5] rfl
    have hD9 := hD.sub (ws' := [(hq, .inr (3, [.ref qm, .ref qf, .ref ql, .int nc, .int nd, .int nf, .int na, .int nz, .int no, .int ns, .int nv, .int np, .ref qi, .int nn, .ref qo, .int nt])), (qm, .inl (cI, 104, .inl nm)), (qf, .inl (cI, 104, .inl nb)), (ql, .inl (cI, 4, .inl nl)), (qi, .inl (cI, 24, .inl ni)), (qo, .inl (cI, 16, .inl nu))]) [0, 1, 2, 3, 4, 5] (by decide) rfl
    exact W.zret (v := 1) (ty := .boolean) hx hb hr rfl (fun t ht hW => ⟨⟨1, (), rfl, ⟨rfl, rfl⟩, by rw [ht]; exact hP9, va_K.moved hW.alike hK, hD9⟩, hS.F ht⟩) hS.2.2 d_Rf_placesWrong_117
  have hf := ift hf hc199
  refine lv_iconst (v := 1) hx hb d_Rf_placesWrong_83 (by decide) ?_
  refine lv_goto (tgt := 88) hx hb d_Rf_placesWrong_84 rfl ?_
  refine lv_istore_n hx hb d_Rf_placesWrong_88 rfl hl (by decide) rfl (fun ls hl => ?_)
  have hl : lv_has ls 4 [(3, .int 1), (2, .int 3), (0, .ref hq), (1, .int a1)] := hl
  refine lv_aload_n hx hb d_Rf_placesWrong_89 rfl (lv_at hl 2 rfl) ?_
  refine va_get (D := (dC, dI)) (ci := 3) (v := .ref qi) (C := R_Rf) (T := F_Rf) (N := 16) hx hb hts inRf hown hK hP 0 rfl rfl 12 (by decide) kf27 (fun _ h9 => h9) rfl d_Rf_placesWrong_90 ?_
  refine lv_iconst (v := 2) hx hb d_Rf_placesWrong_93 (by decide) ?_
  obtain ⟨hin_, hf⟩ := ix_some hf
  refine va_iald hx hb hK hP 4 0 rfl rfl hin_ d_Rf_placesWrong_94 ?_
  refine lv_iload_n hx hb d_Rf_placesWrong_95 rfl (lv_at hl 1 rfl) ?_
  refine lv_icmp_gt (tgt := 112) hx hb d_Rf_placesWrong_96 rfl (fun hc206 => ?_) (fun hc206 => ?_)
  · have hf := ift hf hc206
    refine lv_iconst (v := 1) hx hb d_Rf_placesWrong_112 (by decide) ?_
    refine lv_goto (tgt := 117) hx hb d_Rf_placesWrong_113 rfl ?_
    have e1_ := lf1 hf
    subst e1_
    have hP9 := hP.sub (ws' := [(hq, .inr (3, [.ref qm, .ref qf, .ref ql, .int nc, .int nd, .int nf, .int na, .int nz, .int no, .int ns, .int nv, .int np, .ref qi, .int nn, .ref qo, .int nt])), (qm, .inl (cI, 104, .inl nm)), (qf, .inl (cI, 104, .inl nb)), (ql, .inl (cI, 4, .inl nl)), (qi, .inl (cI, 24, .inl ni)), (qo, .inl (cI, 16, .inl nu))]) [0, 1, 2, 3, 4, 5] rfl
    have hD9 := hD.sub (ws' := [(hq, .inr (3, [.ref qm, .ref qf, .ref ql, .int nc, .int nd, .int nf, .int na, .int nz, .int no, .int ns, .int nv, .int np, .ref qi, .int nn, .ref qo, .int nt])), (qm, .inl (cI, 104, .inl nm)), (qf, .inl (cI, 104, .inl nb)), (ql, .inl (cI, 4, .inl nl)), (qi, .inl (cI, 24, .inl ni)), (qo, .inl (cI, 16, .inl nu))]) [0, 1, 2, 3, 4, 5] (by decide) rfl
    exact W.zret (v := 1) (ty := .boolean) hx hb hr rfl (fun t ht hW => ⟨⟨1, (), rfl, ⟨rfl, rfl⟩, by rw [ht]; exact hP9, va_K.moved hW.alike hK, hD9⟩, hS.F ht⟩) hS.2.2 d_Rf_placesWrong_117
  have hf := ifn hf hc206
  refine lv_iload_n hx hb d_Rf_placesWrong_99 rfl (lv_at hl 0 rfl) ?_
  refine lv_if_ne (tgt := 116) hx hb d_Rf_placesWrong_100 rfl (fun hc207 => ?_) (fun hc207 => ?_)
  · have hf := ifn hf hc207
    refine lv_iconst (v := 0) hx hb d_Rf_placesWrong_116 (by decide) ?_
    have e1_ := lf1 hf
    subst e1_
    have hP9 := hP.sub (ws' := [(hq, .inr (3, [.ref qm, .ref qf, .ref ql, .int nc, .int nd, .int nf, .int na, .int nz, .int no, .int ns, .int nv, .int np, .ref qi, .int nn, .ref qo, .int nt])), (qm, .inl (cI, 104, .inl nm)), (qf, .inl (cI, 104, .inl nb)), (ql, .inl (cI, 4, .inl nl)), (qi, .inl (cI, 24, .inl ni)), (qo, .inl (cI, 16, .inl nu))]) [0, 1, 2, 3, 4, 5] rfl
    have hD9 := hD.sub (ws' := [(hq, .inr (3, [.ref qm, .ref qf, .ref ql, .int nc, .int nd, .int nf, .int na, .int nz, .int no, .int ns, .int nv, .int np, .ref qi, .int nn, .ref qo, .int nt])), (qm, .inl (cI, 104, .inl nm)), (qf, .inl (cI, 104, .inl nb)), (ql, .inl (cI, 4, .inl nl)), (qi, .inl (cI, 24, .inl ni)), (qo, .inl (cI, 16, .inl nu))]) [0, 1, 2, 3, 4, 5] (by decide) rfl
    exact W.zret (v := 0) (ty := .boolean) hx hb hr rfl (fun t ht hW => ⟨⟨0, (), rfl, ⟨rfl, rfl⟩, by rw [ht]; exact hP9, va_K.moved hW.alike hK, hD9⟩, hS.F ht⟩) hS.2.2 d_Rf_placesWrong_117
  have hf := ift hf hc207
  refine lv_aload_n hx hb d_Rf_placesWrong_103 rfl (lv_at hl 2 rfl) ?_
  refine va_get (D := (dC, dI)) (ci := 3) (v := .ref qi) (C := R_Rf) (T := F_Rf) (N := 16) hx hb hts inRf hown hK hP 0 rfl rfl 12 (by decide) kf27 (fun _ h9 => h9) rfl d_Rf_placesWrong_104 ?_
  refine lv_iconst (v := 3) hx hb d_Rf_placesWrong_107 (by decide) ?_
  obtain ⟨hin_, hf⟩ := ix_some hf
  refine va_iald hx hb hK hP 4 0 rfl rfl hin_ d_Rf_placesWrong_108 ?_
  refine lv_if_eq (tgt := 116) hx hb d_Rf_placesWrong_109 rfl (fun hc209 => ?_) (fun hc209 => ?_)
  · have hf := ift hf hc209
    refine lv_iconst (v := 0) hx hb d_Rf_placesWrong_116 (by decide) ?_
    have e1_ := lf1 hf
    subst e1_
    have hP9 := hP.sub (ws' := [(hq, .inr (3, [.ref qm, .ref qf, .ref ql, .int nc, .int nd, .int nf, .int na, .int nz, .int no, .int ns, .int nv, .int np, .ref qi, .int nn, .ref qo, .int nt])), (qm, .inl (cI, 104, .inl nm)), (qf, .inl (cI, 104, .inl nb)), (ql, .inl (cI, 4, .inl nl)), (qi, .inl (cI, 24, .inl ni)), (qo, .inl (cI, 16, .inl nu))]) [0, 1, 2, 3, 4, 5] rfl
    have hD9 := hD.sub (ws' := [(hq, .inr (3, [.ref qm, .ref qf, .ref ql, .int nc, .int nd, .int nf, .int na, .int nz, .int no, .int ns, .int nv, .int np, .ref qi, .int nn, .ref qo, .int nt])), (qm, .inl (cI, 104, .inl nm)), (qf, .inl (cI, 104, .inl nb)), (ql, .inl (cI, 4, .inl nl)), (qi, .inl (cI, 24, .inl ni)), (qo, .inl (cI, 16, .inl nu))]) [0, 1, 2, 3, 4, 5] (by decide) rfl
    exact W.zret (v := 0) (ty := .boolean) hx hb hr rfl (fun t ht hW => ⟨⟨0, (), rfl, ⟨rfl, rfl⟩, by rw [ht]; exact hP9, va_K.moved hW.alike hK, hD9⟩, hS.F ht⟩) hS.2.2 d_Rf_placesWrong_117
  have hf := ifn hf hc209
  refine lv_iconst (v := 1) hx hb d_Rf_placesWrong_112 (by decide) ?_
  refine lv_goto (tgt := 117) hx hb d_Rf_placesWrong_113 rfl ?_
  have e1_ := lf1 hf
  subst e1_
  have hP9 := hP.sub (ws' := [(hq, .inr (3, [.ref qm, .ref qf, .ref ql, .int nc, .int nd, .int nf, .int na, .int nz, .int no, .int ns, .int nv, .int np, .ref qi, .int nn, .ref qo, .int nt])), (qm, .inl (cI, 104, .inl nm)), (qf, .inl (cI, 104, .inl nb)), (ql, .inl (cI, 4, .inl nl)), (qi, .inl (cI, 24, .inl ni)), (qo, .inl (cI, 16, .inl nu))]) [0, 1, 2, 3, 4, 5] rfl
  have hD9 := hD.sub (ws' := [(hq, .inr (3, [.ref qm, .ref qf, .ref ql, .int nc, .int nd, .int nf, .int na, .int nz, .int no, .int ns, .int nv, .int np, .ref qi, .int nn, .ref qo, .int nt])), (qm, .inl (cI, 104, .inl nm)), (qf, .inl (cI, 104, .inl nb)), (ql, .inl (cI, 4, .inl nl)), (qi, .inl (cI, 24, .inl ni)), (qo, .inl (cI, 16, .inl nu))]) [0, 1, 2, 3, 4, 5] (by decide) rfl
  exact W.zret (v := 1) (ty := .boolean) hx hb hr rfl (fun t ht hW => ⟨⟨1, (), rfl, ⟨rfl, rfl⟩, by rw [ht]; exact hP9, va_K.moved hW.alike hK, hD9⟩, hS.F ht⟩) hS.2.2 d_Rf_placesWrong_117
