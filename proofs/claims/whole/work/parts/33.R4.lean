theorem d_Rf_shared_0 : decode b_Rf_shared 0 = .ok (.aload_n 0, 1) := by decide +kernel
theorem d_Rf_shared_1 : decode b_Rf_shared 1 = .ok (.getfield 7, 3) := by decide +kernel
theorem d_Rf_shared_4 : decode b_Rf_shared 4 = .ok (.iload_n 2, 1) := by decide +kernel
theorem d_Rf_shared_5 : decode b_Rf_shared 5 = .ok (.iaload, 1) := by decide +kernel
theorem d_Rf_shared_6 : decode b_Rf_shared 6 = .ok (.iconst 1, 1) := by decide +kernel
theorem d_Rf_shared_7 : decode b_Rf_shared 7 = .ok (.isub, 1) := by decide +kernel
theorem d_Rf_shared_8 : decode b_Rf_shared 8 = .ok (.istore 4, 2) := by decide +kernel
theorem d_Rf_shared_10 : decode b_Rf_shared 10 = .ok (.iload 4, 2) := by decide +kernel
theorem d_Rf_shared_12 : decode b_Rf_shared 12 = .ok (.iconst 4, 1) := by decide +kernel
theorem d_Rf_shared_13 : decode b_Rf_shared 13 = .ok (.idiv, 1) := by decide +kernel
theorem d_Rf_shared_14 : decode b_Rf_shared 14 = .ok (.istore 5, 2) := by decide +kernel
theorem d_Rf_shared_16 : decode b_Rf_shared 16 = .ok (.iload_n 1, 1) := by decide +kernel
theorem d_Rf_shared_17 : decode b_Rf_shared 17 = .ok (.sipush 228, 3) := by decide +kernel
theorem d_Rf_shared_20 : decode b_Rf_shared 20 = .ok (.if_icmp .ne 8, 3) := by decide +kernel
theorem d_Rf_shared_23 : decode b_Rf_shared 23 = .ok (.iload 5, 2) := by decide +kernel
theorem d_Rf_shared_25 : decode b_Rf_shared 25 = .ok (.goto 7, 3) := by decide +kernel
theorem d_Rf_shared_28 : decode b_Rf_shared 28 = .ok (.iload 4, 2) := by decide +kernel
theorem d_Rf_shared_30 : decode b_Rf_shared 30 = .ok (.iconst 4, 1) := by decide +kernel
theorem d_Rf_shared_31 : decode b_Rf_shared 31 = .ok (.irem, 1) := by decide +kernel
theorem d_Rf_shared_32 : decode b_Rf_shared 32 = .ok (.istore 6, 2) := by decide +kernel
theorem d_Rf_shared_34 : decode b_Rf_shared 34 = .ok (.iload 4, 2) := by decide +kernel
theorem d_Rf_shared_36 : decode b_Rf_shared 36 = .ok (.ifCond .lt 12, 3) := by decide +kernel
theorem d_Rf_shared_39 : decode b_Rf_shared 39 = .ok (.iload 6, 2) := by decide +kernel
theorem d_Rf_shared_41 : decode b_Rf_shared 41 = .ok (.aload_n 0, 1) := by decide +kernel
theorem d_Rf_shared_42 : decode b_Rf_shared 42 = .ok (.getfield 23, 3) := by decide +kernel
theorem d_Rf_shared_45 : decode b_Rf_shared 45 = .ok (.if_icmp .eq 7, 3) := by decide +kernel
theorem d_Rf_shared_48 : decode b_Rf_shared 48 = .ok (.sipush 27272, 3) := by decide +kernel
theorem d_Rf_shared_51 : decode b_Rf_shared 51 = .ok (.ireturn, 1) := by decide +kernel
theorem d_Rf_shared_52 : decode b_Rf_shared 52 = .ok (.iload_n 1, 1) := by decide +kernel
theorem d_Rf_shared_53 : decode b_Rf_shared 53 = .ok (.sipush 228, 3) := by decide +kernel
theorem d_Rf_shared_56 : decode b_Rf_shared 56 = .ok (.if_icmp .ne 17, 3) := by decide +kernel
theorem d_Rf_shared_59 : decode b_Rf_shared 59 = .ok (.aload_n 0, 1) := by decide +kernel
theorem d_Rf_shared_60 : decode b_Rf_shared 60 = .ok (.getfield 27, 3) := by decide +kernel
theorem d_Rf_shared_63 : decode b_Rf_shared 63 = .ok (.iconst 5, 1) := by decide +kernel
theorem d_Rf_shared_64 : decode b_Rf_shared 64 = .ok (.iconst 0, 1) := by decide +kernel
theorem d_Rf_shared_65 : decode b_Rf_shared 65 = .ok (.iastore, 1) := by decide +kernel
theorem d_Rf_shared_66 : decode b_Rf_shared 66 = .ok (.aload_n 0, 1) := by decide +kernel
theorem d_Rf_shared_67 : decode b_Rf_shared 67 = .ok (.iload_n 2, 1) := by decide +kernel
theorem d_Rf_shared_68 : decode b_Rf_shared 68 = .ok (.iconst 1, 1) := by decide +kernel
theorem d_Rf_shared_69 : decode b_Rf_shared 69 = .ok (.invokevirtual 110, 3) := by decide +kernel
theorem d_Rf_shared_72 : decode b_Rf_shared 72 = .ok (.ireturn, 1) := by decide +kernel
theorem d_Rf_shared_73 : decode b_Rf_shared 73 = .ok (.bipush 16, 2) := by decide +kernel
theorem d_Rf_shared_75 : decode b_Rf_shared 75 = .ok (.iload 5, 2) := by decide +kernel
theorem d_Rf_shared_77 : decode b_Rf_shared 77 = .ok (.imul, 1) := by decide +kernel
theorem d_Rf_shared_78 : decode b_Rf_shared 78 = .ok (.aload_n 0, 1) := by decide +kernel
theorem d_Rf_shared_79 : decode b_Rf_shared 79 = .ok (.getfield 7, 3) := by decide +kernel
theorem d_Rf_shared_82 : decode b_Rf_shared 82 = .ok (.iload_n 2, 1) := by decide +kernel
theorem d_Rf_shared_83 : decode b_Rf_shared 83 = .ok (.iconst 1, 1) := by decide +kernel
theorem d_Rf_shared_84 : decode b_Rf_shared 84 = .ok (.iadd, 1) := by decide +kernel
theorem d_Rf_shared_85 : decode b_Rf_shared 85 = .ok (.iaload, 1) := by decide +kernel
theorem d_Rf_shared_86 : decode b_Rf_shared 86 = .ok (.iadd, 1) := by decide +kernel
theorem d_Rf_shared_87 : decode b_Rf_shared 87 = .ok (.istore 7, 2) := by decide +kernel
theorem d_Rf_shared_89 : decode b_Rf_shared 89 = .ok (.iload_n 1, 1) := by decide +kernel
theorem d_Rf_shared_90 : decode b_Rf_shared 90 = .ok (.sipush 178, 3) := by decide +kernel
theorem d_Rf_shared_93 : decode b_Rf_shared 93 = .ok (.if_icmp .ne 19, 3) := by decide +kernel
theorem d_Rf_shared_96 : decode b_Rf_shared 96 = .ok (.aload_n 0, 1) := by decide +kernel
theorem d_Rf_shared_97 : decode b_Rf_shared 97 = .ok (.iload 7, 2) := by decide +kernel
theorem d_Rf_shared_99 : decode b_Rf_shared 99 = .ok (.iload_n 3, 1) := by decide +kernel
theorem d_Rf_shared_100 : decode b_Rf_shared 100 = .ok (.aload_n 0, 1) := by decide +kernel
theorem d_Rf_shared_101 : decode b_Rf_shared 101 = .ok (.getfield 7, 3) := by decide +kernel
theorem d_Rf_shared_104 : decode b_Rf_shared 104 = .ok (.iload_n 2, 1) := by decide +kernel
theorem d_Rf_shared_105 : decode b_Rf_shared 105 = .ok (.iconst 2, 1) := by decide +kernel
theorem d_Rf_shared_106 : decode b_Rf_shared 106 = .ok (.iadd, 1) := by decide +kernel
theorem d_Rf_shared_107 : decode b_Rf_shared 107 = .ok (.iaload, 1) := by decide +kernel
theorem d_Rf_shared_108 : decode b_Rf_shared 108 = .ok (.invokevirtual 117, 3) := by decide +kernel
theorem d_Rf_shared_111 : decode b_Rf_shared 111 = .ok (.ireturn, 1) := by decide +kernel
theorem d_Rf_shared_112 : decode b_Rf_shared 112 = .ok (.aload_n 0, 1) := by decide +kernel
theorem d_Rf_shared_113 : decode b_Rf_shared 113 = .ok (.getfield 7, 3) := by decide +kernel
theorem d_Rf_shared_116 : decode b_Rf_shared 116 = .ok (.iload_n 2, 1) := by decide +kernel
theorem d_Rf_shared_117 : decode b_Rf_shared 117 = .ok (.iconst 3, 1) := by decide +kernel
theorem d_Rf_shared_118 : decode b_Rf_shared 118 = .ok (.iadd, 1) := by decide +kernel
theorem d_Rf_shared_119 : decode b_Rf_shared 119 = .ok (.iaload, 1) := by decide +kernel
theorem d_Rf_shared_120 : decode b_Rf_shared 120 = .ok (.ifCond .ne 9, 3) := by decide +kernel
theorem d_Rf_shared_123 : decode b_Rf_shared 123 = .ok (.sipush 27010, 3) := by decide +kernel
theorem d_Rf_shared_126 : decode b_Rf_shared 126 = .ok (.goto 42, 3) := by decide +kernel
theorem d_Rf_shared_129 : decode b_Rf_shared 129 = .ok (.iload_n 3, 1) := by decide +kernel
theorem d_Rf_shared_130 : decode b_Rf_shared 130 = .ok (.aload_n 0, 1) := by decide +kernel
theorem d_Rf_shared_131 : decode b_Rf_shared 131 = .ok (.getfield 27, 3) := by decide +kernel
theorem d_Rf_shared_134 : decode b_Rf_shared 134 = .ok (.iconst 4, 1) := by decide +kernel
theorem d_Rf_shared_135 : decode b_Rf_shared 135 = .ok (.iaload, 1) := by decide +kernel
theorem d_Rf_shared_136 : decode b_Rf_shared 136 = .ok (.iadd, 1) := by decide +kernel
theorem d_Rf_shared_137 : decode b_Rf_shared 137 = .ok (.aload_n 0, 1) := by decide +kernel
theorem d_Rf_shared_138 : decode b_Rf_shared 138 = .ok (.getfield 7, 3) := by decide +kernel
theorem d_Rf_shared_141 : decode b_Rf_shared 141 = .ok (.iload_n 2, 1) := by decide +kernel
theorem d_Rf_shared_142 : decode b_Rf_shared 142 = .ok (.iconst 2, 1) := by decide +kernel
theorem d_Rf_shared_143 : decode b_Rf_shared 143 = .ok (.iadd, 1) := by decide +kernel
theorem d_Rf_shared_144 : decode b_Rf_shared 144 = .ok (.iaload, 1) := by decide +kernel
theorem d_Rf_shared_145 : decode b_Rf_shared 145 = .ok (.if_icmp .le 9, 3) := by decide +kernel
theorem d_Rf_shared_148 : decode b_Rf_shared 148 = .ok (.sipush 27392, 3) := by decide +kernel
theorem d_Rf_shared_151 : decode b_Rf_shared 151 = .ok (.goto 17, 3) := by decide +kernel
theorem d_Rf_shared_154 : decode b_Rf_shared 154 = .ok (.aload_n 0, 1) := by decide +kernel
theorem d_Rf_shared_155 : decode b_Rf_shared 155 = .ok (.iload 7, 2) := by decide +kernel
theorem d_Rf_shared_157 : decode b_Rf_shared 157 = .ok (.iload_n 3, 1) := by decide +kernel
theorem d_Rf_shared_158 : decode b_Rf_shared 158 = .ok (.iadd, 1) := by decide +kernel
theorem d_Rf_shared_159 : decode b_Rf_shared 159 = .ok (.aload_n 0, 1) := by decide +kernel
theorem d_Rf_shared_160 : decode b_Rf_shared 160 = .ok (.getfield 27, 3) := by decide +kernel
theorem d_Rf_shared_163 : decode b_Rf_shared 163 = .ok (.iconst 4, 1) := by decide +kernel
theorem d_Rf_shared_164 : decode b_Rf_shared 164 = .ok (.iaload, 1) := by decide +kernel
theorem d_Rf_shared_165 : decode b_Rf_shared 165 = .ok (.invokevirtual 110, 3) := by decide +kernel
theorem d_Rf_shared_168 : decode b_Rf_shared 168 = .ok (.ireturn, 1) := by decide +kernel
def fRf_shared (σ : StR) (a1 : Int32) (a2 : Int32) (a3 : Int32) : Option (Int32 × StR) := match σ with | (nm, nb, nl, nc, nd, nf, na, nz, no, ns, nv, np, ni, nn, nu, nt) => ix a2 104 fun j1 => if a1 = 228 then (if ((nm j1) - 1) < 0 then (some (27272, nm, nb, nl, nc, nd, nf, na, nz, no, ns, nv, np, ni, nn, nu, nt)) else (if (((nm j1) - 1) / 4) = ns then (if a1 = 228 then (ix 5 24 fun j33 => bd17 (fRf_store (nm, nb, nl, nc, nd, nf, na, nz, no, ns, nv, np, upd ni j33 0, nn, nu, nt) a2 1) fun r34 nm34 nb34 nl34 nc34 nd34 nf34 na34 nz34 no34 ns34 nv34 np34 ni34 nn34 nu34 nt34 => some (r34, nm34, nb34, nl34, nc34, nd34, nf34, na34, nz34, no34, ns34, nv34, np34, ni34, nn34, nu34, nt34)) else (ix (a2 + 1) 104 fun j22 => if a1 = 178 then (ix (a2 + 2) 104 fun j31 => bd17 (fRf_read (nm, nb, nl, nc, nd, nf, na, nz, no, ns, nv, np, ni, nn, nu, nt) ((16 * (((nm j1) - 1) / 4)) + (nm j22)) a3 (nm j31)) fun r32 nm32 nb32 nl32 nc32 nd32 nf32 na32 nz32 no32 ns32 nv32 np32 ni32 nn32 nu32 nt32 => some (r32, nm32, nb32, nl32, nc32, nd32, nf32, na32, nz32, no32, ns32, nv32, np32, ni32, nn32, nu32, nt32)) else (ix (a2 + 3) 104 fun j24 => if (nm j24) = 0 then (some (27010, nm, nb, nl, nc, nd, nf, na, nz, no, ns, nv, np, ni, nn, nu, nt)) else (ix 4 24 fun j26 => ix (a2 + 2) 104 fun j27 => if (a3 + (ni j26)) ≤ (nm j27) then (ix 4 24 fun j29 => bd17 (fRf_store (nm, nb, nl, nc, nd, nf, na, nz, no, ns, nv, np, ni, nn, nu, nt) (((16 * (((nm j1) - 1) / 4)) + (nm j22)) + a3) (ni j29)) fun r30 nm30 nb30 nl30 nc30 nd30 nf30 na30 nz30 no30 ns30 nv30 np30 ni30 nn30 nu30 nt30 => some (r30, nm30, nb30, nl30, nc30, nd30, nf30, na30, nz30, no30, ns30, nv30, np30, ni30, nn30, nu30, nt30)) else (some (27392, nm, nb, nl, nc, nd, nf, na, nz, no, ns, nv, np, ni, nn, nu, nt)))))) else (some (27272, nm, nb, nl, nc, nd, nf, na, nz, no, ns, nv, np, ni, nn, nu, nt)))) else (if ((nm j1) - 1) < 0 then (some (27272, nm, nb, nl, nc, nd, nf, na, nz, no, ns, nv, np, ni, nn, nu, nt)) else (if (((nm j1) - 1) - ((nm j1) - 1) / 4 * 4) = ns then (if a1 = 228 then (ix 5 24 fun j17 => bd17 (fRf_store (nm, nb, nl, nc, nd, nf, na, nz, no, ns, nv, np, upd ni j17 0, nn, nu, nt) a2 1) fun r18 nm18 nb18 nl18 nc18 nd18 nf18 na18 nz18 no18 ns18 nv18 np18 ni18 nn18 nu18 nt18 => some (r18, nm18, nb18, nl18, nc18, nd18, nf18, na18, nz18, no18, ns18, nv18, np18, ni18, nn18, nu18, nt18)) else (ix (a2 + 1) 104 fun j6 => if a1 = 178 then (ix (a2 + 2) 104 fun j15 => bd17 (fRf_read (nm, nb, nl, nc, nd, nf, na, nz, no, ns, nv, np, ni, nn, nu, nt) ((16 * (((nm j1) - 1) / 4)) + (nm j6)) a3 (nm j15)) fun r16 nm16 nb16 nl16 nc16 nd16 nf16 na16 nz16 no16 ns16 nv16 np16 ni16 nn16 nu16 nt16 => some (r16, nm16, nb16, nl16, nc16, nd16, nf16, na16, nz16, no16, ns16, nv16, np16, ni16, nn16, nu16, nt16)) else (ix (a2 + 3) 104 fun j8 => if (nm j8) = 0 then (some (27010, nm, nb, nl, nc, nd, nf, na, nz, no, ns, nv, np, ni, nn, nu, nt)) else (ix 4 24 fun j10 => ix (a2 + 2) 104 fun j11 => if (a3 + (ni j10)) ≤ (nm j11) then (ix 4 24 fun j13 => bd17 (fRf_store (nm, nb, nl, nc, nd, nf, na, nz, no, ns, nv, np, ni, nn, nu, nt) (((16 * (((nm j1) - 1) / 4)) + (nm j6)) + a3) (ni j13)) fun r14 nm14 nb14 nl14 nc14 nd14 nf14 na14 nz14 no14 ns14 nv14 np14 ni14 nn14 nu14 nt14 => some (r14, nm14, nb14, nl14, nc14, nd14, nf14, na14, nz14, no14, ns14, nv14, np14, ni14, nn14, nu14, nt14)) else (some (27392, nm, nb, nl, nc, nd, nf, na, nz, no, ns, nv, np, ni, nn, nu, nt)))))) else (some (27272, nm, nb, nl, nc, nd, nf, na, nz, no, ns, nv, np, ni, nn, nu, nt))))
set_option maxHeartbeats 4000000 in
set_option maxRecDepth 100000 in
theorem ctRf_shared (l : Launch) (dC : Nat → ClassId) (dI : Nat → Nat → Nat) (cI : ClassId) (hq qm qf ql qi qo : Nat) (nm : Nat → Int32) (nb : Nat → Int32) (nl : Nat → Int32) (nc : Int32) (nd : Int32) (nf : Int32) (na : Int32) (nz : Int32) (no : Int32) (ns : Int32) (nv : Int32) (np : Int32) (ni : Nat → Int32) (nn : Int32) (nu : Nat → Int32) (nt : Int32) (a1 : Int32) (a2 : Int32) (a3 : Int32) (r : Int32) (nm' : Nat → Int32) (nb' : Nat → Int32) (nl' : Nat → Int32) (nc' : Int32) (nd' : Int32) (nf' : Int32) (na' : Int32) (nz' : Int32) (no' : Int32) (ns' : Int32) (nv' : Int32) (np' : Int32) (ni' : Nat → Int32) (nn' : Int32) (nu' : Nat → Int32) (nt' : Int32) (hf : fRf_shared (nm, nb, nl, nc, nd, nf, na, nz, no, ns, nv, np, ni, nn, nu, nt) a1 a2 a3 = some (r, nm', nb', nl', nc', nd', nf', na', nz', no', ns', nv', np', ni', nn', nu', nt')) : CtI l y_Rf_shared w_Rf_shared ({ frames := 5, cells := 0, slots := 0, locals := 108 }) (dC, dI) [(cI, .int)] [.ref hq, .int a1, .int a2, .int a3] [(hq, .inr (3, [.ref qm, .ref qf, .ref ql, .int nc, .int nd, .int nf, .int na, .int nz, .int no, .int ns, .int nv, .int np, .ref qi, .int nn, .ref qo, .int nt])), (qm, .inl (cI, 104, .inl nm)), (qf, .inl (cI, 104, .inl nb)), (ql, .inl (cI, 4, .inl nl)), (qi, .inl (cI, 24, .inl ni)), (qo, .inl (cI, 16, .inl nu))] [(hq, .inr (3, [.ref qm, .ref qf, .ref ql, .int nc', .int nd', .int nf', .int na', .int nz', .int no', .int ns', .int nv', .int np', .ref qi, .int nn', .ref qo, .int nt'])), (qm, .inl (cI, 104, .inl nm')), (qf, .inl (cI, 104, .inl nb')), (ql, .inl (cI, 4, .inl nl')), (qi, .inl (cI, 24, .inl ni')), (qo, .inl (cI, 16, .inl nu'))] r := by
  intro sz
  refine Met.ofW (cc := b_Rf_shared) (maxL := 8) (ret := some .int) (by decide) rfl ?_
  intro p e s m args below meth c s₁ B hml hv
  obtain ⟨rfl, hsz, hP, hK, hD0⟩ := hv
  have hx := B.exec
  have hb := B.bytes
  have hr := B.returns
  have hts := atoms_spec (ws := w_Rf_shared) B.pre
  have hown : s.vm.findClass R_Rf = some m.cls := findClass_of_methodNamed B.named
  have hlocks := B.notSynchronized
  subst hsz
  have hD := hD0.self (sz := s.heap.size)
  generalize hAe : va_A [(hq, .inr (3, [.ref qm, .ref qf, .ref ql, .int nc, .int nd, .int nf, .int na, .int nz, .int no, .int ns, .int nv, .int np, .ref qi, .int nn, .ref qo, .int nt])), (qm, .inl (cI, 104, .inl nm)), (qf, .inl (cI, 104, .inl nb)), (ql, .inl (cI, 4, .inl nl)), (qi, .inl (cI, 24, .inl ni)), (qo, .inl (cI, 16, .inl nu))] s.heap.size = A at hD ⊢
  have hA : ∀ q : Nat, s.heap.size ≤ q → A q := fun q h => by rw [← hAe]; exact Or.inr h
  have hS : va_S A s.heap s.heap [] := va_S.rf
  have hP : va_P (dC, dI) vwCl [(hq, .inr (3, [.ref qm, .ref qf, .ref ql, .int nc, .int nd, .int nf, .int na, .int nz, .int no, .int ns, .int nv, .int np, .ref qi, .int nn, .ref qo, .int nt])), (qm, .inl (cI, 104, .inl nm)), (qf, .inl (cI, 104, .inl nb)), (ql, .inl (cI, 4, .inl nl)), (qi, .inl (cI, 24, .inl ni)), (qo, .inl (cI, 16, .inl nu))] s.heap := hP
  have hl := lv_entry ([.ref hq, .int a1, .int a2, .int a3]) (n := 8) (Nat.le_of_ble_eq_true rfl)
  rw [lg_entry_eq]
  generalize (lg_sl ([.ref hq, .int a1, .int a2, .int a3]) ++ List.replicate (8 - (lg_sl ([.ref hq, .int a1, .int a2, .int a3])).length) Slot.unset).toArray = ls at hl ⊢
  have hl : lv_has ls 8 [(0, .ref hq), (1, .int a1), (2, .int a2), (3, .int a3)] := hl
  have inRf : ∀ w ∈ u_ws R_Rf F_Rf 16, w ∈ w_Rf_shared := fun w h => List.mem_cons_of_mem _ (in_Rf w h)
  have kf23 := hts _ (List.mem_cons_of_mem _ wq415)
  have kf27 := hts _ (List.mem_cons_of_mem _ wq418)
  have kf7 := hts _ (List.mem_cons_of_mem _ wq406)
  rw [fRf_shared] at hf
  refine lv_aload_n hx hb d_Rf_shared_0 rfl (lv_at hl 0 rfl) ?_
  refine va_get (D := (dC, dI)) (ci := 3) (v := .ref qm) (C := R_Rf) (T := F_Rf) (N := 16) hx hb hts inRf hown hK hP 0 rfl rfl 0 (by decide) kf7 (fun _ h9 => h9) rfl d_Rf_shared_1 ?_
  refine lv_iload_n hx hb d_Rf_shared_4 rfl (lv_at hl 2 rfl) ?_
  obtain ⟨hin_, hf⟩ := ix_some hf
  refine va_iald hx hb hK hP 1 0 rfl rfl hin_ d_Rf_shared_5 ?_
  refine lv_iconst (v := 1) hx hb d_Rf_shared_6 (by decide) ?_
  refine lv_isub hx hb d_Rf_shared_7 ?_
  refine lv_istore hx hb d_Rf_shared_8 hl (by decide) rfl (fun ls hl => ?_)
  have hl : lv_has ls 8 [(4, .int ((nm (a2 : Int32).toNatClampNeg) - 1)), (0, .ref hq), (1, .int a1), (2, .int a2), (3, .int a3)] := hl
  refine lv_iload hx hb d_Rf_shared_10 (lv_at hl 0 rfl) ?_
  refine lv_iconst (v := 4) hx hb d_Rf_shared_12 (by decide) ?_
  refine lv_idiv hx hb d_Rf_shared_13 (by decide) ?_
  refine lv_istore hx hb d_Rf_shared_14 hl (by decide) rfl (fun ls hl => ?_)
  have hl : lv_has ls 8 [(5, .int (((nm (a2 : Int32).toNatClampNeg) - 1) / 4)), (4, .int ((nm (a2 : Int32).toNatClampNeg) - 1)), (0, .ref hq), (1, .int a1), (2, .int a2), (3, .int a3)] := hl
  refine lv_iload_n hx hb d_Rf_shared_16 rfl (lv_at hl 3 rfl) ?_
  refine lv_sipush (v := 228) hx hb d_Rf_shared_17 (by decide) ?_
  refine lv_icmp_ne (tgt := 28) hx hb d_Rf_shared_20 rfl (fun hc2 => ?_) (fun hc2 => ?_)
  · have hf := ifn hf hc2
    refine lv_iload hx hb d_Rf_shared_28 (lv_at hl 1 rfl) ?_
    refine lv_iconst (v := 4) hx hb d_Rf_shared_30 (by decide) ?_
    refine lv_irem hx hb d_Rf_shared_31 (by decide) ?_
    refine lv_istore hx hb d_Rf_shared_32 hl (by decide) rfl (fun ls hl => ?_)
    have hl : lv_has ls 8 [(6, .int (((nm (a2 : Int32).toNatClampNeg) - 1) - ((nm (a2 : Int32).toNatClampNeg) - 1) / 4 * 4)), (5, .int (((nm (a2 : Int32).toNatClampNeg) - 1) / 4)), (4, .int ((nm (a2 : Int32).toNatClampNeg) - 1)), (0, .ref hq), (1, .int a1), (2, .int a2), (3, .int a3)] := hl
    refine lv_iload hx hb d_Rf_shared_34 (lv_at hl 2 rfl) ?_
    refine lv_if_lt (tgt := 48) hx hb d_Rf_shared_36 rfl (fun hc3 => ?_) (fun hc3 => ?_)
    · have hf := ift hf hc3
      refine lv_sipush (v := 27272) hx hb d_Rf_shared_48 (by decide) ?_
      obtain ⟨e1_, e2_, e3_, e4_, e5_, e6_, e7_, e8_, e9_, e10_, e11_, e12_, e13_, e14_, e15_, e16_, e17_⟩ := lf17 hf
      subst e1_; subst e2_; subst e3_; subst e4_; subst e5_; subst e6_; subst e7_; subst e8_; subst e9_; subst e10_; subst e11_; subst e12_; subst e13_; subst e14_; subst e15_; subst e16_; subst e17_
      have hP9 := hP.sub (ws' := [(hq, .inr (3, [.ref qm, .ref qf, .ref ql, .int nc, .int nd, .int nf, .int na, .int nz, .int no, .int ns, .int nv, .int np, .ref qi, .int nn, .ref qo, .int nt])), (qm, .inl (cI, 104, .inl nm)), (qf, .inl (cI, 104, .inl nb)), (ql, .inl (cI, 4, .inl nl)), (qi, .inl (cI, 24, .inl ni)), (qo, .inl (cI, 16, .inl nu))]) [0, 1, 2, 3, 4, 5] rfl
      have hD9 := hD.sub (ws' := [(hq, .inr (3, [.ref qm, .ref qf, .ref ql, .int nc, .int nd, .int nf, .int na, .int nz, .int no, .int ns, .int nv, .int np, .ref qi, .int nn, .ref qo, .int nt])), (qm, .inl (cI, 104, .inl nm)), (qf, .inl (cI, 104, .inl nb)), (ql, .inl (cI, 4, .inl nl)), (qi, .inl (cI, 24, .inl ni)), (qo, .inl (cI, 16, .inl nu))]) [0, 1, 2, 3, 4, 5] (by decide) rfl
      exact W.iret (v := 27272) hx hb hr (fun t ht hW => ⟨⟨27272, (), rfl, rfl, by rw [ht]; exact hP9, va_K.moved hW.alike hK, hD9⟩, hS.F ht⟩) hS.2.2 d_Rf_shared_51
    have hf := ifn hf hc3
    refine lv_iload hx hb d_Rf_shared_39 (lv_at hl 0 rfl) ?_
    refine lv_aload_n hx hb d_Rf_shared_41 rfl (lv_at hl 3 rfl) ?_
    refine va_get (D := (dC, dI)) (ci := 3) (v := .int ns) (C := R_Rf) (T := F_Rf) (N := 16) hx hb hts inRf hown hK hP 0 rfl rfl 9 (by decide) kf23 (fun _ h9 => h9) rfl d_Rf_shared_42 ?_
    refine lv_icmp_eq (tgt := 52) hx hb d_Rf_shared_45 rfl (fun hc4 => ?_) (fun hc4 => ?_)
    · have hf := ift hf hc4
      refine lv_iload_n hx hb d_Rf_shared_52 rfl (lv_at hl 4 rfl) ?_
      refine lv_sipush (v := 228) hx hb d_Rf_shared_53 (by decide) ?_
      refine lv_icmp_ne (tgt := 73) hx hb d_Rf_shared_56 rfl (fun hc5 => ?_) (fun hc5 => ?_)
      · have hf := ifn hf hc5
        refine lv_bipush (v := 16) hx hb d_Rf_shared_73 (by decide) ?_
        refine lv_iload hx hb d_Rf_shared_75 (lv_at hl 1 rfl) ?_
        refine lv_imul hx hb d_Rf_shared_77 ?_
        refine lv_aload_n hx hb d_Rf_shared_78 rfl (lv_at hl 3 rfl) ?_
        refine va_get (D := (dC, dI)) (ci := 3) (v := .ref qm) (C := R_Rf) (T := F_Rf) (N := 16) hx hb hts inRf hown hK hP 0 rfl rfl 0 (by decide) kf7 (fun _ h9 => h9) rfl d_Rf_shared_79 ?_
        refine lv_iload_n hx hb d_Rf_shared_82 rfl (lv_at hl 5 rfl) ?_
        refine lv_iconst (v := 1) hx hb d_Rf_shared_83 (by decide) ?_
        refine lv_iadd hx hb d_Rf_shared_84 ?_
        obtain ⟨hin_, hf⟩ := ix_some hf
        refine va_iald hx hb hK hP 1 0 rfl rfl hin_ d_Rf_shared_85 ?_
        refine lv_iadd hx hb d_Rf_shared_86 ?_
        refine lv_istore hx hb d_Rf_shared_87 hl (by decide) rfl (fun ls hl => ?_)
        have hl : lv_has ls 8 [(7, .int ((16 * (((nm (a2 : Int32).toNatClampNeg) - 1) / 4)) + (nm (a2 + 1 : Int32).toNatClampNeg))), (6, .int (((nm (a2 : Int32).toNatClampNeg) - 1) - ((nm (a2 : Int32).toNatClampNeg) - 1) / 4 * 4)), (5, .int (((nm (a2 : Int32).toNatClampNeg) - 1) / 4)), (4, .int ((nm (a2 : Int32).toNatClampNeg) - 1)), (0, .ref hq), (1, .int a1), (2, .int a2), (3, .int a3)] := hl
        refine lv_iload_n hx hb d_Rf_shared_89 rfl (lv_at hl 5 rfl) ?_
        refine lv_sipush (v := 178) hx hb d_Rf_shared_90 (by decide) ?_
        refine lv_icmp_ne (tgt := 112) hx hb d_Rf_shared_93 rfl (fun hc7 => ?_) (fun hc7 => ?_)
        · have hf := ifn hf hc7
          refine lv_aload_n hx hb d_Rf_shared_112 rfl (lv_at hl 4 rfl) ?_
          refine va_get (D := (dC, dI)) (ci := 3) (v := .ref qm) (C := R_Rf) (T := F_Rf) (N := 16) hx hb hts inRf hown hK hP 0 rfl rfl 0 (by decide) kf7 (fun _ h9 => h9) rfl d_Rf_shared_113 ?_
          refine lv_iload_n hx hb d_Rf_shared_116 rfl (lv_at hl 6 rfl) ?_
          refine lv_iconst (v := 3) hx hb d_Rf_shared_117 (by decide) ?_
          refine lv_iadd hx hb d_Rf_shared_118 ?_
          obtain ⟨hin_, hf⟩ := ix_some hf
          refine va_iald hx hb hK hP 1 0 rfl rfl hin_ d_Rf_shared_119 ?_
          refine lv_if_ne (tgt := 129) hx hb d_Rf_shared_120 rfl (fun hc9 => ?_) (fun hc9 => ?_)
          · have hf := ifn hf hc9
            refine lv_iload_n hx hb d_Rf_shared_129 rfl (lv_at hl 7 rfl) ?_
            refine lv_aload_n hx hb d_Rf_shared_130 rfl (lv_at hl 4 rfl) ?_
            refine va_get (D := (dC, dI)) (ci := 3) (v := .ref qi) (C := R_Rf) (T := F_Rf) (N := 16) hx hb hts inRf hown hK hP 0 rfl rfl 12 (by decide) kf27 (fun _ h9 => h9) rfl d_Rf_shared_131 ?_
            refine lv_iconst (v := 4) hx hb d_Rf_shared_134 (by decide) ?_
            obtain ⟨hin_, hf⟩ := ix_some hf
            refine va_iald hx hb hK hP 4 0 rfl rfl hin_ d_Rf_shared_135 ?_
            refine lv_iadd hx hb d_Rf_shared_136 ?_
            refine lv_aload_n hx hb d_Rf_shared_137 rfl (lv_at hl 4 rfl) ?_
            refine va_get (D := (dC, dI)) (ci := 3) (v := .ref qm) (C := R_Rf) (T := F_Rf) (N := 16) hx hb hts inRf hown hK hP 0 rfl rfl 0 (by decide) kf7 (fun _ h9 => h9) rfl d_Rf_shared_138 ?_
            refine lv_iload_n hx hb d_Rf_shared_141 rfl (lv_at hl 6 rfl) ?_
            refine lv_iconst (v := 2) hx hb d_Rf_shared_142 (by decide) ?_
            refine lv_iadd hx hb d_Rf_shared_143 ?_
            obtain ⟨hin_, hf⟩ := ix_some hf
            refine va_iald hx hb hK hP 1 0 rfl rfl hin_ d_Rf_shared_144 ?_
            refine lv_icmp_le (tgt := 154) hx hb d_Rf_shared_145 rfl (fun hc12 => ?_) (fun hc12 => ?_)
            · have hf := ift hf hc12
              refine lv_aload_n hx hb d_Rf_shared_154 rfl (lv_at hl 4 rfl) ?_
              refine lv_iload hx hb d_Rf_shared_155 (lv_at hl 0 rfl) ?_
              refine lv_iload_n hx hb d_Rf_shared_157 rfl (lv_at hl 7 rfl) ?_
              refine lv_iadd hx hb d_Rf_shared_158 ?_
              refine lv_aload_n hx hb d_Rf_shared_159 rfl (lv_at hl 4 rfl) ?_
              refine va_get (D := (dC, dI)) (ci := 3) (v := .ref qi) (C := R_Rf) (T := F_Rf) (N := 16) hx hb hts inRf hown hK hP 0 rfl rfl 12 (by decide) kf27 (fun _ h9 => h9) rfl d_Rf_shared_160 ?_
              refine lv_iconst (v := 4) hx hb d_Rf_shared_163 (by decide) ?_
              obtain ⟨hin_, hf⟩ := ix_some hf
              refine va_iald hx hb hK hP 4 0 rfl rfl hin_ d_Rf_shared_164 ?_
              obtain ⟨r14, nm14, nb14, nl14, nc14, nd14, nf14, na14, nz14, no14, ns14, nv14, np14, ni14, nn14, nu14, nt14, hg, hf⟩ := bd17_some hf
              refine xci (wr := []) (ctRf_store l dC dI cI hq qm qf ql qi qo nm nb nl nc nd nf na nz no ns nv np ni nn nu nt (((16 * (((nm (a2 : Int32).toNatClampNeg) - 1) / 4)) + (nm (a2 + 1 : Int32).toNatClampNeg)) + a3) (ni (4 : Int32).toNatClampNeg) r14 nm14 nb14 nl14 nc14 nd14 nf14 na14 nz14 no14 ns14 nv14 np14 ni14 nn14 nu14 nt14 hg) ⟨hx, hb, hml, hown, hts⟩ (cwV (C := R_Rf) 2 hts (gV wq526 wq528 wq33 wq46 wq529) rfl rfl rfl (by decide +kernel) ⟨Nat.le_of_ble_eq_true rfl, Nat.le_of_ble_eq_true rfl⟩) hK hP hD hS hA [0, 1, 2, 3, 4, 5] [] rfl rfl rfl rfl (by decide) (ci := 3) (q0 := 0) rfl rfl rfl rfl hl.1 rfl (Nat.le_of_ble_eq_true rfl) d_Rf_shared_165 ⟨Nat.zero_le _, Nat.zero_le _⟩ (fun H locs hP hD hS => ?_)
              have hP : va_P (dC, dI) vwCl [(hq, .inr (3, [.ref qm, .ref qf, .ref ql, .int nc14, .int nd14, .int nf14, .int na14, .int nz14, .int no14, .int ns14, .int nv14, .int np14, .ref qi, .int nn14, .ref qo, .int nt14])), (qm, .inl (cI, 104, .inl nm14)), (qf, .inl (cI, 104, .inl nb14)), (ql, .inl (cI, 4, .inl nl14)), (qi, .inl (cI, 24, .inl ni14)), (qo, .inl (cI, 16, .inl nu14))] H := hP
              have hD : va_D A [(hq, .inr (3, [.ref qm, .ref qf, .ref ql, .int nc14, .int nd14, .int nf14, .int na14, .int nz14, .int no14, .int ns14, .int nv14, .int np14, .ref qi, .int nn14, .ref qo, .int nt14])), (qm, .inl (cI, 104, .inl nm14)), (qf, .inl (cI, 104, .inl nb14)), (ql, .inl (cI, 4, .inl nl14)), (qi, .inl (cI, 24, .inl ni14)), (qo, .inl (cI, 16, .inl nu14))] := hD
              obtain ⟨e1_, e2_, e3_, e4_, e5_, e6_, e7_, e8_, e9_, e10_, e11_, e12_, e13_, e14_, e15_, e16_, e17_⟩ := lf17 hf
              subst e1_; subst e2_; subst e3_; subst e4_; subst e5_; subst e6_; subst e7_; subst e8_; subst e9_; subst e10_; subst e11_; subst e12_; subst e13_; subst e14_; subst e15_; subst e16_; subst e17_
              have hP9 := hP.sub (ws' := [(hq, .inr (3, [.ref qm, .ref qf, .ref ql, .int nc14, .int nd14, .int nf14, .int na14, .int nz14, .int no14, .int ns14, .int nv14, .int np14, .ref qi, .int nn14, .ref qo, .int nt14])), (qm, .inl (cI, 104, .inl nm14)), (qf, .inl (cI, 104, .inl nb14)), (ql, .inl (cI, 4, .inl nl14)), (qi, .inl (cI, 24, .inl ni14)), (qo, .inl (cI, 16, .inl nu14))]) [0, 1, 2, 3, 4, 5] rfl
              have hD9 := hD.sub (ws' := [(hq, .inr (3, [.ref qm, .ref qf, .ref ql, .int nc14, .int nd14, .int nf14, .int na14, .int nz14, .int no14, .int ns14, .int nv14, .int np14, .ref qi, .int nn14, .ref qo, .int nt14])), (qm, .inl (cI, 104, .inl nm14)), (qf, .inl (cI, 104, .inl nb14)), (ql, .inl (cI, 4, .inl nl14)), (qi, .inl (cI, 24, .inl ni14)), (qo, .inl (cI, 16, .inl nu14))]) [0, 1, 2, 3, 4, 5] (by decide) rfl
              exact W.iret (v := r14) hx hb hr (fun t ht hW => ⟨⟨r14, (), rfl, rfl, by rw [ht]; exact hP9, va_K.moved hW.alike hK, hD9⟩, hS.F ht⟩) hS.2.2 d_Rf_shared_168
            have hf := ifn hf hc12
            refine lv_sipush (v := 27392) hx hb d_Rf_shared_148 (by decide) ?_
            refine lv_goto (tgt := 168) hx hb d_Rf_shared_151 rfl ?_
            obtain ⟨e1_, e2_, e3_, e4_, e5_, e6_, e7_, e8_, e9_, e10_, e11_, e12_, e13_, e14_, e15_, e16_, e17_⟩ := lf17 hf
            subst e1_; subst e2_; subst e3_; subst e4_; subst e5_; subst e6_; subst e7_; subst e8_; subst e9_; subst e10_; subst e11_; subst e12_; subst e13_; subst e14_; subst e15_; subst e16_; subst e17_
            have hP9 := hP.sub (ws' := [(hq, .inr (3, [.ref qm, .ref qf, .ref ql, .int nc, .int nd, .int nf, .int na, .int nz, .int no, .int ns, .int nv, .int np, .ref qi, .int nn, .ref qo, .int nt])), (qm, .inl (cI, 104, .inl nm)), (qf, .inl (cI, 104, .inl nb)), (ql, .inl (cI, 4, .inl nl)), (qi, .inl (cI, 24, .inl ni)), (qo, .inl (cI, 16, .inl nu))]) [0, 1, 2, 3, 4, 5] rfl
            have hD9 := hD.sub (ws' := [(hq, .inr (3, [.ref qm, .ref qf, .ref ql, .int nc, .int nd, .int nf, .int na, .int nz, .int no, .int ns, .int nv, .int np, .ref qi, .int nn, .ref qo, .int nt])), (qm, .inl (cI, 104, .inl nm)), (qf, .inl (cI, 104, .inl nb)), (ql, .inl (cI, 4, .inl nl)), (qi, .inl (cI, 24, .inl ni)), (qo, .inl (cI, 16, .inl nu))]) [0, 1, 2, 3, 4, 5] (by decide) rfl
            exact W.iret (v := 27392) hx hb hr (fun t ht hW => ⟨⟨27392, (), rfl, rfl, by rw [ht]; exact hP9, va_K.moved hW.alike hK, hD9⟩, hS.F ht⟩) hS.2.2 d_Rf_shared_168
          have hf := ift hf hc9
          refine lv_sipush (v := 27010) hx hb d_Rf_shared_123 (by decide) ?_
          refine lv_goto (tgt := 168) hx hb d_Rf_shared_126 rfl ?_
          obtain ⟨e1_, e2_, e3_, e4_, e5_, e6_, e7_, e8_, e9_, e10_, e11_, e12_, e13_, e14_, e15_, e16_, e17_⟩ := lf17 hf
          subst e1_; subst e2_; subst e3_; subst e4_; subst e5_; subst e6_; subst e7_; subst e8_; subst e9_; subst e10_; subst e11_; subst e12_; subst e13_; subst e14_; subst e15_; subst e16_; subst e17_
          have hP9 := hP.sub (ws' := [(hq, .inr (3, [.ref qm, .ref qf, .ref ql, .int nc, .int nd, .int nf, .int na, .int nz, .int no, .int ns, .int nv, .int np, .ref qi, .int nn, .ref qo, .int nt])), (qm, .inl (cI, 104, .inl nm)), (qf, .inl (cI, 104, .inl nb)), (ql, .inl (cI, 4, .inl nl)), (qi, .inl (cI, 24, .inl ni)), (qo, .inl (cI, 16, .inl nu))]) [0, 1, 2, 3, 4, 5] rfl
          have hD9 := hD.sub (ws' := [(hq, .inr (3, [.ref qm, .ref qf, .ref ql, .int nc, .int nd, .int nf, .int na, .int nz, .int no, .int ns, .int nv, .int np, .ref qi, .int nn, .ref qo, .int nt])), (qm, .inl (cI, 104, .inl nm)), (qf, .inl (cI, 104, .inl nb)), (ql, .inl (cI, 4, .inl nl)), (qi, .inl (cI, 24, .inl ni)), (qo, .inl (cI, 16, .inl nu))]) [0, 1, 2, 3, 4, 5] (by decide) rfl
          exact W.iret (v := 27010) hx hb hr (fun t ht hW => ⟨⟨27010, (), rfl, rfl, by rw [ht]; exact hP9, va_K.moved hW.alike hK, hD9⟩, hS.F ht⟩) hS.2.2 d_Rf_shared_168
        have hf := ift hf hc7
        refine lv_aload_n hx hb d_Rf_shared_96 rfl (lv_at hl 4 rfl) ?_
        refine lv_iload hx hb d_Rf_shared_97 (lv_at hl 0 rfl) ?_
        refine lv_iload_n hx hb d_Rf_shared_99 rfl (lv_at hl 7 rfl) ?_
        refine lv_aload_n hx hb d_Rf_shared_100 rfl (lv_at hl 4 rfl) ?_
        refine va_get (D := (dC, dI)) (ci := 3) (v := .ref qm) (C := R_Rf) (T := F_Rf) (N := 16) hx hb hts inRf hown hK hP 0 rfl rfl 0 (by decide) kf7 (fun _ h9 => h9) rfl d_Rf_shared_101 ?_
        refine lv_iload_n hx hb d_Rf_shared_104 rfl (lv_at hl 6 rfl) ?_
        refine lv_iconst (v := 2) hx hb d_Rf_shared_105 (by decide) ?_
        refine lv_iadd hx hb d_Rf_shared_106 ?_
        obtain ⟨hin_, hf⟩ := ix_some hf
        refine va_iald hx hb hK hP 1 0 rfl rfl hin_ d_Rf_shared_107 ?_
        obtain ⟨r16, nm16, nb16, nl16, nc16, nd16, nf16, na16, nz16, no16, ns16, nv16, np16, ni16, nn16, nu16, nt16, hg, hf⟩ := bd17_some hf
        refine xci (wr := []) (ctRf_read l dC dI cI hq qm qf ql qi qo nm nb nl nc nd nf na nz no ns nv np ni nn nu nt ((16 * (((nm (a2 : Int32).toNatClampNeg) - 1) / 4)) + (nm (a2 + 1 : Int32).toNatClampNeg)) a3 (nm (a2 + 2 : Int32).toNatClampNeg) r16 nm16 nb16 nl16 nc16 nd16 nf16 na16 nz16 no16 ns16 nv16 np16 ni16 nn16 nu16 nt16 hg) ⟨hx, hb, hml, hown, hts⟩ (cwV (C := R_Rf) 3 hts (gV wq542 wq544 wq37 wq46 wq545) rfl rfl rfl (by decide +kernel) ⟨Nat.le_of_ble_eq_true rfl, Nat.le_of_ble_eq_true rfl⟩) hK hP hD hS hA [0, 1, 2, 3, 4, 5] [] rfl rfl rfl rfl (by decide) (ci := 3) (q0 := 0) rfl rfl rfl rfl hl.1 rfl (Nat.le_of_ble_eq_true rfl) d_Rf_shared_108 ⟨Nat.zero_le _, Nat.zero_le _⟩ (fun H locs hP hD hS => ?_)
        have hP : va_P (dC, dI) vwCl [(hq, .inr (3, [.ref qm, .ref qf, .ref ql, .int nc16, .int nd16, .int nf16, .int na16, .int nz16, .int no16, .int ns16, .int nv16, .int np16, .ref qi, .int nn16, .ref qo, .int nt16])), (qm, .inl (cI, 104, .inl nm16)), (qf, .inl (cI, 104, .inl nb16)), (ql, .inl (cI, 4, .inl nl16)), (qi, .inl (cI, 24, .inl ni16)), (qo, .inl (cI, 16, .inl nu16))] H := hP
        have hD : va_D A [(hq, .inr (3, [.ref qm, .ref qf, .ref ql, .int nc16, .int nd16, .int nf16, .int na16, .int nz16, .int no16, .int ns16, .int nv16, .int np16, .ref qi, .int nn16, .ref qo, .int nt16])), (qm, .inl (cI, 104, .inl nm16)), (qf, .inl (cI, 104, .inl nb16)), (ql, .inl (cI, 4, .inl nl16)), (qi, .inl (cI, 24, .inl ni16)), (qo, .inl (cI, 16, .inl nu16))] := hD
        obtain ⟨e1_, e2_, e3_, e4_, e5_, e6_, e7_, e8_, e9_, e10_, e11_, e12_, e13_, e14_, e15_, e16_, e17_⟩ := lf17 hf
        subst e1_; subst e2_; subst e3_; subst e4_; subst e5_; subst e6_; subst e7_; subst e8_; subst e9_; subst e10_; subst e11_; subst e12_; subst e13_; subst e14_; subst e15_; subst e16_; subst e17_
        have hP9 := hP.sub (ws' := [(hq, .inr (3, [.ref qm, .ref qf, .ref ql, .int nc16, .int nd16, .int nf16, .int na16, .int nz16, .int no16, .int ns16, .int nv16, .int np16, .ref qi, .int nn16, .ref qo, .int nt16])), (qm, .inl (cI, 104, .inl nm16)), (qf, .inl (cI, 104, .inl nb16)), (ql, .inl (cI, 4, .inl nl16)), (qi, .inl (cI, 24, .inl ni16)), (qo, .inl (cI, 16, .inl nu16))]) [0, 1, 2, 3, 4, 5] rfl
        have hD9 := hD.sub (ws' := [(hq, .inr (3, [.ref qm, .ref qf, .ref ql, .int nc16, .int nd16, .int nf16, .int na16, .int nz16, .int no16, .int ns16, .int nv16, .int np16, .ref qi, .int nn16, .ref qo, .int nt16])), (qm, .inl (cI, 104, .inl nm16)), (qf, .inl (cI, 104, .inl nb16)), (ql, .inl (cI, 4, .inl nl16)), (qi, .inl (cI, 24, .inl ni16)), (qo, .inl (cI, 16, .inl nu16))]) [0, 1, 2, 3, 4, 5] (by decide) rfl
        exact W.iret (v := r16) hx hb hr (fun t ht hW => ⟨⟨r16, (), rfl, rfl, by rw [ht]; exact hP9, va_K.moved hW.alike hK, hD9⟩, hS.F ht⟩) hS.2.2 d_Rf_shared_111
      have hf := ift hf hc5
      refine lv_aload_n hx hb d_Rf_shared_59 rfl (lv_at hl 3 rfl) ?_
      refine va_get (D := (dC, dI)) (ci := 3) (v := .ref qi) (C := R_Rf) (T := F_Rf) (N := 16) hx hb hts inRf hown hK hP 0 rfl rfl 12 (by decide) kf27 (fun _ h9 => h9) rfl d_Rf_shared_60 ?_
      refine lv_iconst (v := 5) hx hb d_Rf_shared_63 (by decide) ?_
      refine lv_iconst (v := 0) hx hb d_Rf_shared_64 (by decide) ?_
      obtain ⟨hin_, hf⟩ := ix_some hf
      refine va_iast hx hb hK hP hD hS 4 0 rfl rfl hin_ d_Rf_shared_65 (fun H locs hP hD hS => ?_)
      have hP : va_P (dC, dI) vwCl [(hq, .inr (3, [.ref qm, .ref qf, .ref ql, .int nc, .int nd, .int nf, .int na, .int nz, .int no, .int ns, .int nv, .int np, .ref qi, .int nn, .ref qo, .int nt])), (qm, .inl (cI, 104, .inl nm)), (qf, .inl (cI, 104, .inl nb)), (ql, .inl (cI, 4, .inl nl)), (qi, .inl (cI, 24, .inl (upd ni (5 : Int32).toNatClampNeg 0))), (qo, .inl (cI, 16, .inl nu))] H := hP
      have hD : va_D A [(hq, .inr (3, [.ref qm, .ref qf, .ref ql, .int nc, .int nd, .int nf, .int na, .int nz, .int no, .int ns, .int nv, .int np, .ref qi, .int nn, .ref qo, .int nt])), (qm, .inl (cI, 104, .inl nm)), (qf, .inl (cI, 104, .inl nb)), (ql, .inl (cI, 4, .inl nl)), (qi, .inl (cI, 24, .inl (upd ni (5 : Int32).toNatClampNeg 0))), (qo, .inl (cI, 16, .inl nu))] := hD
      refine lv_aload_n hx hb d_Rf_shared_66 rfl (lv_at hl 3 rfl) ?_
      refine lv_iload_n hx hb d_Rf_shared_67 rfl (lv_at hl 5 rfl) ?_
      refine lv_iconst (v := 1) hx hb d_Rf_shared_68 (by decide) ?_
      obtain ⟨r18, nm18, nb18, nl18, nc18, nd18, nf18, na18, nz18, no18, ns18, nv18, np18, ni18, nn18, nu18, nt18, hg, hf⟩ := bd17_some hf
      refine xci (wr := []) (ctRf_store l dC dI cI hq qm qf ql qi qo nm nb nl nc nd nf na nz no ns nv np (upd ni (5 : Int32).toNatClampNeg 0) nn nu nt a2 1 r18 nm18 nb18 nl18 nc18 nd18 nf18 na18 nz18 no18 ns18 nv18 np18 ni18 nn18 nu18 nt18 hg) ⟨hx, hb, hml, hown, hts⟩ (cwV (C := R_Rf) 2 hts (gV wq526 wq528 wq33 wq46 wq529) rfl rfl rfl (by decide +kernel) ⟨Nat.le_of_ble_eq_true rfl, Nat.le_of_ble_eq_true rfl⟩) hK hP hD hS hA [0, 1, 2, 3, 4, 5] [] rfl rfl rfl rfl (by decide) (ci := 3) (q0 := 0) rfl rfl rfl rfl hl.1 rfl (Nat.le_of_ble_eq_true rfl) d_Rf_shared_69 ⟨Nat.zero_le _, Nat.zero_le _⟩ (fun H locs hP hD hS => ?_)
      have hP : va_P (dC, dI) vwCl [(hq, .inr (3, [.ref qm, .ref qf, .ref ql, .int nc18, .int nd18, .int nf18, .int na18, .int nz18, .int no18, .int ns18, .int nv18, .int np18, .ref qi, .int nn18, .ref qo, .int nt18])), (qm, .inl (cI, 104, .inl nm18)), (qf, .inl (cI, 104, .inl nb18)), (ql, .inl (cI, 4, .inl nl18)), (qi, .inl (cI, 24, .inl ni18)), (qo, .inl (cI, 16, .inl nu18))] H := hP
      have hD : va_D A [(hq, .inr (3, [.ref qm, .ref qf, .ref ql, .int nc18, .int nd18, .int nf18, .int na18, .int nz18, .int no18, .int ns18, .int nv18, .int np18, .ref qi, .int nn18, .ref qo, .int nt18])), (qm, .inl (cI, 104, .inl nm18)), (qf, .inl (cI, 104, .inl nb18)), (ql, .inl (cI, 4, .inl nl18)), (qi, .inl (cI, 24, .inl ni18)), (qo, .inl (cI, 16, .inl nu18))] := hD
      obtain ⟨e1_, e2_, e3_, e4_, e5_, e6_, e7_, e8_, e9_, e10_, e11_, e12_, e13_, e14_, e15_, e16_, e17_⟩ := lf17 hf
      subst e1_; subst e2_; subst e3_; subst e4_; subst e5_; subst e6_; subst e7_; subst e8_; subst e9_; subst e10_; subst e11_; subst e12_; subst e13_; subst e14_; subst e15_; subst e16_; subst e17_
      have hP9 := hP.sub (ws' := [(hq, .inr (3, [.ref qm, .ref qf, .ref ql, .int nc18, .int nd18, .int nf18, .int na18, .int nz18, .int no18, .int ns18, .int nv18, .int np18, .ref qi, .int nn18, .ref qo, .int nt18])), (qm, .inl (cI, 104, .inl nm18)), (qf, .inl (cI, 104, .inl nb18)), (ql, .inl (cI, 4, .inl nl18)), (qi, .inl (cI, 24, .inl ni18)), (qo, .inl (cI, 16, .inl nu18))]) [0, 1, 2, 3, 4, 5] rfl
      have hD9 := hD.sub (ws' := [(hq, .inr (3, [.ref qm, .ref qf, .ref ql, .int nc18, .int nd18, .int nf18, .int na18, .int nz18, .int no18, .int ns18, .int nv18, .int np18, .ref qi, .int nn18, .ref qo, .int nt18])), (qm, .inl (cI, 104, .inl nm18)), (qf, .inl (cI, 104, .inl nb18)), (ql, .inl (cI, 4, .inl nl18)), (qi, .inl (cI, 24, .inl ni18)), (qo, .inl (cI, 16, .inl nu18))]) [0, 1, 2, 3, 4, 5] (by decide) rfl
      exact W.iret (v := r18) hx hb hr (fun t ht hW => ⟨⟨r18, (), rfl, rfl, by rw [ht]; exact hP9, va_K.moved hW.alike hK, hD9⟩, hS.F ht⟩) hS.2.2 d_Rf_shared_72
    have hf := ifn hf hc4
    refine lv_sipush (v := 27272) hx hb d_Rf_shared_48 (by decide) ?_
    obtain ⟨e1_, e2_, e3_, e4_, e5_, e6_, e7_, e8_, e9_, e10_, e11_, e12_, e13_, e14_, e15_, e16_, e17_⟩ := lf17 hf
    subst e1_; subst e2_; subst e3_; subst e4_; subst e5_; subst e6_; subst e7_; subst e8_; subst e9_; subst e10_; subst e11_; subst e12_; subst e13_; subst e14_; subst e15_; subst e16_; subst e17_
    have hP9 := hP.sub (ws' := [(hq, .inr (3, [.ref qm, .ref qf, .ref ql, .int nc, .int nd, .int nf, .int na, .int nz, .int no, .int ns, .int nv, .int np, .ref qi, .int nn, .ref qo, .int nt])), (qm, .inl (cI, 104, .inl nm)), (qf, .inl (cI, 104, .inl nb)), (ql, .inl (cI, 4, .inl nl)), (qi, .inl (cI, 24, .inl ni)), (qo, .inl (cI, 16, .inl nu))]) [0, 1, 2, 3, 4, 5] rfl
    have hD9 := hD.sub (ws' := [(hq, .inr (3, [.ref qm, .ref qf, .ref ql, .int nc, .int nd, .int nf, .int na, .int nz, .int no, .int ns, .int nv, .int np, .ref qi, .int nn, .ref qo, .int nt])), (qm, .inl (cI, 104, .inl nm)), (qf, .inl (cI, 104, .inl nb)), (ql, .inl (cI, 4, .inl nl)), (qi, .inl (cI, 24, .inl ni)), (qo, .inl (cI, 16, .inl nu))]) [0, 1, 2, 3, 4, 5] (by decide) rfl
    exact W.iret (v := 27272) hx hb hr (fun t ht hW => ⟨⟨27272, (), rfl, rfl, by rw [ht]; exact hP9, va_K.moved hW.alike hK, hD9⟩, hS.F ht⟩) hS.2.2 d_Rf_shared_51
  have hf := ift hf hc2
  refine lv_iload hx hb d_Rf_shared_23 (lv_at hl 0 rfl) ?_
  refine lv_goto (tgt := 32) hx hb d_Rf_shared_25 rfl ?_
  refine lv_istore hx hb d_Rf_shared_32 hl (by decide) rfl (fun ls hl => ?_)
  have hl : lv_has ls 8 [(6, .int (((nm (a2 : Int32).toNatClampNeg) - 1) / 4)), (5, .int (((nm (a2 : Int32).toNatClampNeg) - 1) / 4)), (4, .int ((nm (a2 : Int32).toNatClampNeg) - 1)), (0, .ref hq), (1, .int a1), (2, .int a2), (3, .int a3)] := hl
  refine lv_iload hx hb d_Rf_shared_34 (lv_at hl 2 rfl) ?_
  refine lv_if_lt (tgt := 48) hx hb d_Rf_shared_36 rfl (fun hc19 => ?_) (fun hc19 => ?_)
  · have hf := ift hf hc19
    refine lv_sipush (v := 27272) hx hb d_Rf_shared_48 (by decide) ?_
    obtain ⟨e1_, e2_, e3_, e4_, e5_, e6_, e7_, e8_, e9_, e10_, e11_, e12_, e13_, e14_, e15_, e16_, e17_⟩ := lf17 hf
    subst e1_; subst e2_; subst e3_; subst e4_; subst e5_; subst e6_; subst e7_; subst e8_; subst e9_; subst e10_; subst e11_; subst e12_; subst e13_; subst e14_; subst e15_; subst e16_; subst e17_
    have hP9 := hP.sub (ws' := [(hq, .inr (3, [.ref qm, .ref qf, .ref ql, .int nc, .int nd, .int nf, .int na, .int nz, .int no, .int ns, .int nv, .int np, .ref qi, .int nn, .ref qo, .int nt])), (qm, .inl (cI, 104, .inl nm)), (qf, .inl (cI, 104, .inl nb)), (ql, .inl (cI, 4, .inl nl)), (qi, .inl (cI, 24, .inl ni)), (qo, .inl (cI, 16, .inl nu))]) [0, 1, 2, 3, 4, 5] rfl
    have hD9 := hD.sub (ws' := [(hq, .inr (3, [.ref qm, .ref qf, .ref ql, .int nc, .int nd, .int nf, .int na, .int nz, .int no, .int ns, .int nv, .int np, .ref qi, .int nn, .ref qo, .int nt])), (qm, .inl (cI, 104, .inl nm)), (qf, .inl (cI, 104, .inl nb)), (ql, .inl (cI, 4, .inl nl)), (qi, .inl (cI, 24, .inl ni)), (qo, .inl (cI, 16, .inl nu))]) [0, 1, 2, 3, 4, 5] (by decide) rfl
    exact W.iret (v := 27272) hx hb hr (fun t ht hW => ⟨⟨27272, (), rfl, rfl, by rw [ht]; exact hP9, va_K.moved hW.alike hK, hD9⟩, hS.F ht⟩) hS.2.2 d_Rf_shared_51
  have hf := ifn hf hc19
  refine lv_iload hx hb d_Rf_shared_39 (lv_at hl 0 rfl) ?_
  refine lv_aload_n hx hb d_Rf_shared_41 rfl (lv_at hl 3 rfl) ?_
  refine va_get (D := (dC, dI)) (ci := 3) (v := .int ns) (C := R_Rf) (T := F_Rf) (N := 16) hx hb hts inRf hown hK hP 0 rfl rfl 9 (by decide) kf23 (fun _ h9 => h9) rfl d_Rf_shared_42 ?_
  refine lv_icmp_eq (tgt := 52) hx hb d_Rf_shared_45 rfl (fun hc20 => ?_) (fun hc20 => ?_)
  · have hf := ift hf hc20
    refine lv_iload_n hx hb d_Rf_shared_52 rfl (lv_at hl 4 rfl) ?_
    refine lv_sipush (v := 228) hx hb d_Rf_shared_53 (by decide) ?_
    refine lv_icmp_ne (tgt := 73) hx hb d_Rf_shared_56 rfl (fun hc21 => ?_) (fun hc21 => ?_)
    · have hf := ifn hf hc21
      refine lv_bipush (v := 16) hx hb d_Rf_shared_73 (by decide) ?_
      refine lv_iload hx hb d_Rf_shared_75 (lv_at hl 1 rfl) ?_
      refine lv_imul hx hb d_Rf_shared_77 ?_
      refine lv_aload_n hx hb d_Rf_shared_78 rfl (lv_at hl 3 rfl) ?_
      refine va_get (D := (dC, dI)) (ci := 3) (v := .ref qm) (C := R_Rf) (T := F_Rf) (N := 16) hx hb hts inRf hown hK hP 0 rfl rfl 0 (by decide) kf7 (fun _ h9 => h9) rfl d_Rf_shared_79 ?_
      refine lv_iload_n hx hb d_Rf_shared_82 rfl (lv_at hl 5 rfl) ?_
      refine lv_iconst (v := 1) hx hb d_Rf_shared_83 (by decide) ?_
      refine lv_iadd hx hb d_Rf_shared_84 ?_
      obtain ⟨hin_, hf⟩ := ix_some hf
      refine va_iald hx hb hK hP 1 0 rfl rfl hin_ d_Rf_shared_85 ?_
      refine lv_iadd hx hb d_Rf_shared_86 ?_
      refine lv_istore hx hb d_Rf_shared_87 hl (by decide) rfl (fun ls hl => ?_)
      have hl : lv_has ls 8 [(7, .int ((16 * (((nm (a2 : Int32).toNatClampNeg) - 1) / 4)) + (nm (a2 + 1 : Int32).toNatClampNeg))), (6, .int (((nm (a2 : Int32).toNatClampNeg) - 1) / 4)), (5, .int (((nm (a2 : Int32).toNatClampNeg) - 1) / 4)), (4, .int ((nm (a2 : Int32).toNatClampNeg) - 1)), (0, .ref hq), (1, .int a1), (2, .int a2), (3, .int a3)] := hl
      refine lv_iload_n hx hb d_Rf_shared_89 rfl (lv_at hl 5 rfl) ?_
      refine lv_sipush (v := 178) hx hb d_Rf_shared_90 (by decide) ?_
      refine lv_icmp_ne (tgt := 112) hx hb d_Rf_shared_93 rfl (fun hc23 => ?_) (fun hc23 => ?_)
      · have hf := ifn hf hc23
        refine lv_aload_n hx hb d_Rf_shared_112 rfl (lv_at hl 4 rfl) ?_
        refine va_get (D := (dC, dI)) (ci := 3) (v := .ref qm) (C := R_Rf) (T := F_Rf) (N := 16) hx hb hts inRf hown hK hP 0 rfl rfl 0 (by decide) kf7 (fun _ h9 => h9) rfl d_Rf_shared_113 ?_
        refine lv_iload_n hx hb d_Rf_shared_116 rfl (lv_at hl 6 rfl) ?_
        refine lv_iconst (v := 3) hx hb d_Rf_shared_117 (by decide) ?_
        refine lv_iadd hx hb d_Rf_shared_118 ?_
        obtain ⟨hin_, hf⟩ := ix_some hf
        refine va_iald hx hb hK hP 1 0 rfl rfl hin_ d_Rf_shared_119 ?_
        refine lv_if_ne (tgt := 129) hx hb d_Rf_shared_120 rfl (fun hc25 => ?_) (fun hc25 => ?_)
        · have hf := ifn hf hc25
          refine lv_iload_n hx hb d_Rf_shared_129 rfl (lv_at hl 7 rfl) ?_
          refine lv_aload_n hx hb d_Rf_shared_130 rfl (lv_at hl 4 rfl) ?_
          refine va_get (D := (dC, dI)) (ci := 3) (v := .ref qi) (C := R_Rf) (T := F_Rf) (N := 16) hx hb hts inRf hown hK hP 0 rfl rfl 12 (by decide) kf27 (fun _ h9 => h9) rfl d_Rf_shared_131 ?_
          refine lv_iconst (v := 4) hx hb d_Rf_shared_134 (by decide) ?_
          obtain ⟨hin_, hf⟩ := ix_some hf
          refine va_iald hx hb hK hP 4 0 rfl rfl hin_ d_Rf_shared_135 ?_
          refine lv_iadd hx hb d_Rf_shared_136 ?_
          refine lv_aload_n hx hb d_Rf_shared_137 rfl (lv_at hl 4 rfl) ?_
          refine va_get (D := (dC, dI)) (ci := 3) (v := .ref qm) (C := R_Rf) (T := F_Rf) (N := 16) hx hb hts inRf hown hK hP 0 rfl rfl 0 (by decide) kf7 (fun _ h9 => h9) rfl d_Rf_shared_138 ?_
          refine lv_iload_n hx hb d_Rf_shared_141 rfl (lv_at hl 6 rfl) ?_
          refine lv_iconst (v := 2) hx hb d_Rf_shared_142 (by decide) ?_
          refine lv_iadd hx hb d_Rf_shared_143 ?_
          obtain ⟨hin_, hf⟩ := ix_some hf
          refine va_iald hx hb hK hP 1 0 rfl rfl hin_ d_Rf_shared_144 ?_
          refine lv_icmp_le (tgt := 154) hx hb d_Rf_shared_145 rfl (fun hc28 => ?_) (fun hc28 => ?_)
          · have hf := ift hf hc28
            refine lv_aload_n hx hb d_Rf_shared_154 rfl (lv_at hl 4 rfl) ?_
            refine lv_iload hx hb d_Rf_shared_155 (lv_at hl 0 rfl) ?_
            refine lv_iload_n hx hb d_Rf_shared_157 rfl (lv_at hl 7 rfl) ?_
            refine lv_iadd hx hb d_Rf_shared_158 ?_
            refine lv_aload_n hx hb d_Rf_shared_159 rfl (lv_at hl 4 rfl) ?_
            refine va_get (D := (dC, dI)) (ci := 3) (v := .ref qi) (C := R_Rf) (T := F_Rf) (N := 16) hx hb hts inRf hown hK hP 0 rfl rfl 12 (by decide) kf27 (fun _ h9 => h9) rfl d_Rf_shared_160 ?_
            refine lv_iconst (v := 4) hx hb d_Rf_shared_163 (by decide) ?_
            obtain ⟨hin_, hf⟩ := ix_some hf
            refine va_iald hx hb hK hP 4 0 rfl rfl hin_ d_Rf_shared_164 ?_
            obtain ⟨r30, nm30, nb30, nl30, nc30, nd30, nf30, na30, nz30, no30, ns30, nv30, np30, ni30, nn30, nu30, nt30, hg, hf⟩ := bd17_some hf
            refine xci (wr := []) (ctRf_store l dC dI cI hq qm qf ql qi qo nm nb nl nc nd nf na nz no ns nv np ni nn nu nt (((16 * (((nm (a2 : Int32).toNatClampNeg) - 1) / 4)) + (nm (a2 + 1 : Int32).toNatClampNeg)) + a3) (ni (4 : Int32).toNatClampNeg) r30 nm30 nb30 nl30 nc30 nd30 nf30 na30 nz30 no30 ns30 nv30 np30 ni30 nn30 nu30 nt30 hg) ⟨hx, hb, hml, hown, hts⟩ (cwV (C := R_Rf) 2 hts (gV wq526 wq528 wq33 wq46 wq529) rfl rfl rfl (by decide +kernel) ⟨Nat.le_of_ble_eq_true rfl, Nat.le_of_ble_eq_true rfl⟩) hK hP hD hS hA [0, 1, 2, 3, 4, 5] [] rfl rfl rfl rfl (by decide) (ci := 3) (q0 := 0) rfl rfl rfl rfl hl.1 rfl (Nat.le_of_ble_eq_true rfl) d_Rf_shared_165 ⟨Nat.zero_le _, Nat.zero_le _⟩ (fun H locs hP hD hS => ?_)
            have hP : va_P (dC, dI) vwCl [(hq, .inr (3, [.ref qm, .ref qf, .ref ql, .int nc30, .int nd30, .int nf30, .int na30, .int nz30, .int no30, .int ns30, .int nv30, .int np30, .ref qi, .int nn30, .ref qo, .int nt30])), (qm, .inl (cI, 104, .inl nm30)), (qf, .inl (cI, 104, .inl nb30)), (ql, .inl (cI, 4, .inl nl30)), (qi, .inl (cI, 24, .inl ni30)), (qo, .inl (cI, 16, .inl nu30))] H := hP
            have hD : va_D A [(hq, .inr (3, [.ref qm, .ref qf, .ref ql, .int nc30, .int nd30, .int nf30, .int na30, .int nz30, .int no30, .int ns30, .int nv30, .int np30, .ref qi, .int nn30, .ref qo, .int nt30])), (qm, .inl (cI, 104, .inl nm30)), (qf, .inl (cI, 104, .inl nb30)), (ql, .inl (cI, 4, .inl nl30)), (qi, .inl (cI, 24, .inl ni30)), (qo, .inl (cI, 16, .inl nu30))] := hD
            obtain ⟨e1_, e2_, e3_, e4_, e5_, e6_, e7_, e8_, e9_, e10_, e11_, e12_, e13_, e14_, e15_, e16_, e17_⟩ := lf17 hf
            subst e1_; subst e2_; subst e3_; subst e4_; subst e5_; subst e6_; subst e7_; subst e8_; subst e9_; subst e10_; subst e11_; subst e12_; subst e13_; subst e14_; subst e15_; subst e16_; subst e17_
            have hP9 := hP.sub (ws' := [(hq, .inr (3, [.ref qm, .ref qf, .ref ql, .int nc30, .int nd30, .int nf30, .int na30, .int nz30, .int no30, .int ns30, .int nv30, .int np30, .ref qi, .int nn30, .ref qo, .int nt30])), (qm, .inl (cI, 104, .inl nm30)), (qf, .inl (cI, 104, .inl nb30)), (ql, .inl (cI, 4, .inl nl30)), (qi, .inl (cI, 24, .inl ni30)), (qo, .inl (cI, 16, .inl nu30))]) [0, 1, 2, 3, 4, 5] rfl
            have hD9 := hD.sub (ws' := [(hq, .inr (3, [.ref qm, .ref qf, .ref ql, .int nc30, .int nd30, .int nf30, .int na30, .int nz30, .int no30, .int ns30, .int nv30, .int np30, .ref qi, .int nn30, .ref qo, .int nt30])), (qm, .inl (cI, 104, .inl nm30)), (qf, .inl (cI, 104, .inl nb30)), (ql, .inl (cI, 4, .inl nl30)), (qi, .inl (cI, 24, .inl ni30)), (qo, .inl (cI, 16, .inl nu30))]) [0, 1, 2, 3, 4, 5] (by decide) rfl
            exact W.iret (v := r30) hx hb hr (fun t ht hW => ⟨⟨r30, (), rfl, rfl, by rw [ht]; exact hP9, va_K.moved hW.alike hK, hD9⟩, hS.F ht⟩) hS.2.2 d_Rf_shared_168
          have hf := ifn hf hc28
          refine lv_sipush (v := 27392) hx hb d_Rf_shared_148 (by decide) ?_
          refine lv_goto (tgt := 168) hx hb d_Rf_shared_151 rfl ?_
          obtain ⟨e1_, e2_, e3_, e4_, e5_, e6_, e7_, e8_, e9_, e10_, e11_, e12_, e13_, e14_, e15_, e16_, e17_⟩ := lf17 hf
          subst e1_; subst e2_; subst e3_; subst e4_; subst e5_; subst e6_; subst e7_; subst e8_; subst e9_; subst e10_; subst e11_; subst e12_; subst e13_; subst e14_; subst e15_; subst e16_; subst e17_
          have hP9 := hP.sub (ws' := [(hq, .inr (3, [.ref qm, .ref qf, .ref ql, .int nc, .int nd, .int nf, .int na, .int nz, .int no, .int ns, .int nv, .int np, .ref qi, .int nn, .ref qo, .int nt])), (qm, .inl (cI, 104, .inl nm)), (qf, .inl (cI, 104, .inl nb)), (ql, .inl (cI, 4, .inl nl)), (qi, .inl (cI, 24, .inl ni)), (qo, .inl (cI, 16, .inl nu))]) [0, 1, 2, 3, 4, 5] rfl
          have hD9 := hD.sub (ws' := [(hq, .inr (3, [.ref qm, .ref qf, .ref ql, .int nc, .int nd, .int nf, .int na, .int nz, .int no, .int ns, .int nv, .int np, .ref qi, .int nn, .ref qo, .int nt])), (qm, .inl (cI, 104, .inl nm)), (qf, .inl (cI, 104, .inl nb)), (ql, .inl (cI, 4, .inl nl)), (qi, .inl (cI, 24, .inl ni)), (qo, .inl (cI, 16, .inl nu))]) [0, 1, 2, 3, 4, 5] (by decide) rfl
          exact W.iret (v := 27392) hx hb hr (fun t ht hW => ⟨⟨27392, (), rfl, rfl, by rw [ht]; exact hP9, va_K.moved hW.alike hK, hD9⟩, hS.F ht⟩) hS.2.2 d_Rf_shared_168
        have hf := ift hf hc25
        refine lv_sipush (v := 27010) hx hb d_Rf_shared_123 (by decide) ?_
        refine lv_goto (tgt := 168) hx hb d_Rf_shared_126 rfl ?_
        obtain ⟨e1_, e2_, e3_, e4_, e5_, e6_, e7_, e8_, e9_, e10_, e11_, e12_, e13_, e14_, e15_, e16_, e17_⟩ := lf17 hf
        subst e1_; subst e2_; subst e3_; subst e4_; subst e5_; subst e6_; subst e7_; subst e8_; subst e9_; subst e10_; subst e11_; subst e12_; subst e13_; subst e14_; subst e15_; subst e16_; subst e17_
        have hP9 := hP.sub (ws' := [(hq, .inr (3, [.ref qm, .ref qf, .ref ql, .int nc, .int nd, .int nf, .int na, .int nz, .int no, .int ns, .int nv, .int np, .ref qi, .int nn, .ref qo, .int nt])), (qm, .inl (cI, 104, .inl nm)), (qf, .inl (cI, 104, .inl nb)), (ql, .inl (cI, 4, .inl nl)), (qi, .inl (cI, 24, .inl ni)), (qo, .inl (cI, 16, .inl nu))]) [0, 1, 2, 3, 4, 5] rfl
        have hD9 := hD.sub (ws' := [(hq, .inr (3, [.ref qm, .ref qf, .ref ql, .int nc, .int nd, .int nf, .int na, .int nz, .int no, .int ns, .int nv, .int np, .ref qi, .int nn, .ref qo, .int nt])), (qm, .inl (cI, 104, .inl nm)), (qf, .inl (cI, 104, .inl nb)), (ql, .inl (cI, 4, .inl nl)), (qi, .inl (cI, 24, .inl ni)), (qo, .inl (cI, 16, .inl nu))]) [0, 1, 2, 3, 4, 5] (by decide) rfl
        exact W.iret (v := 27010) hx hb hr (fun t ht hW => ⟨⟨27010, (), rfl, rfl, by rw [ht]; exact hP9, va_K.moved hW.alike hK, hD9⟩, hS.F ht⟩) hS.2.2 d_Rf_shared_168
      have hf := ift hf hc23
      refine lv_aload_n hx hb d_Rf_shared_96 rfl (lv_at hl 4 rfl) ?_
      refine lv_iload hx hb d_Rf_shared_97 (lv_at hl 0 rfl) ?_
      refine lv_iload_n hx hb d_Rf_shared_99 rfl (lv_at hl 7 rfl) ?_
      refine lv_aload_n hx hb d_Rf_shared_100 rfl (lv_at hl 4 rfl) ?_
      refine va_get (D := (dC, dI)) (ci := 3) (v := .ref qm) (C := R_Rf) (T := F_Rf) (N := 16) hx hb hts inRf hown hK hP 0 rfl rfl 0 (by decide) kf7 (fun _ h9 => h9) rfl d_Rf_shared_101 ?_
      refine lv_iload_n hx hb d_Rf_shared_104 rfl (lv_at hl 6 rfl) ?_
      refine lv_iconst (v := 2) hx hb d_Rf_shared_105 (by decide) ?_
      refine lv_iadd hx hb d_Rf_shared_106 ?_
      obtain ⟨hin_, hf⟩ := ix_some hf
      refine va_iald hx hb hK hP 1 0 rfl rfl hin_ d_Rf_shared_107 ?_
      obtain ⟨r32, nm32, nb32, nl32, nc32, nd32, nf32, na32, nz32, no32, ns32, nv32, np32, ni32, nn32, nu32, nt32, hg, hf⟩ := bd17_some hf
      refine xci (wr := []) (ctRf_read l dC dI cI hq qm qf ql qi qo nm nb nl nc nd nf na nz no ns nv np ni nn nu nt ((16 * (((nm (a2 : Int32).toNatClampNeg) - 1) / 4)) + (nm (a2 + 1 : Int32).toNatClampNeg)) a3 (nm (a2 + 2 : Int32).toNatClampNeg) r32 nm32 nb32 nl32 nc32 nd32 nf32 na32 nz32 no32 ns32 nv32 np32 ni32 nn32 nu32 nt32 hg) ⟨hx, hb, hml, hown, hts⟩ (cwV (C := R_Rf) 3 hts (gV wq542 wq544 wq37 wq46 wq545) rfl rfl rfl (by decide +kernel) ⟨Nat.le_of_ble_eq_true rfl, Nat.le_of_ble_eq_true rfl⟩) hK hP hD hS hA [0, 1, 2, 3, 4, 5] [] rfl rfl rfl rfl (by decide) (ci := 3) (q0 := 0) rfl rfl rfl rfl hl.1 rfl (Nat.le_of_ble_eq_true rfl) d_Rf_shared_108 ⟨Nat.zero_le _, Nat.zero_le _⟩ (fun H locs hP hD hS => ?_)
      have hP : va_P (dC, dI) vwCl [(hq, .inr (3, [.ref qm, .ref qf, .ref ql, .int nc32, .int nd32, .int nf32, .int na32, .int nz32, .int no32, .int ns32, .int nv32, .int np32, .ref qi, .int nn32, .ref qo, .int nt32])), (qm, .inl (cI, 104, .inl nm32)), (qf, .inl (cI, 104, .inl nb32)), (ql, .inl (cI, 4, .inl nl32)), (qi, .inl (cI, 24, .inl ni32)), (qo, .inl (cI, 16, .inl nu32))] H := hP
      have hD : va_D A [(hq, .inr (3, [.ref qm, .ref qf, .ref ql, .int nc32, .int nd32, .int nf32, .int na32, .int nz32, .int no32, .int ns32, .int nv32, .int np32, .ref qi, .int nn32, .ref qo, .int nt32])), (qm, .inl (cI, 104, .inl nm32)), (qf, .inl (cI, 104, .inl nb32)), (ql, .inl (cI, 4, .inl nl32)), (qi, .inl (cI, 24, .inl ni32)), (qo, .inl (cI, 16, .inl nu32))] := hD
      obtain ⟨e1_, e2_, e3_, e4_, e5_, e6_, e7_, e8_, e9_, e10_, e11_, e12_, e13_, e14_, e15_, e16_, e17_⟩ := lf17 hf
      subst e1_; subst e2_; subst e3_; subst e4_; subst e5_; subst e6_; subst e7_; subst e8_; subst e9_; subst e10_; subst e11_; subst e12_; subst e13_; subst e14_; subst e15_; subst e16_; subst e17_
      have hP9 := hP.sub (ws' := [(hq, .inr (3, [.ref qm, .ref qf, .ref ql, .int nc32, .int nd32, .int nf32, .int na32, .int nz32, .int no32, .int ns32, .int nv32, .int np32, .ref qi, .int nn32, .ref qo, .int nt32])), (qm, .inl (cI, 104, .inl nm32)), (qf, .inl (cI, 104, .inl nb32)), (ql, .inl (cI, 4, .inl nl32)), (qi, .inl (cI, 24, .inl ni32)), (qo, .inl (cI, 16, .inl nu32))]) [0, 1, 2, 3, 4, 5] rfl
      have hD9 := hD.sub (ws' := [(hq, .inr (3, [.ref qm, .ref qf, .ref ql, .int nc32, .int nd32, .int nf32, .int na32, .int nz32, .int no32, .int ns32, .int nv32, .int np32, .ref qi, .int nn32, .ref qo, .int nt32])), (qm, .inl (cI, 104, .inl nm32)), (qf, .inl (cI, 104, .inl nb32)), (ql, .inl (cI, 4, .inl nl32)), (qi, .inl (cI, 24, .inl ni32)), (qo, .inl (cI, 16, .inl nu32))]) [0, 1, 2, 3, 4, 5] (by decide) rfl
      exact W.iret (v := r32) hx hb hr (fun t ht hW => ⟨⟨r32, (), rfl, rfl, by rw [ht]; exact hP9, va_K.moved hW.alike hK, hD9⟩, hS.F ht⟩) hS.2.2 d_Rf_shared_111
    have hf := ift hf hc21
    refine lv_aload_n hx hb d_Rf_shared_59 rfl (lv_at hl 3 rfl) ?_
    refine va_get (D := (dC, dI)) (ci := 3) (v := .ref qi) (C := R_Rf) (T := F_Rf) (N := 16) hx hb hts inRf hown hK hP 0 rfl rfl 12 (by decide) kf27 (fun _ h9 => h9) rfl d_Rf_shared_60 ?_
    refine lv_iconst (v := 5) hx hb d_Rf_shared_63 (by decide) ?_
    refine lv_iconst (v := 0) hx hb d_Rf_shared_64 (by decide) ?_
    obtain ⟨hin_, hf⟩ := ix_some hf
    refine va_iast hx hb hK hP hD hS 4 0 rfl rfl hin_ d_Rf_shared_65 (fun H locs hP hD hS => ?_)
    have hP : va_P (dC, dI) vwCl [(hq, .inr (3, [.ref qm, .ref qf, .ref ql, .int nc, .int nd, .int nf, .int na, .int nz, .int no, .int ns, .int nv, .int np, .ref qi, .int nn, .ref qo, .int nt])), (qm, .inl (cI, 104, .inl nm)), (qf, .inl (cI, 104, .inl nb)), (ql, .inl (cI, 4, .inl nl)), (qi, .inl (cI, 24, .inl (upd ni (5 : Int32).toNatClampNeg 0))), (qo, .inl (cI, 16, .inl nu))] H := hP
    have hD : va_D A [(hq, .inr (3, [.ref qm, .ref qf, .ref ql, .int nc, .int nd, .int nf, .int na, .int nz, .int no, .int ns, .int nv, .int np, .ref qi, .int nn, .ref qo, .int nt])), (qm, .inl (cI, 104, .inl nm)), (qf, .inl (cI, 104, .inl nb)), (ql, .inl (cI, 4, .inl nl)), (qi, .inl (cI, 24, .inl (upd ni (5 : Int32).toNatClampNeg 0))), (qo, .inl (cI, 16, .inl nu))] := hD
    refine lv_aload_n hx hb d_Rf_shared_66 rfl (lv_at hl 3 rfl) ?_
    refine lv_iload_n hx hb d_Rf_shared_67 rfl (lv_at hl 5 rfl) ?_
    refine lv_iconst (v := 1) hx hb d_Rf_shared_68 (by decide) ?_
    obtain ⟨r34, nm34, nb34, nl34, nc34, nd34, nf34, na34, nz34, no34, ns34, nv34, np34, ni34, nn34, nu34, nt34, hg, hf⟩ := bd17_some hf
    refine xci (wr := []) (ctRf_store l dC dI cI hq qm qf ql qi qo nm nb nl nc nd nf na nz no ns nv np (upd ni (5 : Int32).toNatClampNeg 0) nn nu nt a2 1 r34 nm34 nb34 nl34 nc34 nd34 nf34 na34 nz34 no34 ns34 nv34 np34 ni34 nn34 nu34 nt34 hg) ⟨hx, hb, hml, hown, hts⟩ (cwV (C := R_Rf) 2 hts (gV wq526 wq528 wq33 wq46 wq529) rfl rfl rfl (by decide +kernel) ⟨Nat.le_of_ble_eq_true rfl, Nat.le_of_ble_eq_true rfl⟩) hK hP hD hS hA [0, 1, 2, 3, 4, 5] [] rfl rfl rfl rfl (by decide) (ci := 3) (q0 := 0) rfl rfl rfl rfl hl.1 rfl (Nat.le_of_ble_eq_true rfl) d_Rf_shared_69 ⟨Nat.zero_le _, Nat.zero_le _⟩ (fun H locs hP hD hS => ?_)
    have hP : va_P (dC, dI) vwCl [(hq, .inr (3, [.ref qm, .ref qf, .ref ql, .int nc34, .int nd34, .int nf34, .int na34, .int nz34, .int no34, .int ns34, .int nv34, .int np34, .ref qi, .int nn34, .ref qo, .int nt34])), (qm, .inl (cI, 104, .inl nm34)), (qf, .inl (cI, 104, .inl nb34)), (ql, .inl (cI, 4, .inl nl34)), (qi, .inl (cI, 24, .inl ni34)), (qo, .inl (cI, 16, .inl nu34))] H := hP
    have hD : va_D A [(hq, .inr (3, [.ref qm, .ref qf, .ref ql, .int nc34, .int nd34, .int nf34, .int na34, .int nz34, .int no34, .int ns34, .int nv34, .int np34, .ref qi, .int nn34, .ref qo, .int nt34])), (qm, .inl (cI, 104, .inl nm34)), (qf, .inl (cI, 104, .inl nb34)), (ql, .inl (cI, 4, .inl nl34)), (qi, .inl (cI, 24, .inl ni34)), (qo, .inl (cI, 16, .inl nu34))] := hD
    obtain ⟨e1_, e2_, e3_, e4_, e5_, e6_, e7_, e8_, e9_, e10_, e11_, e12_, e13_, e14_, e15_, e16_, e17_⟩ := lf17 hf
    subst e1_; subst e2_; subst e3_; subst e4_; subst e5_; subst e6_; subst e7_; subst e8_; subst e9_; subst e10_; subst e11_; subst e12_; subst e13_; subst e14_; subst e15_; subst e16_; subst e17_
    have hP9 := hP.sub (ws' := [(hq, .inr (3, [.ref qm, .ref qf, .ref ql, .int nc34, .int nd34, .int nf34, .int na34, .int nz34, .int no34, .int ns34, .int nv34, .int np34, .ref qi, .int nn34, .ref qo, .int nt34])), (qm, .inl (cI, 104, .inl nm34)), (qf, .inl (cI, 104, .inl nb34)), (ql, .inl (cI, 4, .inl nl34)), (qi, .inl (cI, 24, .inl ni34)), (qo, .inl (cI, 16, .inl nu34))]) [0, 1, 2, 3, 4, 5] rfl
    have hD9 := hD.sub (ws' := [(hq, .inr (3, [.ref qm, .ref qf, .ref ql, .int nc34, .int nd34, .int nf34, .int na34, .int nz34, .int no34, .int ns34, .int nv34, .int np34, .ref qi, .int nn34, .ref qo, .int nt34])), (qm, .inl (cI, 104, .inl nm34)), (qf, .inl (cI, 104, .inl nb34)), (ql, .inl (cI, 4, .inl nl34)), (qi, .inl (cI, 24, .inl ni34)), (qo, .inl (cI, 16, .inl nu34))]) [0, 1, 2, 3, 4, 5] (by decide) rfl
    exact W.iret (v := r34) hx hb hr (fun t ht hW => ⟨⟨r34, (), rfl, rfl, by rw [ht]; exact hP9, va_K.moved hW.alike hK, hD9⟩, hS.F ht⟩) hS.2.2 d_Rf_shared_72
  have hf := ifn hf hc20
  refine lv_sipush (v := 27272) hx hb d_Rf_shared_48 (by decide) ?_
  obtain ⟨e1_, e2_, e3_, e4_, e5_, e6_, e7_, e8_, e9_, e10_, e11_, e12_, e13_, e14_, e15_, e16_, e17_⟩ := lf17 hf
  subst e1_; subst e2_; subst e3_; subst e4_; subst e5_; subst e6_; subst e7_; subst e8_; subst e9_; subst e10_; subst e11_; subst e12_; subst e13_; subst e14_; subst e15_; subst e16_; subst e17_
  have hP9 := hP.sub (ws' := [(hq, .inr (3, [.ref qm, .ref qf, .ref ql, .int nc, .int nd, .int nf, .int na, .int nz, .int no, .int ns, .int nv, .int np, .ref qi, .int nn, .ref qo, .int nt])), (qm, .inl (cI, 104, .inl nm)), (qf, .inl (cI, 104, .inl nb)), (ql, .inl (cI, 4, .inl nl)), (qi, .inl (cI, 24, .inl ni)), (qo, .inl (cI, 16, .inl nu))]) [0, 1, 2, 3, 4, 5] rfl
  have hD9 := hD.sub (ws' := [(hq, .inr (3, [.ref qm, .ref qf, .ref ql, .int nc, .int nd, .int nf, .int na, .int nz, .int no, .int ns, .int nv, .int np, .ref qi, .int nn, .ref qo, .int nt])), (qm, .inl (cI, 104, .inl nm)), (qf, .inl (cI, 104, .inl nb)), (ql, .inl (cI, 4, .inl nl)), (qi, .inl (cI, 24, .inl ni)), (qo, .inl (cI, 16, .inl nu))]) [0, 1, 2, 3, 4, 5] (by decide) rfl
  exact W.iret (v := 27272) hx hb hr (fun t ht hW => ⟨⟨27272, (), rfl, rfl, by rw [ht]; exact hP9, va_K.moved hW.alike hK, hD9⟩, hS.F ht⟩) hS.2.2 d_Rf_shared_51
theorem d_Rf_carry_0 : decode b_Rf_carry 0 = .ok (.iload_n 1, 1) := by decide +kernel
theorem d_Rf_carry_1 : decode b_Rf_carry 1 = .ok (.lookupswitch 191 #[(32, 94), (36, 99), (44, 114), (112, 174), (114, 179), (164, 83), (176, 120), (214, 135), (226, 185)], 83) := by decide +kernel
theorem d_Rf_carry_84 : decode b_Rf_carry 84 = .ok (.aload_n 0, 1) := by decide +kernel
theorem d_Rf_carry_85 : decode b_Rf_carry 85 = .ok (.aload_n 0, 1) := by decide +kernel
theorem d_Rf_carry_86 : decode b_Rf_carry 86 = .ok (.getfield 27, 3) := by decide +kernel
theorem d_Rf_carry_89 : decode b_Rf_carry 89 = .ok (.iconst 5, 1) := by decide +kernel
theorem d_Rf_carry_90 : decode b_Rf_carry 90 = .ok (.iaload, 1) := by decide +kernel
theorem d_Rf_carry_91 : decode b_Rf_carry 91 = .ok (.invokevirtual 104, 3) := by decide +kernel
theorem d_Rf_carry_94 : decode b_Rf_carry 94 = .ok (.ireturn, 1) := by decide +kernel
theorem d_Rf_carry_95 : decode b_Rf_carry 95 = .ok (.aload_n 0, 1) := by decide +kernel
theorem d_Rf_carry_96 : decode b_Rf_carry 96 = .ok (.invokevirtual 107, 3) := by decide +kernel
theorem d_Rf_carry_99 : decode b_Rf_carry 99 = .ok (.ireturn, 1) := by decide +kernel
theorem d_Rf_carry_100 : decode b_Rf_carry 100 = .ok (.aload_n 0, 1) := by decide +kernel
theorem d_Rf_carry_101 : decode b_Rf_carry 101 = .ok (.bipush 64, 2) := by decide +kernel
theorem d_Rf_carry_103 : decode b_Rf_carry 103 = .ok (.iconst 2, 1) := by decide +kernel
theorem d_Rf_carry_104 : decode b_Rf_carry 104 = .ok (.aload_n 0, 1) := by decide +kernel
theorem d_Rf_carry_105 : decode b_Rf_carry 105 = .ok (.getfield 23, 3) := by decide +kernel
theorem d_Rf_carry_108 : decode b_Rf_carry 108 = .ok (.imul, 1) := by decide +kernel
theorem d_Rf_carry_109 : decode b_Rf_carry 109 = .ok (.iadd, 1) := by decide +kernel
theorem d_Rf_carry_110 : decode b_Rf_carry 110 = .ok (.iconst 2, 1) := by decide +kernel
theorem d_Rf_carry_111 : decode b_Rf_carry 111 = .ok (.invokevirtual 110, 3) := by decide +kernel
theorem d_Rf_carry_114 : decode b_Rf_carry 114 = .ok (.ireturn, 1) := by decide +kernel
theorem d_Rf_carry_115 : decode b_Rf_carry 115 = .ok (.aload_n 0, 1) := by decide +kernel
theorem d_Rf_carry_116 : decode b_Rf_carry 116 = .ok (.iload_n 2, 1) := by decide +kernel
theorem d_Rf_carry_117 : decode b_Rf_carry 117 = .ok (.invokevirtual 114, 3) := by decide +kernel
theorem d_Rf_carry_120 : decode b_Rf_carry 120 = .ok (.ireturn, 1) := by decide +kernel
theorem d_Rf_carry_121 : decode b_Rf_carry 121 = .ok (.aload_n 0, 1) := by decide +kernel
theorem d_Rf_carry_122 : decode b_Rf_carry 122 = .ok (.bipush 16, 2) := by decide +kernel
theorem d_Rf_carry_124 : decode b_Rf_carry 124 = .ok (.aload_n 0, 1) := by decide +kernel
theorem d_Rf_carry_125 : decode b_Rf_carry 125 = .ok (.getfield 23, 3) := by decide +kernel
theorem d_Rf_carry_128 : decode b_Rf_carry 128 = .ok (.imul, 1) := by decide +kernel
theorem d_Rf_carry_129 : decode b_Rf_carry 129 = .ok (.iload_n 3, 1) := by decide +kernel
theorem d_Rf_carry_130 : decode b_Rf_carry 130 = .ok (.bipush 16, 2) := by decide +kernel
theorem d_Rf_carry_132 : decode b_Rf_carry 132 = .ok (.invokevirtual 117, 3) := by decide +kernel
theorem d_Rf_carry_135 : decode b_Rf_carry 135 = .ok (.ireturn, 1) := by decide +kernel
theorem d_Rf_carry_136 : decode b_Rf_carry 136 = .ok (.iload_n 3, 1) := by decide +kernel
theorem d_Rf_carry_137 : decode b_Rf_carry 137 = .ok (.aload_n 0, 1) := by decide +kernel
theorem d_Rf_carry_138 : decode b_Rf_carry 138 = .ok (.getfield 27, 3) := by decide +kernel
theorem d_Rf_carry_141 : decode b_Rf_carry 141 = .ok (.iconst 4, 1) := by decide +kernel
theorem d_Rf_carry_142 : decode b_Rf_carry 142 = .ok (.iaload, 1) := by decide +kernel
theorem d_Rf_carry_143 : decode b_Rf_carry 143 = .ok (.iadd, 1) := by decide +kernel
theorem d_Rf_carry_144 : decode b_Rf_carry 144 = .ok (.bipush 16, 2) := by decide +kernel
theorem d_Rf_carry_146 : decode b_Rf_carry 146 = .ok (.if_icmp .le 9, 3) := by decide +kernel
theorem d_Rf_carry_149 : decode b_Rf_carry 149 = .ok (.sipush 27392, 3) := by decide +kernel
theorem d_Rf_carry_152 : decode b_Rf_carry 152 = .ok (.goto 22, 3) := by decide +kernel
theorem d_Rf_carry_155 : decode b_Rf_carry 155 = .ok (.aload_n 0, 1) := by decide +kernel
theorem d_Rf_carry_156 : decode b_Rf_carry 156 = .ok (.bipush 16, 2) := by decide +kernel
theorem d_Rf_carry_158 : decode b_Rf_carry 158 = .ok (.aload_n 0, 1) := by decide +kernel
theorem d_Rf_carry_159 : decode b_Rf_carry 159 = .ok (.getfield 23, 3) := by decide +kernel
theorem d_Rf_carry_162 : decode b_Rf_carry 162 = .ok (.imul, 1) := by decide +kernel
theorem d_Rf_carry_163 : decode b_Rf_carry 163 = .ok (.iload_n 3, 1) := by decide +kernel
theorem d_Rf_carry_164 : decode b_Rf_carry 164 = .ok (.iadd, 1) := by decide +kernel
theorem d_Rf_carry_165 : decode b_Rf_carry 165 = .ok (.aload_n 0, 1) := by decide +kernel
theorem d_Rf_carry_166 : decode b_Rf_carry 166 = .ok (.getfield 27, 3) := by decide +kernel
theorem d_Rf_carry_169 : decode b_Rf_carry 169 = .ok (.iconst 4, 1) := by decide +kernel
theorem d_Rf_carry_170 : decode b_Rf_carry 170 = .ok (.iaload, 1) := by decide +kernel
theorem d_Rf_carry_171 : decode b_Rf_carry 171 = .ok (.invokevirtual 110, 3) := by decide +kernel
theorem d_Rf_carry_174 : decode b_Rf_carry 174 = .ok (.ireturn, 1) := by decide +kernel
theorem d_Rf_carry_175 : decode b_Rf_carry 175 = .ok (.aload_n 0, 1) := by decide +kernel
theorem d_Rf_carry_176 : decode b_Rf_carry 176 = .ok (.invokevirtual 120, 3) := by decide +kernel
theorem d_Rf_carry_179 : decode b_Rf_carry 179 = .ok (.ireturn, 1) := by decide +kernel
theorem d_Rf_carry_180 : decode b_Rf_carry 180 = .ok (.aload_n 0, 1) := by decide +kernel
theorem d_Rf_carry_181 : decode b_Rf_carry 181 = .ok (.iload_n 2, 1) := by decide +kernel
theorem d_Rf_carry_182 : decode b_Rf_carry 182 = .ok (.invokevirtual 123, 3) := by decide +kernel
theorem d_Rf_carry_185 : decode b_Rf_carry 185 = .ok (.ireturn, 1) := by decide +kernel
theorem d_Rf_carry_186 : decode b_Rf_carry 186 = .ok (.aload_n 0, 1) := by decide +kernel
theorem d_Rf_carry_187 : decode b_Rf_carry 187 = .ok (.iload_n 2, 1) := by decide +kernel
theorem d_Rf_carry_188 : decode b_Rf_carry 188 = .ok (.invokevirtual 126, 3) := by decide +kernel
theorem d_Rf_carry_191 : decode b_Rf_carry 191 = .ok (.ireturn, 1) := by decide +kernel
theorem d_Rf_carry_192 : decode b_Rf_carry 192 = .ok (.aload_n 0, 1) := by decide +kernel
theorem d_Rf_carry_193 : decode b_Rf_carry 193 = .ok (.iload_n 1, 1) := by decide +kernel
theorem d_Rf_carry_194 : decode b_Rf_carry 194 = .ok (.bipush 72, 2) := by decide +kernel
theorem d_Rf_carry_196 : decode b_Rf_carry 196 = .ok (.iconst 4, 1) := by decide +kernel
theorem d_Rf_carry_197 : decode b_Rf_carry 197 = .ok (.iload_n 2, 1) := by decide +kernel
theorem d_Rf_carry_198 : decode b_Rf_carry 198 = .ok (.imul, 1) := by decide +kernel
theorem d_Rf_carry_199 : decode b_Rf_carry 199 = .ok (.iadd, 1) := by decide +kernel
theorem d_Rf_carry_200 : decode b_Rf_carry 200 = .ok (.iload_n 3, 1) := by decide +kernel
theorem d_Rf_carry_201 : decode b_Rf_carry 201 = .ok (.invokevirtual 129, 3) := by decide +kernel
theorem d_Rf_carry_204 : decode b_Rf_carry 204 = .ok (.ireturn, 1) := by decide +kernel
def fRf_carry (σ : StR) (a1 : Int32) (a2 : Int32) (a3 : Int32) : Option (Int32 × StR) := match σ with | (nm, nb, nl, nc, nd, nf, na, nz, no, ns, nv, np, ni, nn, nu, nt) => if a1 = 32 then (bd17 (fRf_verify (nm, nb, nl, nc, nd, nf, na, nz, no, ns, nv, np, ni, nn, nu, nt)) fun r2 nm2 nb2 nl2 nc2 nd2 nf2 na2 nz2 no2 ns2 nv2 np2 ni2 nn2 nu2 nt2 => some (r2, nm2, nb2, nl2, nc2, nd2, nf2, na2, nz2, no2, ns2, nv2, np2, ni2, nn2, nu2, nt2)) else (if a1 = 36 then (bd17 (fRf_store (nm, nb, nl, nc, nd, nf, na, nz, no, ns, nv, np, ni, nn, nu, nt) (64 + (2 * ns)) 2) fun r4 nm4 nb4 nl4 nc4 nd4 nf4 na4 nz4 no4 ns4 nv4 np4 ni4 nn4 nu4 nt4 => some (r4, nm4, nb4, nl4, nc4, nd4, nf4, na4, nz4, no4, ns4, nv4, np4, ni4, nn4, nu4, nt4)) else (if a1 = 44 then (bd17 (fRf_unblock (nm, nb, nl, nc, nd, nf, na, nz, no, ns, nv, np, ni, nn, nu, nt) a2) fun r6 nm6 nb6 nl6 nc6 nd6 nf6 na6 nz6 no6 ns6 nv6 np6 ni6 nn6 nu6 nt6 => some (r6, nm6, nb6, nl6, nc6, nd6, nf6, na6, nz6, no6, ns6, nv6, np6, ni6, nn6, nu6, nt6)) else (if a1 = 112 then (bd17 (fRf_begin (nm, nb, nl, nc, nd, nf, na, nz, no, ns, nv, np, ni, nn, nu, nt)) fun r8 nm8 nb8 nl8 nc8 nd8 nf8 na8 nz8 no8 ns8 nv8 np8 ni8 nn8 nu8 nt8 => some (r8, nm8, nb8, nl8, nc8, nd8, nf8, na8, nz8, no8, ns8, nv8, np8, ni8, nn8, nu8, nt8)) else (if a1 = 114 then (bd17 (fRf_end (nm, nb, nl, nc, nd, nf, na, nz, no, ns, nv, np, ni, nn, nu, nt) a2) fun r10 nm10 nb10 nl10 nc10 nd10 nf10 na10 nz10 no10 ns10 nv10 np10 ni10 nn10 nu10 nt10 => some (r10, nm10, nb10, nl10, nc10, nd10, nf10, na10, nz10, no10, ns10, nv10, np10, ni10, nn10, nu10, nt10)) else (if a1 = 164 then (ix 5 24 fun j12 => bd17 (fRf_select (nm, nb, nl, nc, nd, nf, na, nz, no, ns, nv, np, ni, nn, nu, nt) (ni j12)) fun r13 nm13 nb13 nl13 nc13 nd13 nf13 na13 nz13 no13 ns13 nv13 np13 ni13 nn13 nu13 nt13 => some (r13, nm13, nb13, nl13, nc13, nd13, nf13, na13, nz13, no13, ns13, nv13, np13, ni13, nn13, nu13, nt13)) else (if a1 = 176 then (bd17 (fRf_read (nm, nb, nl, nc, nd, nf, na, nz, no, ns, nv, np, ni, nn, nu, nt) (16 * ns) a3 16) fun r15 nm15 nb15 nl15 nc15 nd15 nf15 na15 nz15 no15 ns15 nv15 np15 ni15 nn15 nu15 nt15 => some (r15, nm15, nb15, nl15, nc15, nd15, nf15, na15, nz15, no15, ns15, nv15, np15, ni15, nn15, nu15, nt15)) else (if a1 = 214 then (ix 4 24 fun j17 => if (a3 + (ni j17)) ≤ 16 then (ix 4 24 fun j19 => bd17 (fRf_store (nm, nb, nl, nc, nd, nf, na, nz, no, ns, nv, np, ni, nn, nu, nt) ((16 * ns) + a3) (ni j19)) fun r20 nm20 nb20 nl20 nc20 nd20 nf20 na20 nz20 no20 ns20 nv20 np20 ni20 nn20 nu20 nt20 => some (r20, nm20, nb20, nl20, nc20, nd20, nf20, na20, nz20, no20, ns20, nv20, np20, ni20, nn20, nu20, nt20)) else (some (27392, nm, nb, nl, nc, nd, nf, na, nz, no, ns, nv, np, ni, nn, nu, nt))) else (if a1 = 226 then (bd17 (fRf_grant (nm, nb, nl, nc, nd, nf, na, nz, no, ns, nv, np, ni, nn, nu, nt) a2) fun r22 nm22 nb22 nl22 nc22 nd22 nf22 na22 nz22 no22 ns22 nv22 np22 ni22 nn22 nu22 nt22 => some (r22, nm22, nb22, nl22, nc22, nd22, nf22, na22, nz22, no22, ns22, nv22, np22, ni22, nn22, nu22, nt22)) else (bd17 (fRf_shared (nm, nb, nl, nc, nd, nf, na, nz, no, ns, nv, np, ni, nn, nu, nt) a1 (72 + (4 * a2)) a3) fun r23 nm23 nb23 nl23 nc23 nd23 nf23 na23 nz23 no23 ns23 nv23 np23 ni23 nn23 nu23 nt23 => some (r23, nm23, nb23, nl23, nc23, nd23, nf23, na23, nz23, no23, ns23, nv23, np23, ni23, nn23, nu23, nt23))))))))))
set_option maxHeartbeats 4000000 in
set_option maxRecDepth 100000 in
theorem ctRf_carry (l : Launch) (dC : Nat → ClassId) (dI : Nat → Nat → Nat) (cI : ClassId) (hq qm qf ql qi qo : Nat) (nm : Nat → Int32) (nb : Nat → Int32) (nl : Nat → Int32) (nc : Int32) (nd : Int32) (nf : Int32) (na : Int32) (nz : Int32) (no : Int32) (ns : Int32) (nv : Int32) (np : Int32) (ni : Nat → Int32) (nn : Int32) (nu : Nat → Int32) (nt : Int32) (a1 : Int32) (a2 : Int32) (a3 : Int32) (r : Int32) (nm' : Nat → Int32) (nb' : Nat → Int32) (nl' : Nat → Int32) (nc' : Int32) (nd' : Int32) (nf' : Int32) (na' : Int32) (nz' : Int32) (no' : Int32) (ns' : Int32) (nv' : Int32) (np' : Int32) (ni' : Nat → Int32) (nn' : Int32) (nu' : Nat → Int32) (nt' : Int32) (hf : fRf_carry (nm, nb, nl, nc, nd, nf, na, nz, no, ns, nv, np, ni, nn, nu, nt) a1 a2 a3 = some (r, nm', nb', nl', nc', nd', nf', na', nz', no', ns', nv', np', ni', nn', nu', nt')) : CtI l y_Rf_carry w_Rf_carry ({ frames := 6, cells := 0, slots := 0, locals := 135 }) (dC, dI) [(cI, .int)] [.ref hq, .int a1, .int a2, .int a3] [(hq, .inr (3, [.ref qm, .ref qf, .ref ql, .int nc, .int nd, .int nf, .int na, .int nz, .int no, .int ns, .int nv, .int np, .ref qi, .int nn, .ref qo, .int nt])), (qm, .inl (cI, 104, .inl nm)), (qf, .inl (cI, 104, .inl nb)), (ql, .inl (cI, 4, .inl nl)), (qi, .inl (cI, 24, .inl ni)), (qo, .inl (cI, 16, .inl nu))] [(hq, .inr (3, [.ref qm, .ref qf, .ref ql, .int nc', .int nd', .int nf', .int na', .int nz', .int no', .int ns', .int nv', .int np', .ref qi, .int nn', .ref qo, .int nt'])), (qm, .inl (cI, 104, .inl nm')), (qf, .inl (cI, 104, .inl nb')), (ql, .inl (cI, 4, .inl nl')), (qi, .inl (cI, 24, .inl ni')), (qo, .inl (cI, 16, .inl nu'))] r := by
  intro sz
  refine Met.ofW (cc := b_Rf_carry) (maxL := 4) (ret := some .int) (by decide) rfl ?_
  intro p e s m args below meth c s₁ B hml hv
  obtain ⟨rfl, hsz, hP, hK, hD0⟩ := hv
  have hx := B.exec
  have hb := B.bytes
  have hr := B.returns
  have hts := atoms_spec (ws := w_Rf_carry) B.pre
  have hown : s.vm.findClass R_Rf = some m.cls := findClass_of_methodNamed B.named
  have hlocks := B.notSynchronized
  subst hsz
  have hD := hD0.self (sz := s.heap.size)
  generalize hAe : va_A [(hq, .inr (3, [.ref qm, .ref qf, .ref ql, .int nc, .int nd, .int nf, .int na, .int nz, .int no, .int ns, .int nv, .int np, .ref qi, .int nn, .ref qo, .int nt])), (qm, .inl (cI, 104, .inl nm)), (qf, .inl (cI, 104, .inl nb)), (ql, .inl (cI, 4, .inl nl)), (qi, .inl (cI, 24, .inl ni)), (qo, .inl (cI, 16, .inl nu))] s.heap.size = A at hD ⊢
  have hA : ∀ q : Nat, s.heap.size ≤ q → A q := fun q h => by rw [← hAe]; exact Or.inr h
  have hS : va_S A s.heap s.heap [] := va_S.rf
  have hP : va_P (dC, dI) vwCl [(hq, .inr (3, [.ref qm, .ref qf, .ref ql, .int nc, .int nd, .int nf, .int na, .int nz, .int no, .int ns, .int nv, .int np, .ref qi, .int nn, .ref qo, .int nt])), (qm, .inl (cI, 104, .inl nm)), (qf, .inl (cI, 104, .inl nb)), (ql, .inl (cI, 4, .inl nl)), (qi, .inl (cI, 24, .inl ni)), (qo, .inl (cI, 16, .inl nu))] s.heap := hP
  have hl := lv_entry ([.ref hq, .int a1, .int a2, .int a3]) (n := 4) (Nat.le_of_ble_eq_true rfl)
  rw [lg_entry_eq]
  generalize (lg_sl ([.ref hq, .int a1, .int a2, .int a3]) ++ List.replicate (4 - (lg_sl ([.ref hq, .int a1, .int a2, .int a3])).length) Slot.unset).toArray = ls at hl ⊢
  have hl : lv_has ls 4 [(0, .ref hq), (1, .int a1), (2, .int a2), (3, .int a3)] := hl
  have inRf : ∀ w ∈ u_ws R_Rf F_Rf 16, w ∈ w_Rf_carry := fun w h => List.mem_cons_of_mem _ (in_Rf w h)
  have kf23 := hts _ (List.mem_cons_of_mem _ wq415)
  have kf27 := hts _ (List.mem_cons_of_mem _ wq418)
  rw [fRf_carry] at hf
  refine lv_iload_n hx hb d_Rf_carry_0 rfl (lv_at hl 1 rfl) ?_
  by_cases hc1 : a1 = 32
  · have hf := ift hf hc1
    refine lv_lookup (off := 94) (tgt := 95) hx hb d_Rf_carry_1 (by decide) (by rw [hc1]; rfl) rfl ?_
    refine lv_aload_n hx hb d_Rf_carry_95 rfl (lv_at hl 0 rfl) ?_
    obtain ⟨r2, nm2, nb2, nl2, nc2, nd2, nf2, na2, nz2, no2, ns2, nv2, np2, ni2, nn2, nu2, nt2, hg, hf⟩ := bd17_some hf
    refine xci (wr := []) (ctRf_verify l dC dI cI hq qm qf ql qi qo nm nb nl nc nd nf na nz no ns nv np ni nn nu nt r2 nm2 nb2 nl2 nc2 nd2 nf2 na2 nz2 no2 ns2 nv2 np2 ni2 nn2 nu2 nt2 hg) ⟨hx, hb, hml, hown, hts⟩ (cwV (C := R_Rf) 0 hts (gV wq522 wq524 wq32 wq46 wq525) rfl rfl rfl (by decide +kernel) ⟨Nat.le_of_ble_eq_true rfl, Nat.le_of_ble_eq_true rfl⟩) hK hP hD hS hA [0, 1, 2, 3, 4, 5] [] rfl rfl rfl rfl (by decide) (ci := 3) (q0 := 0) rfl rfl rfl rfl hl.1 rfl (Nat.le_of_ble_eq_true rfl) d_Rf_carry_96 ⟨Nat.zero_le _, Nat.zero_le _⟩ (fun H locs hP hD hS => ?_)
    have hP : va_P (dC, dI) vwCl [(hq, .inr (3, [.ref qm, .ref qf, .ref ql, .int nc2, .int nd2, .int nf2, .int na2, .int nz2, .int no2, .int ns2, .int nv2, .int np2, .ref qi, .int nn2, .ref qo, .int nt2])), (qm, .inl (cI, 104, .inl nm2)), (qf, .inl (cI, 104, .inl nb2)), (ql, .inl (cI, 4, .inl nl2)), (qi, .inl (cI, 24, .inl ni2)), (qo, .inl (cI, 16, .inl nu2))] H := hP
    have hD : va_D A [(hq, .inr (3, [.ref qm, .ref qf, .ref ql, .int nc2, .int nd2, .int nf2, .int na2, .int nz2, .int no2, .int ns2, .int nv2, .int np2, .ref qi, .int nn2, .ref qo, .int nt2])), (qm, .inl (cI, 104, .inl nm2)), (qf, .inl (cI, 104, .inl nb2)), (ql, .inl (cI, 4, .inl nl2)), (qi, .inl (cI, 24, .inl ni2)), (qo, .inl (cI, 16, .inl nu2))] := hD
    obtain ⟨e1_, e2_, e3_, e4_, e5_, e6_, e7_, e8_, e9_, e10_, e11_, e12_, e13_, e14_, e15_, e16_, e17_⟩ := lf17 hf
    subst e1_; subst e2_; subst e3_; subst e4_; subst e5_; subst e6_; subst e7_; subst e8_; subst e9_; subst e10_; subst e11_; subst e12_; subst e13_; subst e14_; subst e15_; subst e16_; subst e17_
    have hP9 := hP.sub (ws' := [(hq, .inr (3, [.ref qm, .ref qf, .ref ql, .int nc2, .int nd2, .int nf2, .int na2, .int nz2, .int no2, .int ns2, .int nv2, .int np2, .ref qi, .int nn2, .ref qo, .int nt2])), (qm, .inl (cI, 104, .inl nm2)), (qf, .inl (cI, 104, .inl nb2)), (ql, .inl (cI, 4, .inl nl2)), (qi, .inl (cI, 24, .inl ni2)), (qo, .inl (cI, 16, .inl nu2))]) [0, 1, 2, 3, 4, 5] rfl
    have hD9 := hD.sub (ws' := [(hq, .inr (3, [.ref qm, .ref qf, .ref ql, .int nc2, .int nd2, .int nf2, .int na2, .int nz2, .int no2, .int ns2, .int nv2, .int np2, .ref qi, .int nn2, .ref qo, .int nt2])), (qm, .inl (cI, 104, .inl nm2)), (qf, .inl (cI, 104, .inl nb2)), (ql, .inl (cI, 4, .inl nl2)), (qi, .inl (cI, 24, .inl ni2)), (qo, .inl (cI, 16, .inl nu2))]) [0, 1, 2, 3, 4, 5] (by decide) rfl
    exact W.iret (v := r2) hx hb hr (fun t ht hW => ⟨⟨r2, (), rfl, rfl, by rw [ht]; exact hP9, va_K.moved hW.alike hK, hD9⟩, hS.F ht⟩) hS.2.2 d_Rf_carry_99
  have hf := ifn hf hc1
  by_cases hc3 : a1 = 36
  · have hf := ift hf hc3
    refine lv_lookup (off := 99) (tgt := 100) hx hb d_Rf_carry_1 (by decide) (by rw [hc3]; rfl) rfl ?_
    refine lv_aload_n hx hb d_Rf_carry_100 rfl (lv_at hl 0 rfl) ?_
    refine lv_bipush (v := 64) hx hb d_Rf_carry_101 (by decide) ?_
    refine lv_iconst (v := 2) hx hb d_Rf_carry_103 (by decide) ?_
    refine lv_aload_n hx hb d_Rf_carry_104 rfl (lv_at hl 0 rfl) ?_
    refine va_get (D := (dC, dI)) (ci := 3) (v := .int ns) (C := R_Rf) (T := F_Rf) (N := 16) hx hb hts inRf hown hK hP 0 rfl rfl 9 (by decide) kf23 (fun _ h9 => h9) rfl d_Rf_carry_105 ?_
    refine lv_imul hx hb d_Rf_carry_108 ?_
    refine lv_iadd hx hb d_Rf_carry_109 ?_
    refine lv_iconst (v := 2) hx hb d_Rf_carry_110 (by decide) ?_
    obtain ⟨r4, nm4, nb4, nl4, nc4, nd4, nf4, na4, nz4, no4, ns4, nv4, np4, ni4, nn4, nu4, nt4, hg, hf⟩ := bd17_some hf
    refine xci (wr := []) (ctRf_store l dC dI cI hq qm qf ql qi qo nm nb nl nc nd nf na nz no ns nv np ni nn nu nt (64 + (2 * ns)) 2 r4 nm4 nb4 nl4 nc4 nd4 nf4 na4 nz4 no4 ns4 nv4 np4 ni4 nn4 nu4 nt4 hg) ⟨hx, hb, hml, hown, hts⟩ (cwV (C := R_Rf) 2 hts (gV wq526 wq528 wq33 wq46 wq529) rfl rfl rfl (by decide +kernel) ⟨Nat.le_of_ble_eq_true rfl, Nat.le_of_ble_eq_true rfl⟩) hK hP hD hS hA [0, 1, 2, 3, 4, 5] [] rfl rfl rfl rfl (by decide) (ci := 3) (q0 := 0) rfl rfl rfl rfl hl.1 rfl (Nat.le_of_ble_eq_true rfl) d_Rf_carry_111 ⟨Nat.zero_le _, Nat.zero_le _⟩ (fun H locs hP hD hS => ?_)
    have hP : va_P (dC, dI) vwCl [(hq, .inr (3, [.ref qm, .ref qf, .ref ql, .int nc4, .int nd4, .int nf4, .int na4, .int nz4, .int no4, .int ns4, .int nv4, .int np4, .ref qi, .int nn4, .ref qo, .int nt4])), (qm, .inl (cI, 104, .inl nm4)), (qf, .inl (cI, 104, .inl nb4)), (ql, .inl (cI, 4, .inl nl4)), (qi, .inl (cI, 24, .inl ni4)), (qo, .inl (cI, 16, .inl nu4))] H := hP
    have hD : va_D A [(hq, .inr (3, [.ref qm, .ref qf, .ref ql, .int nc4, .int nd4, .int nf4, .int na4, .int nz4, .int no4, .int ns4, .int nv4, .int np4, .ref qi, .int nn4, .ref qo, .int nt4])), (qm, .inl (cI, 104, .inl nm4)), (qf, .inl (cI, 104, .inl nb4)), (ql, .inl (cI, 4, .inl nl4)), (qi, .inl (cI, 24, .inl ni4)), (qo, .inl (cI, 16, .inl nu4))] := hD
    obtain ⟨e1_, e2_, e3_, e4_, e5_, e6_, e7_, e8_, e9_, e10_, e11_, e12_, e13_, e14_, e15_, e16_, e17_⟩ := lf17 hf
    subst e1_; subst e2_; subst e3_; subst e4_; subst e5_; subst e6_; subst e7_; subst e8_; subst e9_; subst e10_; subst e11_; subst e12_; subst e13_; subst e14_; subst e15_; subst e16_; subst e17_
    have hP9 := hP.sub (ws' := [(hq, .inr (3, [.ref qm, .ref qf, .ref ql, .int nc4, .int nd4, .int nf4, .int na4, .int nz4, .int no4, .int ns4, .int nv4, .int np4, .ref qi, .int nn4, .ref qo, .int nt4])), (qm, .inl (cI, 104, .inl nm4)), (qf, .inl (cI, 104, .inl nb4)), (ql, .inl (cI, 4, .inl nl4)), (qi, .inl (cI, 24, .inl ni4)), (qo, .inl (cI, 16, .inl nu4))]) [0, 1, 2, 3, 4, 5] rfl
    have hD9 := hD.sub (ws' := [(hq, .inr (3, [.ref qm, .ref qf, .ref ql, .int nc4, .int nd4, .int nf4, .int na4, .int nz4, .int no4, .int ns4, .int nv4, .int np4, .ref qi, .int nn4, .ref qo, .int nt4])), (qm, .inl (cI, 104, .inl nm4)), (qf, .inl (cI, 104, .inl nb4)), (ql, .inl (cI, 4, .inl nl4)), (qi, .inl (cI, 24, .inl ni4)), (qo, .inl (cI, 16, .inl nu4))]) [0, 1, 2, 3, 4, 5] (by decide) rfl
    exact W.iret (v := r4) hx hb hr (fun t ht hW => ⟨⟨r4, (), rfl, rfl, by rw [ht]; exact hP9, va_K.moved hW.alike hK, hD9⟩, hS.F ht⟩) hS.2.2 d_Rf_carry_114
  have hf := ifn hf hc3
  by_cases hc5 : a1 = 44
  · have hf := ift hf hc5
    refine lv_lookup (off := 114) (tgt := 115) hx hb d_Rf_carry_1 (by decide) (by rw [hc5]; rfl) rfl ?_
    refine lv_aload_n hx hb d_Rf_carry_115 rfl (lv_at hl 0 rfl) ?_
    refine lv_iload_n hx hb d_Rf_carry_116 rfl (lv_at hl 2 rfl) ?_
    obtain ⟨r6, nm6, nb6, nl6, nc6, nd6, nf6, na6, nz6, no6, ns6, nv6, np6, ni6, nn6, nu6, nt6, hg, hf⟩ := bd17_some hf
    refine xci (wr := []) (ctRf_unblock l dC dI cI hq qm qf ql qi qo nm nb nl nc nd nf na nz no ns nv np ni nn nu nt a2 r6 nm6 nb6 nl6 nc6 nd6 nf6 na6 nz6 no6 ns6 nv6 np6 ni6 nn6 nu6 nt6 hg) ⟨hx, hb, hml, hown, hts⟩ (cwV (C := R_Rf) 1 hts (gV wq538 wq540 wq36 wq46 wq541) rfl rfl rfl (by decide +kernel) ⟨Nat.le_of_ble_eq_true rfl, Nat.le_of_ble_eq_true rfl⟩) hK hP hD hS hA [0, 1, 2, 3, 4, 5] [] rfl rfl rfl rfl (by decide) (ci := 3) (q0 := 0) rfl rfl rfl rfl hl.1 rfl (Nat.le_of_ble_eq_true rfl) d_Rf_carry_117 ⟨Nat.zero_le _, Nat.zero_le _⟩ (fun H locs hP hD hS => ?_)
    have hP : va_P (dC, dI) vwCl [(hq, .inr (3, [.ref qm, .ref qf, .ref ql, .int nc6, .int nd6, .int nf6, .int na6, .int nz6, .int no6, .int ns6, .int nv6, .int np6, .ref qi, .int nn6, .ref qo, .int nt6])), (qm, .inl (cI, 104, .inl nm6)), (qf, .inl (cI, 104, .inl nb6)), (ql, .inl (cI, 4, .inl nl6)), (qi, .inl (cI, 24, .inl ni6)), (qo, .inl (cI, 16, .inl nu6))] H := hP
    have hD : va_D A [(hq, .inr (3, [.ref qm, .ref qf, .ref ql, .int nc6, .int nd6, .int nf6, .int na6, .int nz6, .int no6, .int ns6, .int nv6, .int np6, .ref qi, .int nn6, .ref qo, .int nt6])), (qm, .inl (cI, 104, .inl nm6)), (qf, .inl (cI, 104, .inl nb6)), (ql, .inl (cI, 4, .inl nl6)), (qi, .inl (cI, 24, .inl ni6)), (qo, .inl (cI, 16, .inl nu6))] := hD
    obtain ⟨e1_, e2_, e3_, e4_, e5_, e6_, e7_, e8_, e9_, e10_, e11_, e12_, e13_, e14_, e15_, e16_, e17_⟩ := lf17 hf
    subst e1_; subst e2_; subst e3_; subst e4_; subst e5_; subst e6_; subst e7_; subst e8_; subst e9_; subst e10_; subst e11_; subst e12_; subst e13_; subst e14_; subst e15_; subst e16_; subst e17_
    have hP9 := hP.sub (ws' := [(hq, .inr (3, [.ref qm, .ref qf, .ref ql, .int nc6, .int nd6, .int nf6, .int na6, .int nz6, .int no6, .int ns6, .int nv6, .int np6, .ref qi, .int nn6, .ref qo, .int nt6])), (qm, .inl (cI, 104, .inl nm6)), (qf, .inl (cI, 104, .inl nb6)), (ql, .inl (cI, 4, .inl nl6)), (qi, .inl (cI, 24, .inl ni6)), (qo, .inl (cI, 16, .inl nu6))]) [0, 1, 2, 3, 4, 5] rfl
    have hD9 := hD.sub (ws' := [(hq, .inr (3, [.ref qm, .ref qf, .ref ql, .int nc6, .int nd6, .int nf6, .int na6, .int nz6, .int no6, .int ns6, .int nv6, .int np6, .ref qi, .int nn6, .ref qo, .int nt6])), (qm, .inl (cI, 104, .inl nm6)), (qf, .inl (cI, 104, .inl nb6)), (ql, .inl (cI, 4, .inl nl6)), (qi, .inl (cI, 24, .inl ni6)), (qo, .inl (cI, 16, .inl nu6))]) [0, 1, 2, 3, 4, 5] (by decide) rfl
    exact W.iret (v := r6) hx hb hr (fun t ht hW => ⟨⟨r6, (), rfl, rfl, by rw [ht]; exact hP9, va_K.moved hW.alike hK, hD9⟩, hS.F ht⟩) hS.2.2 d_Rf_carry_120
  have hf := ifn hf hc5
  by_cases hc7 : a1 = 112
  · have hf := ift hf hc7
    refine lv_lookup (off := 174) (tgt := 175) hx hb d_Rf_carry_1 (by decide) (by rw [hc7]; rfl) rfl ?_
    refine lv_aload_n hx hb d_Rf_carry_175 rfl (lv_at hl 0 rfl) ?_
    obtain ⟨r8, nm8, nb8, nl8, nc8, nd8, nf8, na8, nz8, no8, ns8, nv8, np8, ni8, nn8, nu8, nt8, hg, hf⟩ := bd17_some hf
    refine xci (wr := []) (ctRf_begin l dC dI cI hq qm qf ql qi qo nm nb nl nc nd nf na nz no ns nv np ni nn nu nt r8 nm8 nb8 nl8 nc8 nd8 nf8 na8 nz8 no8 ns8 nv8 np8 ni8 nn8 nu8 nt8 hg) ⟨hx, hb, hml, hown, hts⟩ (cwV (C := R_Rf) 0 hts (gV wq546 wq548 wq38 wq46 wq549) rfl rfl rfl (by decide +kernel) ⟨Nat.le_of_ble_eq_true rfl, Nat.le_of_ble_eq_true rfl⟩) hK hP hD hS hA [0, 1, 2, 3, 4, 5] [] rfl rfl rfl rfl (by decide) (ci := 3) (q0 := 0) rfl rfl rfl rfl hl.1 rfl (Nat.le_of_ble_eq_true rfl) d_Rf_carry_176 ⟨Nat.zero_le _, Nat.zero_le _⟩ (fun H locs hP hD hS => ?_)
    have hP : va_P (dC, dI) vwCl [(hq, .inr (3, [.ref qm, .ref qf, .ref ql, .int nc8, .int nd8, .int nf8, .int na8, .int nz8, .int no8, .int ns8, .int nv8, .int np8, .ref qi, .int nn8, .ref qo, .int nt8])), (qm, .inl (cI, 104, .inl nm8)), (qf, .inl (cI, 104, .inl nb8)), (ql, .inl (cI, 4, .inl nl8)), (qi, .inl (cI, 24, .inl ni8)), (qo, .inl (cI, 16, .inl nu8))] H := hP
    have hD : va_D A [(hq, .inr (3, [.ref qm, .ref qf, .ref ql, .int nc8, .int nd8, .int nf8, .int na8, .int nz8, .int no8, .int ns8, .int nv8, .int np8, .ref qi, .int nn8, .ref qo, .int nt8])), (qm, .inl (cI, 104, .inl nm8)), (qf, .inl (cI, 104, .inl nb8)), (ql, .inl (cI, 4, .inl nl8)), (qi, .inl (cI, 24, .inl ni8)), (qo, .inl (cI, 16, .inl nu8))] := hD
    obtain ⟨e1_, e2_, e3_, e4_, e5_, e6_, e7_, e8_, e9_, e10_, e11_, e12_, e13_, e14_, e15_, e16_, e17_⟩ := lf17 hf
    subst e1_; subst e2_; subst e3_; subst e4_; subst e5_; subst e6_; subst e7_; subst e8_; subst e9_; subst e10_; subst e11_; subst e12_; subst e13_; subst e14_; subst e15_; subst e16_; subst e17_
    have hP9 := hP.sub (ws' := [(hq, .inr (3, [.ref qm, .ref qf, .ref ql, .int nc8, .int nd8, .int nf8, .int na8, .int nz8, .int no8, .int ns8, .int nv8, .int np8, .ref qi, .int nn8, .ref qo, .int nt8])), (qm, .inl (cI, 104, .inl nm8)), (qf, .inl (cI, 104, .inl nb8)), (ql, .inl (cI, 4, .inl nl8)), (qi, .inl (cI, 24, .inl ni8)), (qo, .inl (cI, 16, .inl nu8))]) [0, 1, 2, 3, 4, 5] rfl
    have hD9 := hD.sub (ws' := [(hq, .inr (3, [.ref qm, .ref qf, .ref ql, .int nc8, .int nd8, .int nf8, .int na8, .int nz8, .int no8, .int ns8, .int nv8, .int np8, .ref qi, .int nn8, .ref qo, .int nt8])), (qm, .inl (cI, 104, .inl nm8)), (qf, .inl (cI, 104, .inl nb8)), (ql, .inl (cI, 4, .inl nl8)), (qi, .inl (cI, 24, .inl ni8)), (qo, .inl (cI, 16, .inl nu8))]) [0, 1, 2, 3, 4, 5] (by decide) rfl
    exact W.iret (v := r8) hx hb hr (fun t ht hW => ⟨⟨r8, (), rfl, rfl, by rw [ht]; exact hP9, va_K.moved hW.alike hK, hD9⟩, hS.F ht⟩) hS.2.2 d_Rf_carry_179
  have hf := ifn hf hc7
  by_cases hc9 : a1 = 114
  · have hf := ift hf hc9
    refine lv_lookup (off := 179) (tgt := 180) hx hb d_Rf_carry_1 (by decide) (by rw [hc9]; rfl) rfl ?_
    refine lv_aload_n hx hb d_Rf_carry_180 rfl (lv_at hl 0 rfl) ?_
    refine lv_iload_n hx hb d_Rf_carry_181 rfl (lv_at hl 2 rfl) ?_
    obtain ⟨r10, nm10, nb10, nl10, nc10, nd10, nf10, na10, nz10, no10, ns10, nv10, np10, ni10, nn10, nu10, nt10, hg, hf⟩ := bd17_some hf
    refine xci (wr := []) (ctRf_end l dC dI cI hq qm qf ql qi qo nm nb nl nc nd nf na nz no ns nv np ni nn nu nt a2 r10 nm10 nb10 nl10 nc10 nd10 nf10 na10 nz10 no10 ns10 nv10 np10 ni10 nn10 nu10 nt10 hg) ⟨hx, hb, hml, hown, hts⟩ (cwV (C := R_Rf) 1 hts (gV wq550 wq552 wq39 wq46 wq553) rfl rfl rfl (by decide +kernel) ⟨Nat.le_of_ble_eq_true rfl, Nat.le_of_ble_eq_true rfl⟩) hK hP hD hS hA [0, 1, 2, 3, 4, 5] [] rfl rfl rfl rfl (by decide) (ci := 3) (q0 := 0) rfl rfl rfl rfl hl.1 rfl (Nat.le_of_ble_eq_true rfl) d_Rf_carry_182 ⟨Nat.zero_le _, Nat.zero_le _⟩ (fun H locs hP hD hS => ?_)
    have hP : va_P (dC, dI) vwCl [(hq, .inr (3, [.ref qm, .ref qf, .ref ql, .int nc10, .int nd10, .int nf10, .int na10, .int nz10, .int no10, .int ns10, .int nv10, .int np10, .ref qi, .int nn10, .ref qo, .int nt10])), (qm, .inl (cI, 104, .inl nm10)), (qf, .inl (cI, 104, .inl nb10)), (ql, .inl (cI, 4, .inl nl10)), (qi, .inl (cI, 24, .inl ni10)), (qo, .inl (cI, 16, .inl nu10))] H := hP
    have hD : va_D A [(hq, .inr (3, [.ref qm, .ref qf, .ref ql, .int nc10, .int nd10, .int nf10, .int na10, .int nz10, .int no10, .int ns10, .int nv10, .int np10, .ref qi, .int nn10, .ref qo, .int nt10])), (qm, .inl (cI, 104, .inl nm10)), (qf, .inl (cI, 104, .inl nb10)), (ql, .inl (cI, 4, .inl nl10)), (qi, .inl (cI, 24, .inl ni10)), (qo, .inl (cI, 16, .inl nu10))] := hD
    obtain ⟨e1_, e2_, e3_, e4_, e5_, e6_, e7_, e8_, e9_, e10_, e11_, e12_, e13_, e14_, e15_, e16_, e17_⟩ := lf17 hf
    subst e1_; subst e2_; subst e3_; subst e4_; subst e5_; subst e6_; subst e7_; subst e8_; subst e9_; subst e10_; subst e11_; subst e12_; subst e13_; subst e14_; subst e15_; subst e16_; subst e17_
    have hP9 := hP.sub (ws' := [(hq, .inr (3, [.ref qm, .ref qf, .ref ql, .int nc10, .int nd10, .int nf10, .int na10, .int nz10, .int no10, .int ns10, .int nv10, .int np10, .ref qi, .int nn10, .ref qo, .int nt10])), (qm, .inl (cI, 104, .inl nm10)), (qf, .inl (cI, 104, .inl nb10)), (ql, .inl (cI, 4, .inl nl10)), (qi, .inl (cI, 24, .inl ni10)), (qo, .inl (cI, 16, .inl nu10))]) [0, 1, 2, 3, 4, 5] rfl
    have hD9 := hD.sub (ws' := [(hq, .inr (3, [.ref qm, .ref qf, .ref ql, .int nc10, .int nd10, .int nf10, .int na10, .int nz10, .int no10, .int ns10, .int nv10, .int np10, .ref qi, .int nn10, .ref qo, .int nt10])), (qm, .inl (cI, 104, .inl nm10)), (qf, .inl (cI, 104, .inl nb10)), (ql, .inl (cI, 4, .inl nl10)), (qi, .inl (cI, 24, .inl ni10)), (qo, .inl (cI, 16, .inl nu10))]) [0, 1, 2, 3, 4, 5] (by decide) rfl
    exact W.iret (v := r10) hx hb hr (fun t ht hW => ⟨⟨r10, (), rfl, rfl, by rw [ht]; exact hP9, va_K.moved hW.alike hK, hD9⟩, hS.F ht⟩) hS.2.2 d_Rf_carry_185
  have hf := ifn hf hc9
  by_cases hc11 : a1 = 164
  · have hf := ift hf hc11
    refine lv_lookup (off := 83) (tgt := 84) hx hb d_Rf_carry_1 (by decide) (by rw [hc11]; rfl) rfl ?_
    refine lv_aload_n hx hb d_Rf_carry_84 rfl (lv_at hl 0 rfl) ?_
    refine lv_aload_n hx hb d_Rf_carry_85 rfl (lv_at hl 0 rfl) ?_
    refine va_get (D := (dC, dI)) (ci := 3) (v := .ref qi) (C := R_Rf) (T := F_Rf) (N := 16) hx hb hts inRf hown hK hP 0 rfl rfl 12 (by decide) kf27 (fun _ h9 => h9) rfl d_Rf_carry_86 ?_
    refine lv_iconst (v := 5) hx hb d_Rf_carry_89 (by decide) ?_
    obtain ⟨hin_, hf⟩ := ix_some hf
    refine va_iald hx hb hK hP 4 0 rfl rfl hin_ d_Rf_carry_90 ?_
    obtain ⟨r13, nm13, nb13, nl13, nc13, nd13, nf13, na13, nz13, no13, ns13, nv13, np13, ni13, nn13, nu13, nt13, hg, hf⟩ := bd17_some hf
    refine xci (wr := []) (ctRf_select l dC dI cI hq qm qf ql qi qo nm nb nl nc nd nf na nz no ns nv np ni nn nu nt (ni (5 : Int32).toNatClampNeg) r13 nm13 nb13 nl13 nc13 nd13 nf13 na13 nz13 no13 ns13 nv13 np13 ni13 nn13 nu13 nt13 hg) ⟨hx, hb, hml, hown, hts⟩ (cwV (C := R_Rf) 1 hts (gV wq517 wq519 wq31 wq46 wq520) rfl rfl rfl (by decide +kernel) ⟨Nat.le_of_ble_eq_true rfl, Nat.le_of_ble_eq_true rfl⟩) hK hP hD hS hA [0, 1, 2, 3, 4, 5] [] rfl rfl rfl rfl (by decide) (ci := 3) (q0 := 0) rfl rfl rfl rfl hl.1 rfl (Nat.le_of_ble_eq_true rfl) d_Rf_carry_91 ⟨Nat.zero_le _, Nat.zero_le _⟩ (fun H locs hP hD hS => ?_)
    have hP : va_P (dC, dI) vwCl [(hq, .inr (3, [.ref qm, .ref qf, .ref ql, .int nc13, .int nd13, .int nf13, .int na13, .int nz13, .int no13, .int ns13, .int nv13, .int np13, .ref qi, .int nn13, .ref qo, .int nt13])), (qm, .inl (cI, 104, .inl nm13)), (qf, .inl (cI, 104, .inl nb13)), (ql, .inl (cI, 4, .inl nl13)), (qi, .inl (cI, 24, .inl ni13)), (qo, .inl (cI, 16, .inl nu13))] H := hP
    have hD : va_D A [(hq, .inr (3, [.ref qm, .ref qf, .ref ql, .int nc13, .int nd13, .int nf13, .int na13, .int nz13, .int no13, .int ns13, .int nv13, .int np13, .ref qi, .int nn13, .ref qo, .int nt13])), (qm, .inl (cI, 104, .inl nm13)), (qf, .inl (cI, 104, .inl nb13)), (ql, .inl (cI, 4, .inl nl13)), (qi, .inl (cI, 24, .inl ni13)), (qo, .inl (cI, 16, .inl nu13))] := hD
    obtain ⟨e1_, e2_, e3_, e4_, e5_, e6_, e7_, e8_, e9_, e10_, e11_, e12_, e13_, e14_, e15_, e16_, e17_⟩ := lf17 hf
    subst e1_; subst e2_; subst e3_; subst e4_; subst e5_; subst e6_; subst e7_; subst e8_; subst e9_; subst e10_; subst e11_; subst e12_; subst e13_; subst e14_; subst e15_; subst e16_; subst e17_
    have hP9 := hP.sub (ws' := [(hq, .inr (3, [.ref qm, .ref qf, .ref ql, .int nc13, .int nd13, .int nf13, .int na13, .int nz13, .int no13, .int ns13, .int nv13, .int np13, .ref qi, .int nn13, .ref qo, .int nt13])), (qm, .inl (cI, 104, .inl nm13)), (qf, .inl (cI, 104, .inl nb13)), (ql, .inl (cI, 4, .inl nl13)), (qi, .inl (cI, 24, .inl ni13)), (qo, .inl (cI, 16, .inl nu13))]) [0, 1, 2, 3, 4, 5] rfl
    have hD9 := hD.sub (ws' := [(hq, .inr (3, [.ref qm, .ref qf, .ref ql, .int nc13, .int nd13, .int nf13, .int na13, .int nz13, .int no13, .int ns13, .int nv13, .int np13, .ref qi, .int nn13, .ref qo, .int nt13])), (qm, .inl (cI, 104, .inl nm13)), (qf, .inl (cI, 104, .inl nb13)), (ql, .inl (cI, 4, .inl nl13)), (qi, .inl (cI, 24, .inl ni13)), (qo, .inl (cI, 16, .inl nu13))]) [0, 1, 2, 3, 4, 5] (by decide) rfl
    exact W.iret (v := r13) hx hb hr (fun t ht hW => ⟨⟨r13, (), rfl, rfl, by rw [ht]; exact hP9, va_K.moved hW.alike hK, hD9⟩, hS.F ht⟩) hS.2.2 d_Rf_carry_94
  have hf := ifn hf hc11
  by_cases hc14 : a1 = 176
  · have hf := ift hf hc14
    refine lv_lookup (off := 120) (tgt := 121) hx hb d_Rf_carry_1 (by decide) (by rw [hc14]; rfl) rfl ?_
    refine lv_aload_n hx hb d_Rf_carry_121 rfl (lv_at hl 0 rfl) ?_
    refine lv_bipush (v := 16) hx hb d_Rf_carry_122 (by decide) ?_
    refine lv_aload_n hx hb d_Rf_carry_124 rfl (lv_at hl 0 rfl) ?_
    refine va_get (D := (dC, dI)) (ci := 3) (v := .int ns) (C := R_Rf) (T := F_Rf) (N := 16) hx hb hts inRf hown hK hP 0 rfl rfl 9 (by decide) kf23 (fun _ h9 => h9) rfl d_Rf_carry_125 ?_
    refine lv_imul hx hb d_Rf_carry_128 ?_
    refine lv_iload_n hx hb d_Rf_carry_129 rfl (lv_at hl 3 rfl) ?_
    refine lv_bipush (v := 16) hx hb d_Rf_carry_130 (by decide) ?_
    obtain ⟨r15, nm15, nb15, nl15, nc15, nd15, nf15, na15, nz15, no15, ns15, nv15, np15, ni15, nn15, nu15, nt15, hg, hf⟩ := bd17_some hf
    refine xci (wr := []) (ctRf_read l dC dI cI hq qm qf ql qi qo nm nb nl nc nd nf na nz no ns nv np ni nn nu nt (16 * ns) a3 16 r15 nm15 nb15 nl15 nc15 nd15 nf15 na15 nz15 no15 ns15 nv15 np15 ni15 nn15 nu15 nt15 hg) ⟨hx, hb, hml, hown, hts⟩ (cwV (C := R_Rf) 3 hts (gV wq542 wq544 wq37 wq46 wq545) rfl rfl rfl (by decide +kernel) ⟨Nat.le_of_ble_eq_true rfl, Nat.le_of_ble_eq_true rfl⟩) hK hP hD hS hA [0, 1, 2, 3, 4, 5] [] rfl rfl rfl rfl (by decide) (ci := 3) (q0 := 0) rfl rfl rfl rfl hl.1 rfl (Nat.le_of_ble_eq_true rfl) d_Rf_carry_132 ⟨Nat.zero_le _, Nat.zero_le _⟩ (fun H locs hP hD hS => ?_)
    have hP : va_P (dC, dI) vwCl [(hq, .inr (3, [.ref qm, .ref qf, .ref ql, .int nc15, .int nd15, .int nf15, .int na15, .int nz15, .int no15, .int ns15, .int nv15, .int np15, .ref qi, .int nn15, .ref qo, .int nt15])), (qm, .inl (cI, 104, .inl nm15)), (qf, .inl (cI, 104, .inl nb15)), (ql, .inl (cI, 4, .inl nl15)), (qi, .inl (cI, 24, .inl ni15)), (qo, .inl (cI, 16, .inl nu15))] H := hP
    have hD : va_D A [(hq, .inr (3, [.ref qm, .ref qf, .ref ql, .int nc15, .int nd15, .int nf15, .int na15, .int nz15, .int no15, .int ns15, .int nv15, .int np15, .ref qi, .int nn15, .ref qo, .int nt15])), (qm, .inl (cI, 104, .inl nm15)), (qf, .inl (cI, 104, .inl nb15)), (ql, .inl (cI, 4, .inl nl15)), (qi, .inl (cI, 24, .inl ni15)), (qo, .inl (cI, 16, .inl nu15))] := hD
    obtain ⟨e1_, e2_, e3_, e4_, e5_, e6_, e7_, e8_, e9_, e10_, e11_, e12_, e13_, e14_, e15_, e16_, e17_⟩ := lf17 hf
    subst e1_; subst e2_; subst e3_; subst e4_; subst e5_; subst e6_; subst e7_; subst e8_; subst e9_; subst e10_; subst e11_; subst e12_; subst e13_; subst e14_; subst e15_; subst e16_; subst e17_
    have hP9 := hP.sub (ws' := [(hq, .inr (3, [.ref qm, .ref qf, .ref ql, .int nc15, .int nd15, .int nf15, .int na15, .int nz15, .int no15, .int ns15, .int nv15, .int np15, .ref qi, .int nn15, .ref qo, .int nt15])), (qm, .inl (cI, 104, .inl nm15)), (qf, .inl (cI, 104, .inl nb15)), (ql, .inl (cI, 4, .inl nl15)), (qi, .inl (cI, 24, .inl ni15)), (qo, .inl (cI, 16, .inl nu15))]) [0, 1, 2, 3, 4, 5] rfl
    have hD9 := hD.sub (ws' := [(hq, .inr (3, [.ref qm, .ref qf, .ref ql, .int nc15, .int nd15, .int nf15, .int na15, .int nz15, .int no15, .int ns15, .int nv15, .int np15, .ref qi, .int nn15, .ref qo, .int nt15])), (qm, .inl (cI, 104, .inl nm15)), (qf, .inl (cI, 104, .inl nb15)), (ql, .inl (cI, 4, .inl nl15)), (qi, .inl (cI, 24, .inl ni15)), (qo, .inl (cI, 16, .inl nu15))]) [0, 1, 2, 3, 4, 5] (by decide) rfl
    exact W.iret (v := r15) hx hb hr (fun t ht hW => ⟨⟨r15, (), rfl, rfl, by rw [ht]; exact hP9, va_K.moved hW.alike hK, hD9⟩, hS.F ht⟩) hS.2.2 d_Rf_carry_135
  have hf := ifn hf hc14
  by_cases hc16 : a1 = 214
  · have hf := ift hf hc16
    refine lv_lookup (off := 135) (tgt := 136) hx hb d_Rf_carry_1 (by decide) (by rw [hc16]; rfl) rfl ?_
    refine lv_iload_n hx hb d_Rf_carry_136 rfl (lv_at hl 3 rfl) ?_
    refine lv_aload_n hx hb d_Rf_carry_137 rfl (lv_at hl 0 rfl) ?_
    refine va_get (D := (dC, dI)) (ci := 3) (v := .ref qi) (C := R_Rf) (T := F_Rf) (N := 16) hx hb hts inRf hown hK hP 0 rfl rfl 12 (by decide) kf27 (fun _ h9 => h9) rfl d_Rf_carry_138 ?_
    refine lv_iconst (v := 4) hx hb d_Rf_carry_141 (by decide) ?_
    obtain ⟨hin_, hf⟩ := ix_some hf
    refine va_iald hx hb hK hP 4 0 rfl rfl hin_ d_Rf_carry_142 ?_
    refine lv_iadd hx hb d_Rf_carry_143 ?_
    refine lv_bipush (v := 16) hx hb d_Rf_carry_144 (by decide) ?_
    refine lv_icmp_le (tgt := 155) hx hb d_Rf_carry_146 rfl (fun hc18 => ?_) (fun hc18 => ?_)
    · have hf := ift hf hc18
      refine lv_aload_n hx hb d_Rf_carry_155 rfl (lv_at hl 0 rfl) ?_
      refine lv_bipush (v := 16) hx hb d_Rf_carry_156 (by decide) ?_
      refine lv_aload_n hx hb d_Rf_carry_158 rfl (lv_at hl 0 rfl) ?_
      refine va_get (D := (dC, dI)) (ci := 3) (v := .int ns) (C := R_Rf) (T := F_Rf) (N := 16) hx hb hts inRf hown hK hP 0 rfl rfl 9 (by decide) kf23 (fun _ h9 => h9) rfl d_Rf_carry_159 ?_
      refine lv_imul hx hb d_Rf_carry_162 ?_
      refine lv_iload_n hx hb d_Rf_carry_163 rfl (lv_at hl 3 rfl) ?_
      refine lv_iadd hx hb d_Rf_carry_164 ?_
      refine lv_aload_n hx hb d_Rf_carry_165 rfl (lv_at hl 0 rfl) ?_
      refine va_get (D := (dC, dI)) (ci := 3) (v := .ref qi) (C := R_Rf) (T := F_Rf) (N := 16) hx hb hts inRf hown hK hP 0 rfl rfl 12 (by decide) kf27 (fun _ h9 => h9) rfl d_Rf_carry_166 ?_
      refine lv_iconst (v := 4) hx hb d_Rf_carry_169 (by decide) ?_
      obtain ⟨hin_, hf⟩ := ix_some hf
      refine va_iald hx hb hK hP 4 0 rfl rfl hin_ d_Rf_carry_170 ?_
      obtain ⟨r20, nm20, nb20, nl20, nc20, nd20, nf20, na20, nz20, no20, ns20, nv20, np20, ni20, nn20, nu20, nt20, hg, hf⟩ := bd17_some hf
      refine xci (wr := []) (ctRf_store l dC dI cI hq qm qf ql qi qo nm nb nl nc nd nf na nz no ns nv np ni nn nu nt ((16 * ns) + a3) (ni (4 : Int32).toNatClampNeg) r20 nm20 nb20 nl20 nc20 nd20 nf20 na20 nz20 no20 ns20 nv20 np20 ni20 nn20 nu20 nt20 hg) ⟨hx, hb, hml, hown, hts⟩ (cwV (C := R_Rf) 2 hts (gV wq526 wq528 wq33 wq46 wq529) rfl rfl rfl (by decide +kernel) ⟨Nat.le_of_ble_eq_true rfl, Nat.le_of_ble_eq_true rfl⟩) hK hP hD hS hA [0, 1, 2, 3, 4, 5] [] rfl rfl rfl rfl (by decide) (ci := 3) (q0 := 0) rfl rfl rfl rfl hl.1 rfl (Nat.le_of_ble_eq_true rfl) d_Rf_carry_171 ⟨Nat.zero_le _, Nat.zero_le _⟩ (fun H locs hP hD hS => ?_)
      have hP : va_P (dC, dI) vwCl [(hq, .inr (3, [.ref qm, .ref qf, .ref ql, .int nc20, .int nd20, .int nf20, .int na20, .int nz20, .int no20, .int ns20, .int nv20, .int np20, .ref qi, .int nn20, .ref qo, .int nt20])), (qm, .inl (cI, 104, .inl nm20)), (qf, .inl (cI, 104, .inl nb20)), (ql, .inl (cI, 4, .inl nl20)), (qi, .inl (cI, 24, .inl ni20)), (qo, .inl (cI, 16, .inl nu20))] H := hP
      have hD : va_D A [(hq, .inr (3, [.ref qm, .ref qf, .ref ql, .int nc20, .int nd20, .int nf20, .int na20, .int nz20, .int no20, .int ns20, .int nv20, .int np20, .ref qi, .int nn20, .ref qo, .int nt20])), (qm, .inl (cI, 104, .inl nm20)), (qf, .inl (cI, 104, .inl nb20)), (ql, .inl (cI, 4, .inl nl20)), (qi, .inl (cI, 24, .inl ni20)), (qo, .inl (cI, 16, .inl nu20))] := hD
      obtain ⟨e1_, e2_, e3_, e4_, e5_, e6_, e7_, e8_, e9_, e10_, e11_, e12_, e13_, e14_, e15_, e16_, e17_⟩ := lf17 hf
      subst e1_; subst e2_; subst e3_; subst e4_; subst e5_; subst e6_; subst e7_; subst e8_; subst e9_; subst e10_; subst e11_; subst e12_; subst e13_; subst e14_; subst e15_; subst e16_; subst e17_
      have hP9 := hP.sub (ws' := [(hq, .inr (3, [.ref qm, .ref qf, .ref ql, .int nc20, .int nd20, .int nf20, .int na20, .int nz20, .int no20, .int ns20, .int nv20, .int np20, .ref qi, .int nn20, .ref qo, .int nt20])), (qm, .inl (cI, 104, .inl nm20)), (qf, .inl (cI, 104, .inl nb20)), (ql, .inl (cI, 4, .inl nl20)), (qi, .inl (cI, 24, .inl ni20)), (qo, .inl (cI, 16, .inl nu20))]) [0, 1, 2, 3, 4, 5] rfl
      have hD9 := hD.sub (ws' := [(hq, .inr (3, [.ref qm, .ref qf, .ref ql, .int nc20, .int nd20, .int nf20, .int na20, .int nz20, .int no20, .int ns20, .int nv20, .int np20, .ref qi, .int nn20, .ref qo, .int nt20])), (qm, .inl (cI, 104, .inl nm20)), (qf, .inl (cI, 104, .inl nb20)), (ql, .inl (cI, 4, .inl nl20)), (qi, .inl (cI, 24, .inl ni20)), (qo, .inl (cI, 16, .inl nu20))]) [0, 1, 2, 3, 4, 5] (by decide) rfl
      exact W.iret (v := r20) hx hb hr (fun t ht hW => ⟨⟨r20, (), rfl, rfl, by rw [ht]; exact hP9, va_K.moved hW.alike hK, hD9⟩, hS.F ht⟩) hS.2.2 d_Rf_carry_174
    have hf := ifn hf hc18
    refine lv_sipush (v := 27392) hx hb d_Rf_carry_149 (by decide) ?_
    refine lv_goto (tgt := 174) hx hb d_Rf_carry_152 rfl ?_
    obtain ⟨e1_, e2_, e3_, e4_, e5_, e6_, e7_, e8_, e9_, e10_, e11_, e12_, e13_, e14_, e15_, e16_, e17_⟩ := lf17 hf
    subst e1_; subst e2_; subst e3_; subst e4_; subst e5_; subst e6_; subst e7_; subst e8_; subst e9_; subst e10_; subst e11_; subst e12_; subst e13_; subst e14_; subst e15_; subst e16_; subst e17_
    have hP9 := hP.sub (ws' := [(hq, .inr (3, [.ref qm, .ref qf, .ref ql, .int nc, .int nd, .int nf, .int na, .int nz, .int no, .int ns, .int nv, .int np, .ref qi, .int nn, .ref qo, .int nt])), (qm, .inl (cI, 104, .inl nm)), (qf, .inl (cI, 104, .inl nb)), (ql, .inl (cI, 4, .inl nl)), (qi, .inl (cI, 24, .inl ni)), (qo, .inl (cI, 16, .inl nu))]) [0, 1, 2, 3, 4, 5] rfl
    have hD9 := hD.sub (ws' := [(hq, .inr (3, [.ref qm, .ref qf, .ref ql, .int nc, .int nd, .int nf, .int na, .int nz, .int no, .int ns, .int nv, .int np, .ref qi, .int nn, .ref qo, .int nt])), (qm, .inl (cI, 104, .inl nm)), (qf, .inl (cI, 104, .inl nb)), (ql, .inl (cI, 4, .inl nl)), (qi, .inl (cI, 24, .inl ni)), (qo, .inl (cI, 16, .inl nu))]) [0, 1, 2, 3, 4, 5] (by decide) rfl
    exact W.iret (v := 27392) hx hb hr (fun t ht hW => ⟨⟨27392, (), rfl, rfl, by rw [ht]; exact hP9, va_K.moved hW.alike hK, hD9⟩, hS.F ht⟩) hS.2.2 d_Rf_carry_174
  have hf := ifn hf hc16
  by_cases hc21 : a1 = 226
  · have hf := ift hf hc21
    refine lv_lookup (off := 185) (tgt := 186) hx hb d_Rf_carry_1 (by decide) (by rw [hc21]; rfl) rfl ?_
    refine lv_aload_n hx hb d_Rf_carry_186 rfl (lv_at hl 0 rfl) ?_
    refine lv_iload_n hx hb d_Rf_carry_187 rfl (lv_at hl 2 rfl) ?_
    obtain ⟨r22, nm22, nb22, nl22, nc22, nd22, nf22, na22, nz22, no22, ns22, nv22, np22, ni22, nn22, nu22, nt22, hg, hf⟩ := bd17_some hf
    refine xci (wr := []) (ctRf_grant l dC dI cI hq qm qf ql qi qo nm nb nl nc nd nf na nz no ns nv np ni nn nu nt a2 r22 nm22 nb22 nl22 nc22 nd22 nf22 na22 nz22 no22 ns22 nv22 np22 ni22 nn22 nu22 nt22 hg) ⟨hx, hb, hml, hown, hts⟩ (cwV (C := R_Rf) 1 hts (gV wq554 wq556 wq40 wq46 wq557) rfl rfl rfl (by decide +kernel) ⟨Nat.le_of_ble_eq_true rfl, Nat.le_of_ble_eq_true rfl⟩) hK hP hD hS hA [0, 1, 2, 3, 4, 5] [] rfl rfl rfl rfl (by decide) (ci := 3) (q0 := 0) rfl rfl rfl rfl hl.1 rfl (Nat.le_of_ble_eq_true rfl) d_Rf_carry_188 ⟨Nat.zero_le _, Nat.zero_le _⟩ (fun H locs hP hD hS => ?_)
    have hP : va_P (dC, dI) vwCl [(hq, .inr (3, [.ref qm, .ref qf, .ref ql, .int nc22, .int nd22, .int nf22, .int na22, .int nz22, .int no22, .int ns22, .int nv22, .int np22, .ref qi, .int nn22, .ref qo, .int nt22])), (qm, .inl (cI, 104, .inl nm22)), (qf, .inl (cI, 104, .inl nb22)), (ql, .inl (cI, 4, .inl nl22)), (qi, .inl (cI, 24, .inl ni22)), (qo, .inl (cI, 16, .inl nu22))] H := hP
    have hD : va_D A [(hq, .inr (3, [.ref qm, .ref qf, .ref ql, .int nc22, .int nd22, .int nf22, .int na22, .int nz22, .int no22, .int ns22, .int nv22, .int np22, .ref qi, .int nn22, .ref qo, .int nt22])), (qm, .inl (cI, 104, .inl nm22)), (qf, .inl (cI, 104, .inl nb22)), (ql, .inl (cI, 4, .inl nl22)), (qi, .inl (cI, 24, .inl ni22)), (qo, .inl (cI, 16, .inl nu22))] := hD
    obtain ⟨e1_, e2_, e3_, e4_, e5_, e6_, e7_, e8_, e9_, e10_, e11_, e12_, e13_, e14_, e15_, e16_, e17_⟩ := lf17 hf
    subst e1_; subst e2_; subst e3_; subst e4_; subst e5_; subst e6_; subst e7_; subst e8_; subst e9_; subst e10_; subst e11_; subst e12_; subst e13_; subst e14_; subst e15_; subst e16_; subst e17_
    have hP9 := hP.sub (ws' := [(hq, .inr (3, [.ref qm, .ref qf, .ref ql, .int nc22, .int nd22, .int nf22, .int na22, .int nz22, .int no22, .int ns22, .int nv22, .int np22, .ref qi, .int nn22, .ref qo, .int nt22])), (qm, .inl (cI, 104, .inl nm22)), (qf, .inl (cI, 104, .inl nb22)), (ql, .inl (cI, 4, .inl nl22)), (qi, .inl (cI, 24, .inl ni22)), (qo, .inl (cI, 16, .inl nu22))]) [0, 1, 2, 3, 4, 5] rfl
    have hD9 := hD.sub (ws' := [(hq, .inr (3, [.ref qm, .ref qf, .ref ql, .int nc22, .int nd22, .int nf22, .int na22, .int nz22, .int no22, .int ns22, .int nv22, .int np22, .ref qi, .int nn22, .ref qo, .int nt22])), (qm, .inl (cI, 104, .inl nm22)), (qf, .inl (cI, 104, .inl nb22)), (ql, .inl (cI, 4, .inl nl22)), (qi, .inl (cI, 24, .inl ni22)), (qo, .inl (cI, 16, .inl nu22))]) [0, 1, 2, 3, 4, 5] (by decide) rfl
    exact W.iret (v := r22) hx hb hr (fun t ht hW => ⟨⟨r22, (), rfl, rfl, by rw [ht]; exact hP9, va_K.moved hW.alike hK, hD9⟩, hS.F ht⟩) hS.2.2 d_Rf_carry_191
  have hf := ifn hf hc21
  refine lv_lookup (off := 191) (tgt := 192) hx hb d_Rf_carry_1 (by decide) (lk_cons (xne 32 rfl hc1) (lk_cons (xne 36 rfl hc3) (lk_cons (xne 44 rfl hc5) (lk_cons (xne 112 rfl hc7) (lk_cons (xne 114 rfl hc9) (lk_cons (xne 164 rfl hc11) (lk_cons (xne 176 rfl hc14) (lk_cons (xne 214 rfl hc16) (lk_cons (xne 226 rfl hc21) (lk_nil)))))))))) rfl ?_
  refine lv_aload_n hx hb d_Rf_carry_192 rfl (lv_at hl 0 rfl) ?_
  refine lv_iload_n hx hb d_Rf_carry_193 rfl (lv_at hl 1 rfl) ?_
  refine lv_bipush (v := 72) hx hb d_Rf_carry_194 (by decide) ?_
  refine lv_iconst (v := 4) hx hb d_Rf_carry_196 (by decide) ?_
  refine lv_iload_n hx hb d_Rf_carry_197 rfl (lv_at hl 2 rfl) ?_
  refine lv_imul hx hb d_Rf_carry_198 ?_
  refine lv_iadd hx hb d_Rf_carry_199 ?_
  refine lv_iload_n hx hb d_Rf_carry_200 rfl (lv_at hl 3 rfl) ?_
  obtain ⟨r23, nm23, nb23, nl23, nc23, nd23, nf23, na23, nz23, no23, ns23, nv23, np23, ni23, nn23, nu23, nt23, hg, hf⟩ := bd17_some hf
  refine xci (wr := []) (ctRf_shared l dC dI cI hq qm qf ql qi qo nm nb nl nc nd nf na nz no ns nv np ni nn nu nt a1 (72 + (4 * a2)) a3 r23 nm23 nb23 nl23 nc23 nd23 nf23 na23 nz23 no23 ns23 nv23 np23 ni23 nn23 nu23 nt23 hg) ⟨hx, hb, hml, hown, hts⟩ (cwV (C := R_Rf) 3 hts (gV wq558 wq560 wq41 wq46 wq561) rfl rfl rfl (by decide +kernel) ⟨Nat.le_of_ble_eq_true rfl, Nat.le_of_ble_eq_true rfl⟩) hK hP hD hS hA [0, 1, 2, 3, 4, 5] [] rfl rfl rfl rfl (by decide) (ci := 3) (q0 := 0) rfl rfl rfl rfl hl.1 rfl (Nat.le_of_ble_eq_true rfl) d_Rf_carry_201 ⟨Nat.zero_le _, Nat.zero_le _⟩ (fun H locs hP hD hS => ?_)
  have hP : va_P (dC, dI) vwCl [(hq, .inr (3, [.ref qm, .ref qf, .ref ql, .int nc23, .int nd23, .int nf23, .int na23, .int nz23, .int no23, .int ns23, .int nv23, .int np23, .ref qi, .int nn23, .ref qo, .int nt23])), (qm, .inl (cI, 104, .inl nm23)), (qf, .inl (cI, 104, .inl nb23)), (ql, .inl (cI, 4, .inl nl23)), (qi, .inl (cI, 24, .inl ni23)), (qo, .inl (cI, 16, .inl nu23))] H := hP
  have hD : va_D A [(hq, .inr (3, [.ref qm, .ref qf, .ref ql, .int nc23, .int nd23, .int nf23, .int na23, .int nz23, .int no23, .int ns23, .int nv23, .int np23, .ref qi, .int nn23, .ref qo, .int nt23])), (qm, .inl (cI, 104, .inl nm23)), (qf, .inl (cI, 104, .inl nb23)), (ql, .inl (cI, 4, .inl nl23)), (qi, .inl (cI, 24, .inl ni23)), (qo, .inl (cI, 16, .inl nu23))] := hD
  obtain ⟨e1_, e2_, e3_, e4_, e5_, e6_, e7_, e8_, e9_, e10_, e11_, e12_, e13_, e14_, e15_, e16_, e17_⟩ := lf17 hf
  subst e1_; subst e2_; subst e3_; subst e4_; subst e5_; subst e6_; subst e7_; subst e8_; subst e9_; subst e10_; subst e11_; subst e12_; subst e13_; subst e14_; subst e15_; subst e16_; subst e17_
  have hP9 := hP.sub (ws' := [(hq, .inr (3, [.ref qm, .ref qf, .ref ql, .int nc23, .int nd23, .int nf23, .int na23, .int nz23, .int no23, .int ns23, .int nv23, .int np23, .ref qi, .int nn23, .ref qo, .int nt23])), (qm, .inl (cI, 104, .inl nm23)), (qf, .inl (cI, 104, .inl nb23)), (ql, .inl (cI, 4, .inl nl23)), (qi, .inl (cI, 24, .inl ni23)), (qo, .inl (cI, 16, .inl nu23))]) [0, 1, 2, 3, 4, 5] rfl
  have hD9 := hD.sub (ws' := [(hq, .inr (3, [.ref qm, .ref qf, .ref ql, .int nc23, .int nd23, .int nf23, .int na23, .int nz23, .int no23, .int ns23, .int nv23, .int np23, .ref qi, .int nn23, .ref qo, .int nt23])), (qm, .inl (cI, 104, .inl nm23)), (qf, .inl (cI, 104, .inl nb23)), (ql, .inl (cI, 4, .inl nl23)), (qi, .inl (cI, 24, .inl ni23)), (qo, .inl (cI, 16, .inl nu23))]) [0, 1, 2, 3, 4, 5] (by decide) rfl
  exact W.iret (v := r23) hx hb hr (fun t ht hW => ⟨⟨r23, (), rfl, rfl, by rw [ht]; exact hP9, va_K.moved hW.alike hK, hD9⟩, hS.F ht⟩) hS.2.2 d_Rf_carry_204
theorem d_Rf_run_0 : decode b_Rf_run 0 = .ok (.aload_n 0, 1) := by decide +kernel
theorem d_Rf_run_1 : decode b_Rf_run 1 = .ok (.getfield 19, 3) := by decide +kernel
theorem d_Rf_run_4 : decode b_Rf_run 4 = .ok (.ifCond .ne 5, 3) := by decide +kernel
theorem d_Rf_run_7 : decode b_Rf_run 7 = .ok (.iconst (-1), 1) := by decide +kernel
theorem d_Rf_run_8 : decode b_Rf_run 8 = .ok (.ireturn, 1) := by decide +kernel
theorem d_Rf_run_9 : decode b_Rf_run 9 = .ok (.aload_n 0, 1) := by decide +kernel
theorem d_Rf_run_10 : decode b_Rf_run 10 = .ok (.iconst 0, 1) := by decide +kernel
theorem d_Rf_run_11 : decode b_Rf_run 11 = .ok (.putfield 42, 3) := by decide +kernel
theorem d_Rf_run_14 : decode b_Rf_run 14 = .ok (.aload_n 0, 1) := by decide +kernel
theorem d_Rf_run_15 : decode b_Rf_run 15 = .ok (.invokevirtual 96, 3) := by decide +kernel
theorem d_Rf_run_18 : decode b_Rf_run 18 = .ok (.istore_n 1, 1) := by decide +kernel
theorem d_Rf_run_19 : decode b_Rf_run 19 = .ok (.iload_n 1, 1) := by decide +kernel
theorem d_Rf_run_20 : decode b_Rf_run 20 = .ok (.ifCond .ne 28, 3) := by decide +kernel
theorem d_Rf_run_23 : decode b_Rf_run 23 = .ok (.aload_n 0, 1) := by decide +kernel
theorem d_Rf_run_24 : decode b_Rf_run 24 = .ok (.aload_n 0, 1) := by decide +kernel
theorem d_Rf_run_25 : decode b_Rf_run 25 = .ok (.getfield 27, 3) := by decide +kernel
theorem d_Rf_run_28 : decode b_Rf_run 28 = .ok (.iconst 1, 1) := by decide +kernel
theorem d_Rf_run_29 : decode b_Rf_run 29 = .ok (.iaload, 1) := by decide +kernel
theorem d_Rf_run_30 : decode b_Rf_run 30 = .ok (.aload_n 0, 1) := by decide +kernel
theorem d_Rf_run_31 : decode b_Rf_run 31 = .ok (.getfield 27, 3) := by decide +kernel
theorem d_Rf_run_34 : decode b_Rf_run 34 = .ok (.iconst 2, 1) := by decide +kernel
theorem d_Rf_run_35 : decode b_Rf_run 35 = .ok (.iaload, 1) := by decide +kernel
theorem d_Rf_run_36 : decode b_Rf_run 36 = .ok (.aload_n 0, 1) := by decide +kernel
theorem d_Rf_run_37 : decode b_Rf_run 37 = .ok (.getfield 27, 3) := by decide +kernel
theorem d_Rf_run_40 : decode b_Rf_run 40 = .ok (.iconst 3, 1) := by decide +kernel
theorem d_Rf_run_41 : decode b_Rf_run 41 = .ok (.iaload, 1) := by decide +kernel
theorem d_Rf_run_42 : decode b_Rf_run 42 = .ok (.invokevirtual 99, 3) := by decide +kernel
theorem d_Rf_run_45 : decode b_Rf_run 45 = .ok (.goto 4, 3) := by decide +kernel
theorem d_Rf_run_48 : decode b_Rf_run 48 = .ok (.iload_n 1, 1) := by decide +kernel
theorem d_Rf_run_49 : decode b_Rf_run 49 = .ok (.istore_n 1, 1) := by decide +kernel
theorem d_Rf_run_50 : decode b_Rf_run 50 = .ok (.aload_n 0, 1) := by decide +kernel
theorem d_Rf_run_51 : decode b_Rf_run 51 = .ok (.iconst 0, 1) := by decide +kernel
theorem d_Rf_run_52 : decode b_Rf_run 52 = .ok (.putfield 39, 3) := by decide +kernel
theorem d_Rf_run_55 : decode b_Rf_run 55 = .ok (.aload_n 0, 1) := by decide +kernel
theorem d_Rf_run_56 : decode b_Rf_run 56 = .ok (.iload_n 1, 1) := by decide +kernel
theorem d_Rf_run_57 : decode b_Rf_run 57 = .ok (.ldc 103, 2) := by decide +kernel
theorem d_Rf_run_59 : decode b_Rf_run 59 = .ok (.if_icmp .ne 10, 3) := by decide +kernel
theorem d_Rf_run_62 : decode b_Rf_run 62 = .ok (.aload_n 0, 1) := by decide +kernel
theorem d_Rf_run_63 : decode b_Rf_run 63 = .ok (.getfield 42, 3) := by decide +kernel
theorem d_Rf_run_66 : decode b_Rf_run 66 = .ok (.goto 4, 3) := by decide +kernel
theorem d_Rf_run_69 : decode b_Rf_run 69 = .ok (.iconst 0, 1) := by decide +kernel
theorem d_Rf_run_70 : decode b_Rf_run 70 = .ok (.putfield 42, 3) := by decide +kernel
theorem d_Rf_run_73 : decode b_Rf_run 73 = .ok (.iload_n 1, 1) := by decide +kernel
theorem d_Rf_run_74 : decode b_Rf_run 74 = .ok (.ireturn, 1) := by decide +kernel
def fRf_run (σ : StR) : Option (Int32 × StR) := match σ with | (nm, nb, nl, nc, nd, nf, na, nz, no, ns, nv, np, ni, nn, nu, nt) => if no = 0 then (some ((-1), nm, nb, nl, nc, nd, nf, na, nz, no, ns, nv, np, ni, nn, nu, nt)) else (bd1 (fRf_refuse (nm, nb, nl, nc, nd, nf, na, nz, no, ns, nv, np, ni, nn, nu, 0)) fun r2 => if r2 = 0 then (ix 1 24 fun j5 => ix 2 24 fun j6 => ix 3 24 fun j7 => bd17 (fRf_carry (nm, nb, nl, nc, nd, nf, na, nz, no, ns, nv, np, ni, nn, nu, 0) (ni j5) (ni j6) (ni j7)) fun r8 nm8 nb8 nl8 nc8 nd8 nf8 na8 nz8 no8 ns8 nv8 np8 ni8 nn8 nu8 nt8 => if r8 = 36864 then (some (r8, nm8, nb8, nl8, nc8, nd8, nf8, na8, nz8, no8, ns8, nv8, np8, ni8, 0, nu8, nt8)) else (some (r8, nm8, nb8, nl8, nc8, nd8, nf8, na8, nz8, no8, ns8, nv8, np8, ni8, 0, nu8, 0))) else (if r2 = 36864 then (some (r2, nm, nb, nl, nc, nd, nf, na, nz, no, ns, nv, np, ni, 0, nu, 0)) else (some (r2, nm, nb, nl, nc, nd, nf, na, nz, no, ns, nv, np, ni, 0, nu, 0))))
set_option maxHeartbeats 4000000 in
set_option maxRecDepth 100000 in
theorem ctRf_run (l : Launch) (dC : Nat → ClassId) (dI : Nat → Nat → Nat) (cI : ClassId) (hq qm qf ql qi qo : Nat) (nm : Nat → Int32) (nb : Nat → Int32) (nl : Nat → Int32) (nc : Int32) (nd : Int32) (nf : Int32) (na : Int32) (nz : Int32) (no : Int32) (ns : Int32) (nv : Int32) (np : Int32) (ni : Nat → Int32) (nn : Int32) (nu : Nat → Int32) (nt : Int32) (r : Int32) (nm' : Nat → Int32) (nb' : Nat → Int32) (nl' : Nat → Int32) (nc' : Int32) (nd' : Int32) (nf' : Int32) (na' : Int32) (nz' : Int32) (no' : Int32) (ns' : Int32) (nv' : Int32) (np' : Int32) (ni' : Nat → Int32) (nn' : Int32) (nu' : Nat → Int32) (nt' : Int32) (hf : fRf_run (nm, nb, nl, nc, nd, nf, na, nz, no, ns, nv, np, ni, nn, nu, nt) = some (r, nm', nb', nl', nc', nd', nf', na', nz', no', ns', nv', np', ni', nn', nu', nt')) : CtI l y_Rf_run w_Rf_run ({ frames := 7, cells := 0, slots := 0, locals := 158 }) (dC, dI) [(cI, .int)] [.ref hq] [(hq, .inr (3, [.ref qm, .ref qf, .ref ql, .int nc, .int nd, .int nf, .int na, .int nz, .int no, .int ns, .int nv, .int np, .ref qi, .int nn, .ref qo, .int nt])), (qm, .inl (cI, 104, .inl nm)), (qf, .inl (cI, 104, .inl nb)), (ql, .inl (cI, 4, .inl nl)), (qi, .inl (cI, 24, .inl ni)), (qo, .inl (cI, 16, .inl nu))] [(hq, .inr (3, [.ref qm, .ref qf, .ref ql, .int nc', .int nd', .int nf', .int na', .int nz', .int no', .int ns', .int nv', .int np', .ref qi, .int nn', .ref qo, .int nt'])), (qm, .inl (cI, 104, .inl nm')), (qf, .inl (cI, 104, .inl nb')), (ql, .inl (cI, 4, .inl nl')), (qi, .inl (cI, 24, .inl ni')), (qo, .inl (cI, 16, .inl nu'))] r := by
  intro sz
  refine Met.ofW (cc := b_Rf_run) (maxL := 2) (ret := some .int) (by decide) rfl ?_
  intro p e s m args below meth c s₁ B hml hv
  obtain ⟨rfl, hsz, hP, hK, hD0⟩ := hv
  have hx := B.exec
  have hb := B.bytes
  have hr := B.returns
  have hts := atoms_spec (ws := w_Rf_run) B.pre
  have hown : s.vm.findClass R_Rf = some m.cls := findClass_of_methodNamed B.named
  have hlocks := B.notSynchronized
  subst hsz
  have hD := hD0.self (sz := s.heap.size)
  generalize hAe : va_A [(hq, .inr (3, [.ref qm, .ref qf, .ref ql, .int nc, .int nd, .int nf, .int na, .int nz, .int no, .int ns, .int nv, .int np, .ref qi, .int nn, .ref qo, .int nt])), (qm, .inl (cI, 104, .inl nm)), (qf, .inl (cI, 104, .inl nb)), (ql, .inl (cI, 4, .inl nl)), (qi, .inl (cI, 24, .inl ni)), (qo, .inl (cI, 16, .inl nu))] s.heap.size = A at hD ⊢
  have hA : ∀ q : Nat, s.heap.size ≤ q → A q := fun q h => by rw [← hAe]; exact Or.inr h
  have hS : va_S A s.heap s.heap [] := va_S.rf
  have hP : va_P (dC, dI) vwCl [(hq, .inr (3, [.ref qm, .ref qf, .ref ql, .int nc, .int nd, .int nf, .int na, .int nz, .int no, .int ns, .int nv, .int np, .ref qi, .int nn, .ref qo, .int nt])), (qm, .inl (cI, 104, .inl nm)), (qf, .inl (cI, 104, .inl nb)), (ql, .inl (cI, 4, .inl nl)), (qi, .inl (cI, 24, .inl ni)), (qo, .inl (cI, 16, .inl nu))] s.heap := hP
  have hl := lv_entry ([.ref hq]) (n := 2) (Nat.le_of_ble_eq_true rfl)
  rw [lg_entry_eq]
  generalize (lg_sl ([.ref hq]) ++ List.replicate (2 - (lg_sl ([.ref hq])).length) Slot.unset).toArray = ls at hl ⊢
  have hl : lv_has ls 2 [(0, .ref hq)] := hl
  have inRf : ∀ w ∈ u_ws R_Rf F_Rf 16, w ∈ w_Rf_run := fun w h => List.mem_cons_of_mem _ (in_Rf w h)
  have kc103 := hts _ (List.mem_cons_of_mem _ wq521)
  have kf19 := hts _ (List.mem_cons_of_mem _ wq414)
  have kf27 := hts _ (List.mem_cons_of_mem _ wq418)
  have kf39 := hts _ (List.mem_cons_of_mem _ wq419)
  have kf42 := hts _ (List.mem_cons_of_mem _ wq421)
  rw [fRf_run] at hf
  refine lv_aload_n hx hb d_Rf_run_0 rfl (lv_at hl 0 rfl) ?_
  refine va_get (D := (dC, dI)) (ci := 3) (v := .int no) (C := R_Rf) (T := F_Rf) (N := 16) hx hb hts inRf hown hK hP 0 rfl rfl 8 (by decide) kf19 (fun _ h9 => h9) rfl d_Rf_run_1 ?_
  refine lv_if_ne (tgt := 9) hx hb d_Rf_run_4 rfl (fun hc1 => ?_) (fun hc1 => ?_)
  · have hf := ifn hf hc1
    refine lv_aload_n hx hb d_Rf_run_9 rfl (lv_at hl 0 rfl) ?_
    refine lv_iconst (v := 0) hx hb d_Rf_run_10 (by decide) ?_
    refine va_put (D := (dC, dI)) (ci := 3) (v := .int 0) (ty := .int) (C := R_Rf) (T := F_Rf) (N := 16) hx hb hts inRf t_Rf t_Rf_ok n_Rf hown hK hP hD hS 0 rfl rfl 15 (by decide) kf42 (fun _ h9 => h9) rfl (by decide +kernel) rfl rfl (Nat.le_of_ble_eq_true rfl) d_Rf_run_11 (fun H locs hP hD hS => ?_)
    have hP : va_P (dC, dI) vwCl [(hq, .inr (3, [.ref qm, .ref qf, .ref ql, .int nc, .int nd, .int nf, .int na, .int nz, .int no, .int ns, .int nv, .int np, .ref qi, .int nn, .ref qo, .int 0])), (qm, .inl (cI, 104, .inl nm)), (qf, .inl (cI, 104, .inl nb)), (ql, .inl (cI, 4, .inl nl)), (qi, .inl (cI, 24, .inl ni)), (qo, .inl (cI, 16, .inl nu))] H := hP
    have hD : va_D A [(hq, .inr (3, [.ref qm, .ref qf, .ref ql, .int nc, .int nd, .int nf, .int na, .int nz, .int no, .int ns, .int nv, .int np, .ref qi, .int nn, .ref qo, .int 0])), (qm, .inl (cI, 104, .inl nm)), (qf, .inl (cI, 104, .inl nb)), (ql, .inl (cI, 4, .inl nl)), (qi, .inl (cI, 24, .inl ni)), (qo, .inl (cI, 16, .inl nu))] := hD
    refine lv_aload_n hx hb d_Rf_run_14 rfl (lv_at hl 0 rfl) ?_
    obtain ⟨r2, hg, hf⟩ := bd1_some hf
    refine xci (wr := []) (ctRf_refuse l dC dI cI hq qm qf ql qi qo nm nb nl nc nd nf na nz no ns nv np ni nn nu 0 r2 hg) ⟨hx, hb, hml, hown, hts⟩ (cwV (C := R_Rf) 0 hts (gV wq488 wq490 wq26 wq46 wq491) rfl rfl rfl (by decide +kernel) ⟨Nat.le_of_ble_eq_true rfl, Nat.le_of_ble_eq_true rfl⟩) hK hP hD hS hA [0, 1, 2, 3, 4, 5] [] rfl rfl rfl rfl (by decide) (ci := 3) (q0 := 0) rfl rfl rfl rfl hl.1 rfl (Nat.le_of_ble_eq_true rfl) d_Rf_run_15 ⟨Nat.zero_le _, Nat.zero_le _⟩ (fun H locs hP hD hS => ?_)
    have hP : va_P (dC, dI) vwCl [(hq, .inr (3, [.ref qm, .ref qf, .ref ql, .int nc, .int nd, .int nf, .int na, .int nz, .int no, .int ns, .int nv, .int np, .ref qi, .int nn, .ref qo, .int 0])), (qm, .inl (cI, 104, .inl nm)), (qf, .inl (cI, 104, .inl nb)), (ql, .inl (cI, 4, .inl nl)), (qi, .inl (cI, 24, .inl ni)), (qo, .inl (cI, 16, .inl nu))] H := hP
    have hD : va_D A [(hq, .inr (3, [.ref qm, .ref qf, .ref ql, .int nc, .int nd, .int nf, .int na, .int nz, .int no, .int ns, .int nv, .int np, .ref qi, .int nn, .ref qo, .int 0])), (qm, .inl (cI, 104, .inl nm)), (qf, .inl (cI, 104, .inl nb)), (ql, .inl (cI, 4, .inl nl)), (qi, .inl (cI, 24, .inl ni)), (qo, .inl (cI, 16, .inl nu))] := hD
    refine lv_istore_n hx hb d_Rf_run_18 rfl hl (by decide) rfl (fun ls hl => ?_)
    have hl : lv_has ls 2 [(1, .int r2), (0, .ref hq)] := hl
    refine lv_iload_n hx hb d_Rf_run_19 rfl (lv_at hl 0 rfl) ?_
    refine lv_if_ne (tgt := 48) hx hb d_Rf_run_20 rfl (fun hc3 => ?_) (fun hc3 => ?_)
    · have hf := ifn hf hc3
      refine lv_iload_n hx hb d_Rf_run_48 rfl (lv_at hl 0 rfl) ?_
      refine lv_istore_n hx hb d_Rf_run_49 rfl hl (by decide) rfl (fun ls hl => ?_)
      have hl : lv_has ls 2 [(1, .int r2), (0, .ref hq)] := hl
      refine lv_aload_n hx hb d_Rf_run_50 rfl (lv_at hl 1 rfl) ?_
      refine lv_iconst (v := 0) hx hb d_Rf_run_51 (by decide) ?_
      refine va_put (D := (dC, dI)) (ci := 3) (v := .int 0) (ty := .int) (C := R_Rf) (T := F_Rf) (N := 16) hx hb hts inRf t_Rf t_Rf_ok n_Rf hown hK hP hD hS 0 rfl rfl 13 (by decide) kf39 (fun _ h9 => h9) rfl (by decide +kernel) rfl rfl (Nat.le_of_ble_eq_true rfl) d_Rf_run_52 (fun H locs hP hD hS => ?_)
      have hP : va_P (dC, dI) vwCl [(hq, .inr (3, [.ref qm, .ref qf, .ref ql, .int nc, .int nd, .int nf, .int na, .int nz, .int no, .int ns, .int nv, .int np, .ref qi, .int 0, .ref qo, .int 0])), (qm, .inl (cI, 104, .inl nm)), (qf, .inl (cI, 104, .inl nb)), (ql, .inl (cI, 4, .inl nl)), (qi, .inl (cI, 24, .inl ni)), (qo, .inl (cI, 16, .inl nu))] H := hP
      have hD : va_D A [(hq, .inr (3, [.ref qm, .ref qf, .ref ql, .int nc, .int nd, .int nf, .int na, .int nz, .int no, .int ns, .int nv, .int np, .ref qi, .int 0, .ref qo, .int 0])), (qm, .inl (cI, 104, .inl nm)), (qf, .inl (cI, 104, .inl nb)), (ql, .inl (cI, 4, .inl nl)), (qi, .inl (cI, 24, .inl ni)), (qo, .inl (cI, 16, .inl nu))] := hD
      refine lv_aload_n hx hb d_Rf_run_55 rfl (lv_at hl 1 rfl) ?_
      refine lv_iload_n hx hb d_Rf_run_56 rfl (lv_at hl 0 rfl) ?_
      refine lv_ldc (v := 36864) hx hb hown kc103 d_Rf_run_57 ?_
      refine lv_icmp_ne (tgt := 69) hx hb d_Rf_run_59 rfl (fun hc4 => ?_) (fun hc4 => ?_)
      · have hf := ifn hf hc4
        refine lv_iconst (v := 0) hx hb d_Rf_run_69 (by decide) ?_
        refine va_put (D := (dC, dI)) (ci := 3) (v := .int 0) (ty := .int) (C := R_Rf) (T := F_Rf) (N := 16) hx hb hts inRf t_Rf t_Rf_ok n_Rf hown hK hP hD hS 0 rfl rfl 15 (by decide) kf42 (fun _ h9 => h9) rfl (by decide +kernel) rfl rfl (Nat.le_of_ble_eq_true rfl) d_Rf_run_70 (fun H locs hP hD hS => ?_)
        have hP : va_P (dC, dI) vwCl [(hq, .inr (3, [.ref qm, .ref qf, .ref ql, .int nc, .int nd, .int nf, .int na, .int nz, .int no, .int ns, .int nv, .int np, .ref qi, .int 0, .ref qo, .int 0])), (qm, .inl (cI, 104, .inl nm)), (qf, .inl (cI, 104, .inl nb)), (ql, .inl (cI, 4, .inl nl)), (qi, .inl (cI, 24, .inl ni)), (qo, .inl (cI, 16, .inl nu))] H := hP
        have hD : va_D A [(hq, .inr (3, [.ref qm, .ref qf, .ref ql, .int nc, .int nd, .int nf, .int na, .int nz, .int no, .int ns, .int nv, .int np, .ref qi, .int 0, .ref qo, .int 0])), (qm, .inl (cI, 104, .inl nm)), (qf, .inl (cI, 104, .inl nb)), (ql, .inl (cI, 4, .inl nl)), (qi, .inl (cI, 24, .inl ni)), (qo, .inl (cI, 16, .inl nu))] := hD
        refine lv_iload_n hx hb d_Rf_run_73 rfl (lv_at hl 0 rfl) ?_
        obtain ⟨e1_, e2_, e3_, e4_, e5_, e6_, e7_, e8_, e9_, e10_, e11_, e12_, e13_, e14_, e15_, e16_, e17_⟩ := lf17 hf
        subst e1_; subst e2_; subst e3_; subst e4_; subst e5_; subst e6_; subst e7_; subst e8_; subst e9_; subst e10_; subst e11_; subst e12_; subst e13_; subst e14_; subst e15_; subst e16_; subst e17_
        have hP9 := hP.sub (ws' := [(hq, .inr (3, [.ref qm, .ref qf, .ref ql, .int nc, .int nd, .int nf, .int na, .int nz, .int no, .int ns, .int nv, .int np, .ref qi, .int 0, .ref qo, .int 0])), (qm, .inl (cI, 104, .inl nm)), (qf, .inl (cI, 104, .inl nb)), (ql, .inl (cI, 4, .inl nl)), (qi, .inl (cI, 24, .inl ni)), (qo, .inl (cI, 16, .inl nu))]) [0, 1, 2, 3, 4, 5] rfl
        have hD9 := hD.sub (ws' := [(hq, .inr (3, [.ref qm, .ref qf, .ref ql, .int nc, .int nd, .int nf, .int na, .int nz, .int no, .int ns, .int nv, .int np, .ref qi, .int 0, .ref qo, .int 0])), (qm, .inl (cI, 104, .inl nm)), (qf, .inl (cI, 104, .inl nb)), (ql, .inl (cI, 4, .inl nl)), (qi, .inl (cI, 24, .inl ni)), (qo, .inl (cI, 16, .inl nu))]) [0, 1, 2, 3, 4, 5] (by decide) rfl
        exact W.iret (v := r2) hx hb hr (fun t ht hW => ⟨⟨r2, (), rfl, rfl, by rw [ht]; exact hP9, va_K.moved hW.alike hK, hD9⟩, hS.F ht⟩) hS.2.2 d_Rf_run_74
      have hf := ift hf hc4
      refine lv_aload_n hx hb d_Rf_run_62 rfl (lv_at hl 1 rfl) ?_
      refine va_get (D := (dC, dI)) (ci := 3) (v := .int 0) (C := R_Rf) (T := F_Rf) (N := 16) hx hb hts inRf hown hK hP 0 rfl rfl 15 (by decide) kf42 (fun _ h9 => h9) rfl d_Rf_run_63 ?_
      refine lv_goto (tgt := 70) hx hb d_Rf_run_66 rfl ?_
      refine va_put (D := (dC, dI)) (ci := 3) (v := .int 0) (ty := .int) (C := R_Rf) (T := F_Rf) (N := 16) hx hb hts inRf t_Rf t_Rf_ok n_Rf hown hK hP hD hS 0 rfl rfl 15 (by decide) kf42 (fun _ h9 => h9) rfl (by decide +kernel) rfl rfl (Nat.le_of_ble_eq_true rfl) d_Rf_run_70 (fun H locs hP hD hS => ?_)
      have hP : va_P (dC, dI) vwCl [(hq, .inr (3, [.ref qm, .ref qf, .ref ql, .int nc, .int nd, .int nf, .int na, .int nz, .int no, .int ns, .int nv, .int np, .ref qi, .int 0, .ref qo, .int 0])), (qm, .inl (cI, 104, .inl nm)), (qf, .inl (cI, 104, .inl nb)), (ql, .inl (cI, 4, .inl nl)), (qi, .inl (cI, 24, .inl ni)), (qo, .inl (cI, 16, .inl nu))] H := hP
      have hD : va_D A [(hq, .inr (3, [.ref qm, .ref qf, .ref ql, .int nc, .int nd, .int nf, .int na, .int nz, .int no, .int ns, .int nv, .int np, .ref qi, .int 0, .ref qo, .int 0])), (qm, .inl (cI, 104, .inl nm)), (qf, .inl (cI, 104, .inl nb)), (ql, .inl (cI, 4, .inl nl)), (qi, .inl (cI, 24, .inl ni)), (qo, .inl (cI, 16, .inl nu))] := hD
      refine lv_iload_n hx hb d_Rf_run_73 rfl (lv_at hl 0 rfl) ?_
      obtain ⟨e1_, e2_, e3_, e4_, e5_, e6_, e7_, e8_, e9_, e10_, e11_, e12_, e13_, e14_, e15_, e16_, e17_⟩ := lf17 hf
      subst e1_; subst e2_; subst e3_; subst e4_; subst e5_; subst e6_; subst e7_; subst e8_; subst e9_; subst e10_; subst e11_; subst e12_; subst e13_; subst e14_; subst e15_; subst e16_; subst e17_
      have hP9 := hP.sub (ws' := [(hq, .inr (3, [.ref qm, .ref qf, .ref ql, .int nc, .int nd, .int nf, .int na, .int nz, .int no, .int ns, .int nv, .int np, .ref qi, .int 0, .ref qo, .int 0])), (qm, .inl (cI, 104, .inl nm)), (qf, .inl (cI, 104, .inl nb)), (ql, .inl (cI, 4, .inl nl)), (qi, .inl (cI, 24, .inl ni)), (qo, .inl (cI, 16, .inl nu))]) [0, 1, 2, 3, 4, 5] rfl
      have hD9 := hD.sub (ws' := [(hq, .inr (3, [.ref qm, .ref qf, .ref ql, .int nc, .int nd, .int nf, .int na, .int nz, .int no, .int ns, .int nv, .int np, .ref qi, .int 0, .ref qo, .int 0])), (qm, .inl (cI, 104, .inl nm)), (qf, .inl (cI, 104, .inl nb)), (ql, .inl (cI, 4, .inl nl)), (qi, .inl (cI, 24, .inl ni)), (qo, .inl (cI, 16, .inl nu))]) [0, 1, 2, 3, 4, 5] (by decide) rfl
      exact W.iret (v := r2) hx hb hr (fun t ht hW => ⟨⟨r2, (), rfl, rfl, by rw [ht]; exact hP9, va_K.moved hW.alike hK, hD9⟩, hS.F ht⟩) hS.2.2 d_Rf_run_74
    have hf := ift hf hc3
    refine lv_aload_n hx hb d_Rf_run_23 rfl (lv_at hl 1 rfl) ?_
    refine lv_aload_n hx hb d_Rf_run_24 rfl (lv_at hl 1 rfl) ?_
    refine va_get (D := (dC, dI)) (ci := 3) (v := .ref qi) (C := R_Rf) (T := F_Rf) (N := 16) hx hb hts inRf hown hK hP 0 rfl rfl 12 (by decide) kf27 (fun _ h9 => h9) rfl d_Rf_run_25 ?_
    refine lv_iconst (v := 1) hx hb d_Rf_run_28 (by decide) ?_
    obtain ⟨hin_, hf⟩ := ix_some hf
    refine va_iald hx hb hK hP 4 0 rfl rfl hin_ d_Rf_run_29 ?_
    refine lv_aload_n hx hb d_Rf_run_30 rfl (lv_at hl 1 rfl) ?_
    refine va_get (D := (dC, dI)) (ci := 3) (v := .ref qi) (C := R_Rf) (T := F_Rf) (N := 16) hx hb hts inRf hown hK hP 0 rfl rfl 12 (by decide) kf27 (fun _ h9 => h9) rfl d_Rf_run_31 ?_
    refine lv_iconst (v := 2) hx hb d_Rf_run_34 (by decide) ?_
    obtain ⟨hin_, hf⟩ := ix_some hf
    refine va_iald hx hb hK hP 4 0 rfl rfl hin_ d_Rf_run_35 ?_
    refine lv_aload_n hx hb d_Rf_run_36 rfl (lv_at hl 1 rfl) ?_
    refine va_get (D := (dC, dI)) (ci := 3) (v := .ref qi) (C := R_Rf) (T := F_Rf) (N := 16) hx hb hts inRf hown hK hP 0 rfl rfl 12 (by decide) kf27 (fun _ h9 => h9) rfl d_Rf_run_37 ?_
    refine lv_iconst (v := 3) hx hb d_Rf_run_40 (by decide) ?_
    obtain ⟨hin_, hf⟩ := ix_some hf
    refine va_iald hx hb hK hP 4 0 rfl rfl hin_ d_Rf_run_41 ?_
    obtain ⟨r8, nm8, nb8, nl8, nc8, nd8, nf8, na8, nz8, no8, ns8, nv8, np8, ni8, nn8, nu8, nt8, hg, hf⟩ := bd17_some hf
    refine xci (wr := []) (ctRf_carry l dC dI cI hq qm qf ql qi qo nm nb nl nc nd nf na nz no ns nv np ni nn nu 0 (ni (1 : Int32).toNatClampNeg) (ni (2 : Int32).toNatClampNeg) (ni (3 : Int32).toNatClampNeg) r8 nm8 nb8 nl8 nc8 nd8 nf8 na8 nz8 no8 ns8 nv8 np8 ni8 nn8 nu8 nt8 hg) ⟨hx, hb, hml, hown, hts⟩ (cwV (C := R_Rf) 3 hts (gV wq513 wq515 wq30 wq46 wq516) rfl rfl rfl (by decide +kernel) ⟨Nat.le_of_ble_eq_true rfl, Nat.le_of_ble_eq_true rfl⟩) hK hP hD hS hA [0, 1, 2, 3, 4, 5] [] rfl rfl rfl rfl (by decide) (ci := 3) (q0 := 0) rfl rfl rfl rfl hl.1 rfl (Nat.le_of_ble_eq_true rfl) d_Rf_run_42 ⟨Nat.zero_le _, Nat.zero_le _⟩ (fun H locs hP hD hS => ?_)
    have hP : va_P (dC, dI) vwCl [(hq, .inr (3, [.ref qm, .ref qf, .ref ql, .int nc8, .int nd8, .int nf8, .int na8, .int nz8, .int no8, .int ns8, .int nv8, .int np8, .ref qi, .int nn8, .ref qo, .int nt8])), (qm, .inl (cI, 104, .inl nm8)), (qf, .inl (cI, 104, .inl nb8)), (ql, .inl (cI, 4, .inl nl8)), (qi, .inl (cI, 24, .inl ni8)), (qo, .inl (cI, 16, .inl nu8))] H := hP
    have hD : va_D A [(hq, .inr (3, [.ref qm, .ref qf, .ref ql, .int nc8, .int nd8, .int nf8, .int na8, .int nz8, .int no8, .int ns8, .int nv8, .int np8, .ref qi, .int nn8, .ref qo, .int nt8])), (qm, .inl (cI, 104, .inl nm8)), (qf, .inl (cI, 104, .inl nb8)), (ql, .inl (cI, 4, .inl nl8)), (qi, .inl (cI, 24, .inl ni8)), (qo, .inl (cI, 16, .inl nu8))] := hD
    refine lv_goto (tgt := 49) hx hb d_Rf_run_45 rfl ?_
    refine lv_istore_n hx hb d_Rf_run_49 rfl hl (by decide) rfl (fun ls hl => ?_)
    have hl : lv_has ls 2 [(1, .int r8), (0, .ref hq)] := hl
    refine lv_aload_n hx hb d_Rf_run_50 rfl (lv_at hl 1 rfl) ?_
    refine lv_iconst (v := 0) hx hb d_Rf_run_51 (by decide) ?_
    refine va_put (D := (dC, dI)) (ci := 3) (v := .int 0) (ty := .int) (C := R_Rf) (T := F_Rf) (N := 16) hx hb hts inRf t_Rf t_Rf_ok n_Rf hown hK hP hD hS 0 rfl rfl 13 (by decide) kf39 (fun _ h9 => h9) rfl (by decide +kernel) rfl rfl (Nat.le_of_ble_eq_true rfl) d_Rf_run_52 (fun H locs hP hD hS => ?_)
    have hP : va_P (dC, dI) vwCl [(hq, .inr (3, [.ref qm, .ref qf, .ref ql, .int nc8, .int nd8, .int nf8, .int na8, .int nz8, .int no8, .int ns8, .int nv8, .int np8, .ref qi, .int 0, .ref qo, .int nt8])), (qm, .inl (cI, 104, .inl nm8)), (qf, .inl (cI, 104, .inl nb8)), (ql, .inl (cI, 4, .inl nl8)), (qi, .inl (cI, 24, .inl ni8)), (qo, .inl (cI, 16, .inl nu8))] H := hP
    have hD : va_D A [(hq, .inr (3, [.ref qm, .ref qf, .ref ql, .int nc8, .int nd8, .int nf8, .int na8, .int nz8, .int no8, .int ns8, .int nv8, .int np8, .ref qi, .int 0, .ref qo, .int nt8])), (qm, .inl (cI, 104, .inl nm8)), (qf, .inl (cI, 104, .inl nb8)), (ql, .inl (cI, 4, .inl nl8)), (qi, .inl (cI, 24, .inl ni8)), (qo, .inl (cI, 16, .inl nu8))] := hD
    refine lv_aload_n hx hb d_Rf_run_55 rfl (lv_at hl 1 rfl) ?_
    refine lv_iload_n hx hb d_Rf_run_56 rfl (lv_at hl 0 rfl) ?_
    refine lv_ldc (v := 36864) hx hb hown kc103 d_Rf_run_57 ?_
    refine lv_icmp_ne (tgt := 69) hx hb d_Rf_run_59 rfl (fun hc9 => ?_) (fun hc9 => ?_)
    · have hf := ifn hf hc9
      refine lv_iconst (v := 0) hx hb d_Rf_run_69 (by decide) ?_
      refine va_put (D := (dC, dI)) (ci := 3) (v := .int 0) (ty := .int) (C := R_Rf) (T := F_Rf) (N := 16) hx hb hts inRf t_Rf t_Rf_ok n_Rf hown hK hP hD hS 0 rfl rfl 15 (by decide) kf42 (fun _ h9 => h9) rfl (by decide +kernel) rfl rfl (Nat.le_of_ble_eq_true rfl) d_Rf_run_70 (fun H locs hP hD hS => ?_)
      have hP : va_P (dC, dI) vwCl [(hq, .inr (3, [.ref qm, .ref qf, .ref ql, .int nc8, .int nd8, .int nf8, .int na8, .int nz8, .int no8, .int ns8, .int nv8, .int np8, .ref qi, .int 0, .ref qo, .int 0])), (qm, .inl (cI, 104, .inl nm8)), (qf, .inl (cI, 104, .inl nb8)), (ql, .inl (cI, 4, .inl nl8)), (qi, .inl (cI, 24, .inl ni8)), (qo, .inl (cI, 16, .inl nu8))] H := hP
      have hD : va_D A [(hq, .inr (3, [.ref qm, .ref qf, .ref ql, .int nc8, .int nd8, .int nf8, .int na8, .int nz8, .int no8, .int ns8, .int nv8, .int np8, .ref qi, .int 0, .ref qo, .int 0])), (qm, .inl (cI, 104, .inl nm8)), (qf, .inl (cI, 104, .inl nb8)), (ql, .inl (cI, 4, .inl nl8)), (qi, .inl (cI, 24, .inl ni8)), (qo, .inl (cI, 16, .inl nu8))] := hD
      refine lv_iload_n hx hb d_Rf_run_73 rfl (lv_at hl 0 rfl) ?_
      obtain ⟨e1_, e2_, e3_, e4_, e5_, e6_, e7_, e8_, e9_, e10_, e11_, e12_, e13_, e14_, e15_, e16_, e17_⟩ := lf17 hf
      subst e1_; subst e2_; subst e3_; subst e4_; subst e5_; subst e6_; subst e7_; subst e8_; subst e9_; subst e10_; subst e11_; subst e12_; subst e13_; subst e14_; subst e15_; subst e16_; subst e17_
      have hP9 := hP.sub (ws' := [(hq, .inr (3, [.ref qm, .ref qf, .ref ql, .int nc8, .int nd8, .int nf8, .int na8, .int nz8, .int no8, .int ns8, .int nv8, .int np8, .ref qi, .int 0, .ref qo, .int 0])), (qm, .inl (cI, 104, .inl nm8)), (qf, .inl (cI, 104, .inl nb8)), (ql, .inl (cI, 4, .inl nl8)), (qi, .inl (cI, 24, .inl ni8)), (qo, .inl (cI, 16, .inl nu8))]) [0, 1, 2, 3, 4, 5] rfl
      have hD9 := hD.sub (ws' := [(hq, .inr (3, [.ref qm, .ref qf, .ref ql, .int nc8, .int nd8, .int nf8, .int na8, .int nz8, .int no8, .int ns8, .int nv8, .int np8, .ref qi, .int 0, .ref qo, .int 0])), (qm, .inl (cI, 104, .inl nm8)), (qf, .inl (cI, 104, .inl nb8)), (ql, .inl (cI, 4, .inl nl8)), (qi, .inl (cI, 24, .inl ni8)), (qo, .inl (cI, 16, .inl nu8))]) [0, 1, 2, 3, 4, 5] (by decide) rfl
      exact W.iret (v := r8) hx hb hr (fun t ht hW => ⟨⟨r8, (), rfl, rfl, by rw [ht]; exact hP9, va_K.moved hW.alike hK, hD9⟩, hS.F ht⟩) hS.2.2 d_Rf_run_74
    have hf := ift hf hc9
    refine lv_aload_n hx hb d_Rf_run_62 rfl (lv_at hl 1 rfl) ?_
    refine va_get (D := (dC, dI)) (ci := 3) (v := .int nt8) (C := R_Rf) (T := F_Rf) (N := 16) hx hb hts inRf hown hK hP 0 rfl rfl 15 (by decide) kf42 (fun _ h9 => h9) rfl d_Rf_run_63 ?_
    refine lv_goto (tgt := 70) hx hb d_Rf_run_66 rfl ?_
    refine va_put (D := (dC, dI)) (ci := 3) (v := .int nt8) (ty := .int) (C := R_Rf) (T := F_Rf) (N := 16) hx hb hts inRf t_Rf t_Rf_ok n_Rf hown hK hP hD hS 0 rfl rfl 15 (by decide) kf42 (fun _ h9 => h9) rfl (by decide +kernel) rfl rfl (Nat.le_of_ble_eq_true rfl) d_Rf_run_70 (fun H locs hP hD hS => ?_)
    have hP : va_P (dC, dI) vwCl [(hq, .inr (3, [.ref qm, .ref qf, .ref ql, .int nc8, .int nd8, .int nf8, .int na8, .int nz8, .int no8, .int ns8, .int nv8, .int np8, .ref qi, .int 0, .ref qo, .int nt8])), (qm, .inl (cI, 104, .inl nm8)), (qf, .inl (cI, 104, .inl nb8)), (ql, .inl (cI, 4, .inl nl8)), (qi, .inl (cI, 24, .inl ni8)), (qo, .inl (cI, 16, .inl nu8))] H := hP
    have hD : va_D A [(hq, .inr (3, [.ref qm, .ref qf, .ref ql, .int nc8, .int nd8, .int nf8, .int na8, .int nz8, .int no8, .int ns8, .int nv8, .int np8, .ref qi, .int 0, .ref qo, .int nt8])), (qm, .inl (cI, 104, .inl nm8)), (qf, .inl (cI, 104, .inl nb8)), (ql, .inl (cI, 4, .inl nl8)), (qi, .inl (cI, 24, .inl ni8)), (qo, .inl (cI, 16, .inl nu8))] := hD
    refine lv_iload_n hx hb d_Rf_run_73 rfl (lv_at hl 0 rfl) ?_
    obtain ⟨e1_, e2_, e3_, e4_, e5_, e6_, e7_, e8_, e9_, e10_, e11_, e12_, e13_, e14_, e15_, e16_, e17_⟩ := lf17 hf
    subst e1_; subst e2_; subst e3_; subst e4_; subst e5_; subst e6_; subst e7_; subst e8_; subst e9_; subst e10_; subst e11_; subst e12_; subst e13_; subst e14_; subst e15_; subst e16_; subst e17_
    have hP9 := hP.sub (ws' := [(hq, .inr (3, [.ref qm, .ref qf, .ref ql, .int nc8, .int nd8, .int nf8, .int na8, .int nz8, .int no8, .int ns8, .int nv8, .int np8, .ref qi, .int 0, .ref qo, .int nt8])), (qm, .inl (cI, 104, .inl nm8)), (qf, .inl (cI, 104, .inl nb8)), (ql, .inl (cI, 4, .inl nl8)), (qi, .inl (cI, 24, .inl ni8)), (qo, .inl (cI, 16, .inl nu8))]) [0, 1, 2, 3, 4, 5] rfl
    have hD9 := hD.sub (ws' := [(hq, .inr (3, [.ref qm, .ref qf, .ref ql, .int nc8, .int nd8, .int nf8, .int na8, .int nz8, .int no8, .int ns8, .int nv8, .int np8, .ref qi, .int 0, .ref qo, .int nt8])), (qm, .inl (cI, 104, .inl nm8)), (qf, .inl (cI, 104, .inl nb8)), (ql, .inl (cI, 4, .inl nl8)), (qi, .inl (cI, 24, .inl ni8)), (qo, .inl (cI, 16, .inl nu8))]) [0, 1, 2, 3, 4, 5] (by decide) rfl
    exact W.iret (v := r8) hx hb hr (fun t ht hW => ⟨⟨r8, (), rfl, rfl, by rw [ht]; exact hP9, va_K.moved hW.alike hK, hD9⟩, hS.F ht⟩) hS.2.2 d_Rf_run_74
  have hf := ift hf hc1
  refine lv_iconst (v := (-1)) hx hb d_Rf_run_7 (by decide) ?_
  obtain ⟨e1_, e2_, e3_, e4_, e5_, e6_, e7_, e8_, e9_, e10_, e11_, e12_, e13_, e14_, e15_, e16_, e17_⟩ := lf17 hf
  subst e1_; subst e2_; subst e3_; subst e4_; subst e5_; subst e6_; subst e7_; subst e8_; subst e9_; subst e10_; subst e11_; subst e12_; subst e13_; subst e14_; subst e15_; subst e16_; subst e17_
  have hP9 := hP.sub (ws' := [(hq, .inr (3, [.ref qm, .ref qf, .ref ql, .int nc, .int nd, .int nf, .int na, .int nz, .int no, .int ns, .int nv, .int np, .ref qi, .int nn, .ref qo, .int nt])), (qm, .inl (cI, 104, .inl nm)), (qf, .inl (cI, 104, .inl nb)), (ql, .inl (cI, 4, .inl nl)), (qi, .inl (cI, 24, .inl ni)), (qo, .inl (cI, 16, .inl nu))]) [0, 1, 2, 3, 4, 5] rfl
  have hD9 := hD.sub (ws' := [(hq, .inr (3, [.ref qm, .ref qf, .ref ql, .int nc, .int nd, .int nf, .int na, .int nz, .int no, .int ns, .int nv, .int np, .ref qi, .int nn, .ref qo, .int nt])), (qm, .inl (cI, 104, .inl nm)), (qf, .inl (cI, 104, .inl nb)), (ql, .inl (cI, 4, .inl nl)), (qi, .inl (cI, 24, .inl ni)), (qo, .inl (cI, 16, .inl nu))]) [0, 1, 2, 3, 4, 5] (by decide) rfl
  exact W.iret (v := (-1)) hx hb hr (fun t ht hW => ⟨⟨(-1), (), rfl, rfl, by rw [ht]; exact hP9, va_K.moved hW.alike hK, hD9⟩, hS.F ht⟩) hS.2.2 d_Rf_run_8
theorem d_Rf_waiting_0 : decode b_Rf_waiting 0 = .ok (.aload_n 0, 1) := by decide +kernel
theorem d_Rf_waiting_1 : decode b_Rf_waiting 1 = .ok (.getfield 39, 3) := by decide +kernel
theorem d_Rf_waiting_4 : decode b_Rf_waiting 4 = .ok (.ireturn, 1) := by decide +kernel
def fRf_waiting (σ : StR) : Option (Int32) := match σ with | (nm, nb, nl, nc, nd, nf, na, nz, no, ns, nv, np, ni, nn, nu, nt) => some nn
set_option maxHeartbeats 4000000 in
set_option maxRecDepth 100000 in
theorem ctRf_waiting (l : Launch) (dC : Nat → ClassId) (dI : Nat → Nat → Nat) (cI : ClassId) (hq qm qf ql qi qo : Nat) (nm : Nat → Int32) (nb : Nat → Int32) (nl : Nat → Int32) (nc : Int32) (nd : Int32) (nf : Int32) (na : Int32) (nz : Int32) (no : Int32) (ns : Int32) (nv : Int32) (np : Int32) (ni : Nat → Int32) (nn : Int32) (nu : Nat → Int32) (nt : Int32) (r : Int32) (hf : fRf_waiting (nm, nb, nl, nc, nd, nf, na, nz, no, ns, nv, np, ni, nn, nu, nt) = some r) : CtI l y_Rf_waiting w_Rf_waiting ({ frames := 0, cells := 0, slots := 0, locals := 0 }) (dC, dI) [(cI, .int)] [.ref hq] [(hq, .inr (3, [.ref qm, .ref qf, .ref ql, .int nc, .int nd, .int nf, .int na, .int nz, .int no, .int ns, .int nv, .int np, .ref qi, .int nn, .ref qo, .int nt])), (qm, .inl (cI, 104, .inl nm)), (qf, .inl (cI, 104, .inl nb)), (ql, .inl (cI, 4, .inl nl)), (qi, .inl (cI, 24, .inl ni)), (qo, .inl (cI, 16, .inl nu))] [(hq, .inr (3, [.ref qm, .ref qf, .ref ql, .int nc, .int nd, .int nf, .int na, .int nz, .int no, .int ns, .int nv, .int np, .ref qi, .int nn, .ref qo, .int nt])), (qm, .inl (cI, 104, .inl nm)), (qf, .inl (cI, 104, .inl nb)), (ql, .inl (cI, 4, .inl nl)), (qi, .inl (cI, 24, .inl ni)), (qo, .inl (cI, 16, .inl nu))] r := by
  intro sz
  refine Met.ofW (cc := b_Rf_waiting) (maxL := 1) (ret := some .int) (by decide) rfl ?_
  intro p e s m args below meth c s₁ B hml hv
  obtain ⟨rfl, hsz, hP, hK, hD0⟩ := hv
  have hx := B.exec
  have hb := B.bytes
  have hr := B.returns
  have hts := atoms_spec (ws := w_Rf_waiting) B.pre
  have hown : s.vm.findClass R_Rf = some m.cls := findClass_of_methodNamed B.named
  have hlocks := B.notSynchronized
  subst hsz
  have hD := hD0.self (sz := s.heap.size)
  generalize hAe : va_A [(hq, .inr (3, [.ref qm, .ref qf, .ref ql, .int nc, .int nd, .int nf, .int na, .int nz, .int no, .int ns, .int nv, .int np, .ref qi, .int nn, .ref qo, .int nt])), (qm, .inl (cI, 104, .inl nm)), (qf, .inl (cI, 104, .inl nb)), (ql, .inl (cI, 4, .inl nl)), (qi, .inl (cI, 24, .inl ni)), (qo, .inl (cI, 16, .inl nu))] s.heap.size = A at hD ⊢
  have hA : ∀ q : Nat, s.heap.size ≤ q → A q := fun q h => by rw [← hAe]; exact Or.inr h
  have hS : va_S A s.heap s.heap [] := va_S.rf
  have hP : va_P (dC, dI) vwCl [(hq, .inr (3, [.ref qm, .ref qf, .ref ql, .int nc, .int nd, .int nf, .int na, .int nz, .int no, .int ns, .int nv, .int np, .ref qi, .int nn, .ref qo, .int nt])), (qm, .inl (cI, 104, .inl nm)), (qf, .inl (cI, 104, .inl nb)), (ql, .inl (cI, 4, .inl nl)), (qi, .inl (cI, 24, .inl ni)), (qo, .inl (cI, 16, .inl nu))] s.heap := hP
  have hl := lv_entry ([.ref hq]) (n := 1) (Nat.le_of_ble_eq_true rfl)
  rw [lg_entry_eq]
  generalize (lg_sl ([.ref hq]) ++ List.replicate (1 - (lg_sl ([.ref hq])).length) Slot.unset).toArray = ls at hl ⊢
  have hl : lv_has ls 1 [(0, .ref hq)] := hl
  have inRf : ∀ w ∈ u_ws R_Rf F_Rf 16, w ∈ w_Rf_waiting := fun w h => List.mem_cons_of_mem _ (in_Rf w h)
  have kf39 := hts _ (List.mem_cons_of_mem _ wq419)
  rw [fRf_waiting] at hf
  refine lv_aload_n hx hb d_Rf_waiting_0 rfl (lv_at hl 0 rfl) ?_
  refine va_get (D := (dC, dI)) (ci := 3) (v := .int nn) (C := R_Rf) (T := F_Rf) (N := 16) hx hb hts inRf hown hK hP 0 rfl rfl 13 (by decide) kf39 (fun _ h9 => h9) rfl d_Rf_waiting_1 ?_
  have e1_ := lf1 hf
  subst e1_
  have hP9 := hP.sub (ws' := [(hq, .inr (3, [.ref qm, .ref qf, .ref ql, .int nc, .int nd, .int nf, .int na, .int nz, .int no, .int ns, .int nv, .int np, .ref qi, .int nn, .ref qo, .int nt])), (qm, .inl (cI, 104, .inl nm)), (qf, .inl (cI, 104, .inl nb)), (ql, .inl (cI, 4, .inl nl)), (qi, .inl (cI, 24, .inl ni)), (qo, .inl (cI, 16, .inl nu))]) [0, 1, 2, 3, 4, 5] rfl
  have hD9 := hD.sub (ws' := [(hq, .inr (3, [.ref qm, .ref qf, .ref ql, .int nc, .int nd, .int nf, .int na, .int nz, .int no, .int ns, .int nv, .int np, .ref qi, .int nn, .ref qo, .int nt])), (qm, .inl (cI, 104, .inl nm)), (qf, .inl (cI, 104, .inl nb)), (ql, .inl (cI, 4, .inl nl)), (qi, .inl (cI, 24, .inl ni)), (qo, .inl (cI, 16, .inl nu))]) [0, 1, 2, 3, 4, 5] (by decide) rfl
  exact W.iret (v := nn) hx hb hr (fun t ht hW => ⟨⟨nn, (), rfl, rfl, by rw [ht]; exact hP9, va_K.moved hW.alike hK, hD9⟩, hS.F ht⟩) hS.2.2 d_Rf_waiting_4
theorem d_Rf_length_0 : decode b_Rf_length 0 = .ok (.aload_n 0, 1) := by decide +kernel
theorem d_Rf_length_1 : decode b_Rf_length 1 = .ok (.getfield 42, 3) := by decide +kernel
theorem d_Rf_length_4 : decode b_Rf_length 4 = .ok (.ireturn, 1) := by decide +kernel
def fRf_length (σ : StR) : Option (Int32) := match σ with | (nm, nb, nl, nc, nd, nf, na, nz, no, ns, nv, np, ni, nn, nu, nt) => some nt
set_option maxHeartbeats 4000000 in
set_option maxRecDepth 100000 in
theorem ctRf_length (l : Launch) (dC : Nat → ClassId) (dI : Nat → Nat → Nat) (cI : ClassId) (hq qm qf ql qi qo : Nat) (nm : Nat → Int32) (nb : Nat → Int32) (nl : Nat → Int32) (nc : Int32) (nd : Int32) (nf : Int32) (na : Int32) (nz : Int32) (no : Int32) (ns : Int32) (nv : Int32) (np : Int32) (ni : Nat → Int32) (nn : Int32) (nu : Nat → Int32) (nt : Int32) (r : Int32) (hf : fRf_length (nm, nb, nl, nc, nd, nf, na, nz, no, ns, nv, np, ni, nn, nu, nt) = some r) : CtI l y_Rf_length w_Rf_length ({ frames := 0, cells := 0, slots := 0, locals := 0 }) (dC, dI) [(cI, .int)] [.ref hq] [(hq, .inr (3, [.ref qm, .ref qf, .ref ql, .int nc, .int nd, .int nf, .int na, .int nz, .int no, .int ns, .int nv, .int np, .ref qi, .int nn, .ref qo, .int nt])), (qm, .inl (cI, 104, .inl nm)), (qf, .inl (cI, 104, .inl nb)), (ql, .inl (cI, 4, .inl nl)), (qi, .inl (cI, 24, .inl ni)), (qo, .inl (cI, 16, .inl nu))] [(hq, .inr (3, [.ref qm, .ref qf, .ref ql, .int nc, .int nd, .int nf, .int na, .int nz, .int no, .int ns, .int nv, .int np, .ref qi, .int nn, .ref qo, .int nt])), (qm, .inl (cI, 104, .inl nm)), (qf, .inl (cI, 104, .inl nb)), (ql, .inl (cI, 4, .inl nl)), (qi, .inl (cI, 24, .inl ni)), (qo, .inl (cI, 16, .inl nu))] r := by
  intro sz
  refine Met.ofW (cc := b_Rf_length) (maxL := 1) (ret := some .int) (by decide) rfl ?_
  intro p e s m args below meth c s₁ B hml hv
  obtain ⟨rfl, hsz, hP, hK, hD0⟩ := hv
  have hx := B.exec
  have hb := B.bytes
  have hr := B.returns
  have hts := atoms_spec (ws := w_Rf_length) B.pre
  have hown : s.vm.findClass R_Rf = some m.cls := findClass_of_methodNamed B.named
  have hlocks := B.notSynchronized
  subst hsz
  have hD := hD0.self (sz := s.heap.size)
  generalize hAe : va_A [(hq, .inr (3, [.ref qm, .ref qf, .ref ql, .int nc, .int nd, .int nf, .int na, .int nz, .int no, .int ns, .int nv, .int np, .ref qi, .int nn, .ref qo, .int nt])), (qm, .inl (cI, 104, .inl nm)), (qf, .inl (cI, 104, .inl nb)), (ql, .inl (cI, 4, .inl nl)), (qi, .inl (cI, 24, .inl ni)), (qo, .inl (cI, 16, .inl nu))] s.heap.size = A at hD ⊢
  have hA : ∀ q : Nat, s.heap.size ≤ q → A q := fun q h => by rw [← hAe]; exact Or.inr h
  have hS : va_S A s.heap s.heap [] := va_S.rf
  have hP : va_P (dC, dI) vwCl [(hq, .inr (3, [.ref qm, .ref qf, .ref ql, .int nc, .int nd, .int nf, .int na, .int nz, .int no, .int ns, .int nv, .int np, .ref qi, .int nn, .ref qo, .int nt])), (qm, .inl (cI, 104, .inl nm)), (qf, .inl (cI, 104, .inl nb)), (ql, .inl (cI, 4, .inl nl)), (qi, .inl (cI, 24, .inl ni)), (qo, .inl (cI, 16, .inl nu))] s.heap := hP
  have hl := lv_entry ([.ref hq]) (n := 1) (Nat.le_of_ble_eq_true rfl)
  rw [lg_entry_eq]
  generalize (lg_sl ([.ref hq]) ++ List.replicate (1 - (lg_sl ([.ref hq])).length) Slot.unset).toArray = ls at hl ⊢
  have hl : lv_has ls 1 [(0, .ref hq)] := hl
  have inRf : ∀ w ∈ u_ws R_Rf F_Rf 16, w ∈ w_Rf_length := fun w h => List.mem_cons_of_mem _ (in_Rf w h)
  have kf42 := hts _ (List.mem_cons_of_mem _ wq421)
  rw [fRf_length] at hf
  refine lv_aload_n hx hb d_Rf_length_0 rfl (lv_at hl 0 rfl) ?_
  refine va_get (D := (dC, dI)) (ci := 3) (v := .int nt) (C := R_Rf) (T := F_Rf) (N := 16) hx hb hts inRf hown hK hP 0 rfl rfl 15 (by decide) kf42 (fun _ h9 => h9) rfl d_Rf_length_1 ?_
  have e1_ := lf1 hf
  subst e1_
  have hP9 := hP.sub (ws' := [(hq, .inr (3, [.ref qm, .ref qf, .ref ql, .int nc, .int nd, .int nf, .int na, .int nz, .int no, .int ns, .int nv, .int np, .ref qi, .int nn, .ref qo, .int nt])), (qm, .inl (cI, 104, .inl nm)), (qf, .inl (cI, 104, .inl nb)), (ql, .inl (cI, 4, .inl nl)), (qi, .inl (cI, 24, .inl ni)), (qo, .inl (cI, 16, .inl nu))]) [0, 1, 2, 3, 4, 5] rfl
  have hD9 := hD.sub (ws' := [(hq, .inr (3, [.ref qm, .ref qf, .ref ql, .int nc, .int nd, .int nf, .int na, .int nz, .int no, .int ns, .int nv, .int np, .ref qi, .int nn, .ref qo, .int nt])), (qm, .inl (cI, 104, .inl nm)), (qf, .inl (cI, 104, .inl nb)), (ql, .inl (cI, 4, .inl nl)), (qi, .inl (cI, 24, .inl ni)), (qo, .inl (cI, 16, .inl nu))]) [0, 1, 2, 3, 4, 5] (by decide) rfl
  exact W.iret (v := nt) hx hb hr (fun t ht hW => ⟨⟨nt, (), rfl, rfl, by rw [ht]; exact hP9, va_K.moved hW.alike hK, hD9⟩, hS.F ht⟩) hS.2.2 d_Rf_length_4
theorem d_Rf_response_0 : decode b_Rf_response 0 = .ok (.iload_n 1, 1) := by decide +kernel
theorem d_Rf_response_1 : decode b_Rf_response 1 = .ok (.ifCond .lt 11, 3) := by decide +kernel
theorem d_Rf_response_4 : decode b_Rf_response 4 = .ok (.iload_n 1, 1) := by decide +kernel
theorem d_Rf_response_5 : decode b_Rf_response 5 = .ok (.aload_n 0, 1) := by decide +kernel
theorem d_Rf_response_6 : decode b_Rf_response 6 = .ok (.getfield 42, 3) := by decide +kernel
theorem d_Rf_response_9 : decode b_Rf_response 9 = .ok (.if_icmp .lt 8, 3) := by decide +kernel
theorem d_Rf_response_12 : decode b_Rf_response 12 = .ok (.bipush (-2), 2) := by decide +kernel
theorem d_Rf_response_14 : decode b_Rf_response 14 = .ok (.goto 9, 3) := by decide +kernel
theorem d_Rf_response_17 : decode b_Rf_response 17 = .ok (.aload_n 0, 1) := by decide +kernel
theorem d_Rf_response_18 : decode b_Rf_response 18 = .ok (.getfield 30, 3) := by decide +kernel
theorem d_Rf_response_21 : decode b_Rf_response 21 = .ok (.iload_n 1, 1) := by decide +kernel
theorem d_Rf_response_22 : decode b_Rf_response 22 = .ok (.iaload, 1) := by decide +kernel
theorem d_Rf_response_23 : decode b_Rf_response 23 = .ok (.ireturn, 1) := by decide +kernel
def fRf_response (σ : StR) (a1 : Int32) : Option (Int32) := match σ with | (nm, nb, nl, nc, nd, nf, na, nz, no, ns, nv, np, ni, nn, nu, nt) => if a1 < 0 then (some (-2)) else (if a1 < nt then (ix a1 16 fun j3 => some (nu j3)) else (some (-2)))
set_option maxHeartbeats 4000000 in
set_option maxRecDepth 100000 in
theorem ctRf_response (l : Launch) (dC : Nat → ClassId) (dI : Nat → Nat → Nat) (cI : ClassId) (hq qm qf ql qi qo : Nat) (nm : Nat → Int32) (nb : Nat → Int32) (nl : Nat → Int32) (nc : Int32) (nd : Int32) (nf : Int32) (na : Int32) (nz : Int32) (no : Int32) (ns : Int32) (nv : Int32) (np : Int32) (ni : Nat → Int32) (nn : Int32) (nu : Nat → Int32) (nt : Int32) (a1 : Int32) (r : Int32) (hf : fRf_response (nm, nb, nl, nc, nd, nf, na, nz, no, ns, nv, np, ni, nn, nu, nt) a1 = some r) : CtI l y_Rf_response w_Rf_response ({ frames := 0, cells := 0, slots := 0, locals := 0 }) (dC, dI) [(cI, .int)] [.ref hq, .int a1] [(hq, .inr (3, [.ref qm, .ref qf, .ref ql, .int nc, .int nd, .int nf, .int na, .int nz, .int no, .int ns, .int nv, .int np, .ref qi, .int nn, .ref qo, .int nt])), (qm, .inl (cI, 104, .inl nm)), (qf, .inl (cI, 104, .inl nb)), (ql, .inl (cI, 4, .inl nl)), (qi, .inl (cI, 24, .inl ni)), (qo, .inl (cI, 16, .inl nu))] [(hq, .inr (3, [.ref qm, .ref qf, .ref ql, .int nc, .int nd, .int nf, .int na, .int nz, .int no, .int ns, .int nv, .int np, .ref qi, .int nn, .ref qo, .int nt])), (qm, .inl (cI, 104, .inl nm)), (qf, .inl (cI, 104, .inl nb)), (ql, .inl (cI, 4, .inl nl)), (qi, .inl (cI, 24, .inl ni)), (qo, .inl (cI, 16, .inl nu))] r := by
  intro sz
  refine Met.ofW (cc := b_Rf_response) (maxL := 2) (ret := some .int) (by decide) rfl ?_
  intro p e s m args below meth c s₁ B hml hv
  obtain ⟨rfl, hsz, hP, hK, hD0⟩ := hv
  have hx := B.exec
  have hb := B.bytes
  have hr := B.returns
  have hts := atoms_spec (ws := w_Rf_response) B.pre
  have hown : s.vm.findClass R_Rf = some m.cls := findClass_of_methodNamed B.named
  have hlocks := B.notSynchronized
  subst hsz
  have hD := hD0.self (sz := s.heap.size)
  generalize hAe : va_A [(hq, .inr (3, [.ref qm, .ref qf, .ref ql, .int nc, .int nd, .int nf, .int na, .int nz, .int no, .int ns, .int nv, .int np, .ref qi, .int nn, .ref qo, .int nt])), (qm, .inl (cI, 104, .inl nm)), (qf, .inl (cI, 104, .inl nb)), (ql, .inl (cI, 4, .inl nl)), (qi, .inl (cI, 24, .inl ni)), (qo, .inl (cI, 16, .inl nu))] s.heap.size = A at hD ⊢
  have hA : ∀ q : Nat, s.heap.size ≤ q → A q := fun q h => by rw [← hAe]; exact Or.inr h
  have hS : va_S A s.heap s.heap [] := va_S.rf
  have hP : va_P (dC, dI) vwCl [(hq, .inr (3, [.ref qm, .ref qf, .ref ql, .int nc, .int nd, .int nf, .int na, .int nz, .int no, .int ns, .int nv, .int np, .ref qi, .int nn, .ref qo, .int nt])), (qm, .inl (cI, 104, .inl nm)), (qf, .inl (cI, 104, .inl nb)), (ql, .inl (cI, 4, .inl nl)), (qi, .inl (cI, 24, .inl ni)), (qo, .inl (cI, 16, .inl nu))] s.heap := hP
  have hl := lv_entry ([.ref hq, .int a1]) (n := 2) (Nat.le_of_ble_eq_true rfl)
  rw [lg_entry_eq]
  generalize (lg_sl ([.ref hq, .int a1]) ++ List.replicate (2 - (lg_sl ([.ref hq, .int a1])).length) Slot.unset).toArray = ls at hl ⊢
  have hl : lv_has ls 2 [(0, .ref hq), (1, .int a1)] := hl
  have inRf : ∀ w ∈ u_ws R_Rf F_Rf 16, w ∈ w_Rf_response := fun w h => List.mem_cons_of_mem _ (in_Rf w h)
  have kf30 := hts _ (List.mem_cons_of_mem _ wq420)
  have kf42 := hts _ (List.mem_cons_of_mem _ wq421)
  rw [fRf_response] at hf
  refine lv_iload_n hx hb d_Rf_response_0 rfl (lv_at hl 1 rfl) ?_
  refine lv_if_lt (tgt := 12) hx hb d_Rf_response_1 rfl (fun hc1 => ?_) (fun hc1 => ?_)
  · have hf := ift hf hc1
    refine lv_bipush (v := (-2)) hx hb d_Rf_response_12 (by decide) ?_
    refine lv_goto (tgt := 23) hx hb d_Rf_response_14 rfl ?_
    have e1_ := lf1 hf
    subst e1_
    have hP9 := hP.sub (ws' := [(hq, .inr (3, [.ref qm, .ref qf, .ref ql, .int nc, .int nd, .int nf, .int na, .int nz, .int no, .int ns, .int nv, .int np, .ref qi, .int nn, .ref qo, .int nt])), (qm, .inl (cI, 104, .inl nm)), (qf, .inl (cI, 104, .inl nb)), (ql, .inl (cI, 4, .inl nl)), (qi, .inl (cI, 24, .inl ni)), (qo, .inl (cI, 16, .inl nu))]) [0, 1, 2, 3, 4, 5] rfl
    have hD9 := hD.sub (ws' := [(hq, .inr (3, [.ref qm, .ref qf, .ref ql, .int nc, .int nd, .int nf, .int na, .int nz, .int no, .int ns, .int nv, .int np, .ref qi, .int nn, .ref qo, .int nt])), (qm, .inl (cI, 104, .inl nm)), (qf, .inl (cI, 104, .inl nb)), (ql, .inl (cI, 4, .inl nl)), (qi, .inl (cI, 24, .inl ni)), (qo, .inl (cI, 16, .inl nu))]) [0, 1, 2, 3, 4, 5] (by decide) rfl
    exact W.iret (v := (-2)) hx hb hr (fun t ht hW => ⟨⟨(-2), (), rfl, rfl, by rw [ht]; exact hP9, va_K.moved hW.alike hK, hD9⟩, hS.F ht⟩) hS.2.2 d_Rf_response_23
  have hf := ifn hf hc1
  refine lv_iload_n hx hb d_Rf_response_4 rfl (lv_at hl 1 rfl) ?_
  refine lv_aload_n hx hb d_Rf_response_5 rfl (lv_at hl 0 rfl) ?_
  refine va_get (D := (dC, dI)) (ci := 3) (v := .int nt) (C := R_Rf) (T := F_Rf) (N := 16) hx hb hts inRf hown hK hP 0 rfl rfl 15 (by decide) kf42 (fun _ h9 => h9) rfl d_Rf_response_6 ?_
  refine lv_icmp_lt (tgt := 17) hx hb d_Rf_response_9 rfl (fun hc2 => ?_) (fun hc2 => ?_)
  · have hf := ift hf hc2
    refine lv_aload_n hx hb d_Rf_response_17 rfl (lv_at hl 0 rfl) ?_
    refine va_get (D := (dC, dI)) (ci := 3) (v := .ref qo) (C := R_Rf) (T := F_Rf) (N := 16) hx hb hts inRf hown hK hP 0 rfl rfl 14 (by decide) kf30 (fun _ h9 => h9) rfl d_Rf_response_18 ?_
    refine lv_iload_n hx hb d_Rf_response_21 rfl (lv_at hl 1 rfl) ?_
    obtain ⟨hin_, hf⟩ := ix_some hf
    refine va_iald hx hb hK hP 5 0 rfl rfl hin_ d_Rf_response_22 ?_
    have e1_ := lf1 hf
    subst e1_
    have hP9 := hP.sub (ws' := [(hq, .inr (3, [.ref qm, .ref qf, .ref ql, .int nc, .int nd, .int nf, .int na, .int nz, .int no, .int ns, .int nv, .int np, .ref qi, .int nn, .ref qo, .int nt])), (qm, .inl (cI, 104, .inl nm)), (qf, .inl (cI, 104, .inl nb)), (ql, .inl (cI, 4, .inl nl)), (qi, .inl (cI, 24, .inl ni)), (qo, .inl (cI, 16, .inl nu))]) [0, 1, 2, 3, 4, 5] rfl
    have hD9 := hD.sub (ws' := [(hq, .inr (3, [.ref qm, .ref qf, .ref ql, .int nc, .int nd, .int nf, .int na, .int nz, .int no, .int ns, .int nv, .int np, .ref qi, .int nn, .ref qo, .int nt])), (qm, .inl (cI, 104, .inl nm)), (qf, .inl (cI, 104, .inl nb)), (ql, .inl (cI, 4, .inl nl)), (qi, .inl (cI, 24, .inl ni)), (qo, .inl (cI, 16, .inl nu))]) [0, 1, 2, 3, 4, 5] (by decide) rfl
    exact W.iret (v := nu (a1 : Int32).toNatClampNeg) hx hb hr (fun t ht hW => ⟨⟨nu (a1 : Int32).toNatClampNeg, (), rfl, rfl, by rw [ht]; exact hP9, va_K.moved hW.alike hK, hD9⟩, hS.F ht⟩) hS.2.2 d_Rf_response_23
  have hf := ifn hf hc2
  refine lv_bipush (v := (-2)) hx hb d_Rf_response_12 (by decide) ?_
  refine lv_goto (tgt := 23) hx hb d_Rf_response_14 rfl ?_
  have e1_ := lf1 hf
  subst e1_
  have hP9 := hP.sub (ws' := [(hq, .inr (3, [.ref qm, .ref qf, .ref ql, .int nc, .int nd, .int nf, .int na, .int nz, .int no, .int ns, .int nv, .int np, .ref qi, .int nn, .ref qo, .int nt])), (qm, .inl (cI, 104, .inl nm)), (qf, .inl (cI, 104, .inl nb)), (ql, .inl (cI, 4, .inl nl)), (qi, .inl (cI, 24, .inl ni)), (qo, .inl (cI, 16, .inl nu))]) [0, 1, 2, 3, 4, 5] rfl
  have hD9 := hD.sub (ws' := [(hq, .inr (3, [.ref qm, .ref qf, .ref ql, .int nc, .int nd, .int nf, .int na, .int nz, .int no, .int ns, .int nv, .int np, .ref qi, .int nn, .ref qo, .int nt])), (qm, .inl (cI, 104, .inl nm)), (qf, .inl (cI, 104, .inl nb)), (ql, .inl (cI, 4, .inl nl)), (qi, .inl (cI, 24, .inl ni)), (qo, .inl (cI, 16, .inl nu))]) [0, 1, 2, 3, 4, 5] (by decide) rfl
  exact W.iret (v := (-2)) hx hb hr (fun t ht hW => ⟨⟨(-2), (), rfl, rfl, by rw [ht]; exact hP9, va_K.moved hW.alike hK, hD9⟩, hS.F ht⟩) hS.2.2 d_Rf_response_23
theorem d_Rf_writes_0 : decode b_Rf_writes 0 = .ok (.aload_n 0, 1) := by decide +kernel
theorem d_Rf_writes_1 : decode b_Rf_writes 1 = .ok (.getfield 57, 3) := by decide +kernel
theorem d_Rf_writes_4 : decode b_Rf_writes 4 = .ok (.ireturn, 1) := by decide +kernel
def fRf_writes (σ : StR) : Option (Int32) := match σ with | (nm, nb, nl, nc, nd, nf, na, nz, no, ns, nv, np, ni, nn, nu, nt) => some nd
set_option maxHeartbeats 4000000 in
set_option maxRecDepth 100000 in
theorem ctRf_writes (l : Launch) (dC : Nat → ClassId) (dI : Nat → Nat → Nat) (cI : ClassId) (hq qm qf ql qi qo : Nat) (nm : Nat → Int32) (nb : Nat → Int32) (nl : Nat → Int32) (nc : Int32) (nd : Int32) (nf : Int32) (na : Int32) (nz : Int32) (no : Int32) (ns : Int32) (nv : Int32) (np : Int32) (ni : Nat → Int32) (nn : Int32) (nu : Nat → Int32) (nt : Int32) (r : Int32) (hf : fRf_writes (nm, nb, nl, nc, nd, nf, na, nz, no, ns, nv, np, ni, nn, nu, nt) = some r) : CtI l y_Rf_writes w_Rf_writes ({ frames := 0, cells := 0, slots := 0, locals := 0 }) (dC, dI) [(cI, .int)] [.ref hq] [(hq, .inr (3, [.ref qm, .ref qf, .ref ql, .int nc, .int nd, .int nf, .int na, .int nz, .int no, .int ns, .int nv, .int np, .ref qi, .int nn, .ref qo, .int nt])), (qm, .inl (cI, 104, .inl nm)), (qf, .inl (cI, 104, .inl nb)), (ql, .inl (cI, 4, .inl nl)), (qi, .inl (cI, 24, .inl ni)), (qo, .inl (cI, 16, .inl nu))] [(hq, .inr (3, [.ref qm, .ref qf, .ref ql, .int nc, .int nd, .int nf, .int na, .int nz, .int no, .int ns, .int nv, .int np, .ref qi, .int nn, .ref qo, .int nt])), (qm, .inl (cI, 104, .inl nm)), (qf, .inl (cI, 104, .inl nb)), (ql, .inl (cI, 4, .inl nl)), (qi, .inl (cI, 24, .inl ni)), (qo, .inl (cI, 16, .inl nu))] r := by
  intro sz
  refine Met.ofW (cc := b_Rf_writes) (maxL := 1) (ret := some .int) (by decide) rfl ?_
  intro p e s m args below meth c s₁ B hml hv
  obtain ⟨rfl, hsz, hP, hK, hD0⟩ := hv
  have hx := B.exec
  have hb := B.bytes
  have hr := B.returns
  have hts := atoms_spec (ws := w_Rf_writes) B.pre
  have hown : s.vm.findClass R_Rf = some m.cls := findClass_of_methodNamed B.named
  have hlocks := B.notSynchronized
  subst hsz
  have hD := hD0.self (sz := s.heap.size)
  generalize hAe : va_A [(hq, .inr (3, [.ref qm, .ref qf, .ref ql, .int nc, .int nd, .int nf, .int na, .int nz, .int no, .int ns, .int nv, .int np, .ref qi, .int nn, .ref qo, .int nt])), (qm, .inl (cI, 104, .inl nm)), (qf, .inl (cI, 104, .inl nb)), (ql, .inl (cI, 4, .inl nl)), (qi, .inl (cI, 24, .inl ni)), (qo, .inl (cI, 16, .inl nu))] s.heap.size = A at hD ⊢
  have hA : ∀ q : Nat, s.heap.size ≤ q → A q := fun q h => by rw [← hAe]; exact Or.inr h
  have hS : va_S A s.heap s.heap [] := va_S.rf
  have hP : va_P (dC, dI) vwCl [(hq, .inr (3, [.ref qm, .ref qf, .ref ql, .int nc, .int nd, .int nf, .int na, .int nz, .int no, .int ns, .int nv, .int np, .ref qi, .int nn, .ref qo, .int nt])), (qm, .inl (cI, 104, .inl nm)), (qf, .inl (cI, 104, .inl nb)), (ql, .inl (cI, 4, .inl nl)), (qi, .inl (cI, 24, .inl ni)), (qo, .inl (cI, 16, .inl nu))] s.heap := hP
  have hl := lv_entry ([.ref hq]) (n := 1) (Nat.le_of_ble_eq_true rfl)
  rw [lg_entry_eq]
  generalize (lg_sl ([.ref hq]) ++ List.replicate (1 - (lg_sl ([.ref hq])).length) Slot.unset).toArray = ls at hl ⊢
  have hl : lv_has ls 1 [(0, .ref hq)] := hl
  have inRf : ∀ w ∈ u_ws R_Rf F_Rf 16, w ∈ w_Rf_writes := fun w h => List.mem_cons_of_mem _ (in_Rf w h)
  have kf57 := hts _ (List.mem_cons_of_mem _ wq410)
  rw [fRf_writes] at hf
  refine lv_aload_n hx hb d_Rf_writes_0 rfl (lv_at hl 0 rfl) ?_
  refine va_get (D := (dC, dI)) (ci := 3) (v := .int nd) (C := R_Rf) (T := F_Rf) (N := 16) hx hb hts inRf hown hK hP 0 rfl rfl 4 (by decide) kf57 (fun _ h9 => h9) rfl d_Rf_writes_1 ?_
  have e1_ := lf1 hf
  subst e1_
  have hP9 := hP.sub (ws' := [(hq, .inr (3, [.ref qm, .ref qf, .ref ql, .int nc, .int nd, .int nf, .int na, .int nz, .int no, .int ns, .int nv, .int np, .ref qi, .int nn, .ref qo, .int nt])), (qm, .inl (cI, 104, .inl nm)), (qf, .inl (cI, 104, .inl nb)), (ql, .inl (cI, 4, .inl nl)), (qi, .inl (cI, 24, .inl ni)), (qo, .inl (cI, 16, .inl nu))]) [0, 1, 2, 3, 4, 5] rfl
  have hD9 := hD.sub (ws' := [(hq, .inr (3, [.ref qm, .ref qf, .ref ql, .int nc, .int nd, .int nf, .int na, .int nz, .int no, .int ns, .int nv, .int np, .ref qi, .int nn, .ref qo, .int nt])), (qm, .inl (cI, 104, .inl nm)), (qf, .inl (cI, 104, .inl nb)), (ql, .inl (cI, 4, .inl nl)), (qi, .inl (cI, 24, .inl ni)), (qo, .inl (cI, 16, .inl nu))]) [0, 1, 2, 3, 4, 5] (by decide) rfl
  exact W.iret (v := nd) hx hb hr (fun t ht hW => ⟨⟨nd, (), rfl, rfl, by rw [ht]; exact hP9, va_K.moved hW.alike hK, hD9⟩, hS.F ht⟩) hS.2.2 d_Rf_writes_4
theorem d_Rf_failures_0 : decode b_Rf_failures 0 = .ok (.aload_n 0, 1) := by decide +kernel
theorem d_Rf_failures_1 : decode b_Rf_failures 1 = .ok (.getfield 51, 3) := by decide +kernel
theorem d_Rf_failures_4 : decode b_Rf_failures 4 = .ok (.ireturn, 1) := by decide +kernel
def fRf_failures (σ : StR) : Option (Int32) := match σ with | (nm, nb, nl, nc, nd, nf, na, nz, no, ns, nv, np, ni, nn, nu, nt) => some nf
set_option maxHeartbeats 4000000 in
set_option maxRecDepth 100000 in
theorem ctRf_failures (l : Launch) (dC : Nat → ClassId) (dI : Nat → Nat → Nat) (cI : ClassId) (hq qm qf ql qi qo : Nat) (nm : Nat → Int32) (nb : Nat → Int32) (nl : Nat → Int32) (nc : Int32) (nd : Int32) (nf : Int32) (na : Int32) (nz : Int32) (no : Int32) (ns : Int32) (nv : Int32) (np : Int32) (ni : Nat → Int32) (nn : Int32) (nu : Nat → Int32) (nt : Int32) (r : Int32) (hf : fRf_failures (nm, nb, nl, nc, nd, nf, na, nz, no, ns, nv, np, ni, nn, nu, nt) = some r) : CtI l y_Rf_failures w_Rf_failures ({ frames := 0, cells := 0, slots := 0, locals := 0 }) (dC, dI) [(cI, .int)] [.ref hq] [(hq, .inr (3, [.ref qm, .ref qf, .ref ql, .int nc, .int nd, .int nf, .int na, .int nz, .int no, .int ns, .int nv, .int np, .ref qi, .int nn, .ref qo, .int nt])), (qm, .inl (cI, 104, .inl nm)), (qf, .inl (cI, 104, .inl nb)), (ql, .inl (cI, 4, .inl nl)), (qi, .inl (cI, 24, .inl ni)), (qo, .inl (cI, 16, .inl nu))] [(hq, .inr (3, [.ref qm, .ref qf, .ref ql, .int nc, .int nd, .int nf, .int na, .int nz, .int no, .int ns, .int nv, .int np, .ref qi, .int nn, .ref qo, .int nt])), (qm, .inl (cI, 104, .inl nm)), (qf, .inl (cI, 104, .inl nb)), (ql, .inl (cI, 4, .inl nl)), (qi, .inl (cI, 24, .inl ni)), (qo, .inl (cI, 16, .inl nu))] r := by
  intro sz
  refine Met.ofW (cc := b_Rf_failures) (maxL := 1) (ret := some .int) (by decide) rfl ?_
  intro p e s m args below meth c s₁ B hml hv
  obtain ⟨rfl, hsz, hP, hK, hD0⟩ := hv
  have hx := B.exec
  have hb := B.bytes
  have hr := B.returns
  have hts := atoms_spec (ws := w_Rf_failures) B.pre
  have hown : s.vm.findClass R_Rf = some m.cls := findClass_of_methodNamed B.named
  have hlocks := B.notSynchronized
  subst hsz
  have hD := hD0.self (sz := s.heap.size)
  generalize hAe : va_A [(hq, .inr (3, [.ref qm, .ref qf, .ref ql, .int nc, .int nd, .int nf, .int na, .int nz, .int no, .int ns, .int nv, .int np, .ref qi, .int nn, .ref qo, .int nt])), (qm, .inl (cI, 104, .inl nm)), (qf, .inl (cI, 104, .inl nb)), (ql, .inl (cI, 4, .inl nl)), (qi, .inl (cI, 24, .inl ni)), (qo, .inl (cI, 16, .inl nu))] s.heap.size = A at hD ⊢
  have hA : ∀ q : Nat, s.heap.size ≤ q → A q := fun q h => by rw [← hAe]; exact Or.inr h
  have hS : va_S A s.heap s.heap [] := va_S.rf
  have hP : va_P (dC, dI) vwCl [(hq, .inr (3, [.ref qm, .ref qf, .ref ql, .int nc, .int nd, .int nf, .int na, .int nz, .int no, .int ns, .int nv, .int np, .ref qi, .int nn, .ref qo, .int nt])), (qm, .inl (cI, 104, .inl nm)), (qf, .inl (cI, 104, .inl nb)), (ql, .inl (cI, 4, .inl nl)), (qi, .inl (cI, 24, .inl ni)), (qo, .inl (cI, 16, .inl nu))] s.heap := hP
  have hl := lv_entry ([.ref hq]) (n := 1) (Nat.le_of_ble_eq_true rfl)
  rw [lg_entry_eq]
  generalize (lg_sl ([.ref hq]) ++ List.replicate (1 - (lg_sl ([.ref hq])).length) Slot.unset).toArray = ls at hl ⊢
  have hl : lv_has ls 1 [(0, .ref hq)] := hl
  have inRf : ∀ w ∈ u_ws R_Rf F_Rf 16, w ∈ w_Rf_failures := fun w h => List.mem_cons_of_mem _ (in_Rf w h)
  have kf51 := hts _ (List.mem_cons_of_mem _ wq411)
  rw [fRf_failures] at hf
  refine lv_aload_n hx hb d_Rf_failures_0 rfl (lv_at hl 0 rfl) ?_
  refine va_get (D := (dC, dI)) (ci := 3) (v := .int nf) (C := R_Rf) (T := F_Rf) (N := 16) hx hb hts inRf hown hK hP 0 rfl rfl 5 (by decide) kf51 (fun _ h9 => h9) rfl d_Rf_failures_1 ?_
  have e1_ := lf1 hf
  subst e1_
  have hP9 := hP.sub (ws' := [(hq, .inr (3, [.ref qm, .ref qf, .ref ql, .int nc, .int nd, .int nf, .int na, .int nz, .int no, .int ns, .int nv, .int np, .ref qi, .int nn, .ref qo, .int nt])), (qm, .inl (cI, 104, .inl nm)), (qf, .inl (cI, 104, .inl nb)), (ql, .inl (cI, 4, .inl nl)), (qi, .inl (cI, 24, .inl ni)), (qo, .inl (cI, 16, .inl nu))]) [0, 1, 2, 3, 4, 5] rfl
  have hD9 := hD.sub (ws' := [(hq, .inr (3, [.ref qm, .ref qf, .ref ql, .int nc, .int nd, .int nf, .int na, .int nz, .int no, .int ns, .int nv, .int np, .ref qi, .int nn, .ref qo, .int nt])), (qm, .inl (cI, 104, .inl nm)), (qf, .inl (cI, 104, .inl nb)), (ql, .inl (cI, 4, .inl nl)), (qi, .inl (cI, 24, .inl ni)), (qo, .inl (cI, 16, .inl nu))]) [0, 1, 2, 3, 4, 5] (by decide) rfl
  exact W.iret (v := nf) hx hb hr (fun t ht hW => ⟨⟨nf, (), rfl, rfl, by rw [ht]; exact hP9, va_K.moved hW.alike hK, hD9⟩, hS.F ht⟩) hS.2.2 d_Rf_failures_4
theorem d_Rf_data_0 : decode b_Rf_data 0 = .ok (.iload_n 1, 1) := by decide +kernel
theorem d_Rf_data_1 : decode b_Rf_data 1 = .ok (.ifCond .lt 18, 3) := by decide +kernel
theorem d_Rf_data_4 : decode b_Rf_data 4 = .ok (.iload_n 1, 1) := by decide +kernel
theorem d_Rf_data_5 : decode b_Rf_data 5 = .ok (.iconst 3, 1) := by decide +kernel
theorem d_Rf_data_6 : decode b_Rf_data 6 = .ok (.if_icmp .gt 13, 3) := by decide +kernel
theorem d_Rf_data_9 : decode b_Rf_data 9 = .ok (.iload_n 2, 1) := by decide +kernel
theorem d_Rf_data_10 : decode b_Rf_data 10 = .ok (.ifCond .lt 9, 3) := by decide +kernel
theorem d_Rf_data_13 : decode b_Rf_data 13 = .ok (.iload_n 2, 1) := by decide +kernel
theorem d_Rf_data_14 : decode b_Rf_data 14 = .ok (.bipush 15, 2) := by decide +kernel
theorem d_Rf_data_16 : decode b_Rf_data 16 = .ok (.if_icmp .le 6, 3) := by decide +kernel
theorem d_Rf_data_19 : decode b_Rf_data 19 = .ok (.bipush (-2), 2) := by decide +kernel
theorem d_Rf_data_21 : decode b_Rf_data 21 = .ok (.ireturn, 1) := by decide +kernel
theorem d_Rf_data_22 : decode b_Rf_data 22 = .ok (.aload_n 0, 1) := by decide +kernel
theorem d_Rf_data_23 : decode b_Rf_data 23 = .ok (.getfield 19, 3) := by decide +kernel
theorem d_Rf_data_26 : decode b_Rf_data 26 = .ok (.ifCond .eq 17, 3) := by decide +kernel
theorem d_Rf_data_29 : decode b_Rf_data 29 = .ok (.aload_n 0, 1) := by decide +kernel
theorem d_Rf_data_30 : decode b_Rf_data 30 = .ok (.getfield 7, 3) := by decide +kernel
theorem d_Rf_data_33 : decode b_Rf_data 33 = .ok (.bipush 16, 2) := by decide +kernel
theorem d_Rf_data_35 : decode b_Rf_data 35 = .ok (.iload_n 1, 1) := by decide +kernel
theorem d_Rf_data_36 : decode b_Rf_data 36 = .ok (.imul, 1) := by decide +kernel
theorem d_Rf_data_37 : decode b_Rf_data 37 = .ok (.iload_n 2, 1) := by decide +kernel
theorem d_Rf_data_38 : decode b_Rf_data 38 = .ok (.iadd, 1) := by decide +kernel
theorem d_Rf_data_39 : decode b_Rf_data 39 = .ok (.iaload, 1) := by decide +kernel
theorem d_Rf_data_40 : decode b_Rf_data 40 = .ok (.goto 4, 3) := by decide +kernel
theorem d_Rf_data_43 : decode b_Rf_data 43 = .ok (.iconst (-1), 1) := by decide +kernel
theorem d_Rf_data_44 : decode b_Rf_data 44 = .ok (.ireturn, 1) := by decide +kernel
def fRf_data (σ : StR) (a1 : Int32) (a2 : Int32) : Option (Int32) := match σ with | (nm, nb, nl, nc, nd, nf, na, nz, no, ns, nv, np, ni, nn, nu, nt) => if a1 < 0 then (some (-2)) else (if 3 < a1 then (some (-2)) else (if a2 < 0 then (some (-2)) else (if a2 ≤ 15 then (if no = 0 then (some (-1)) else (ix ((16 * a1) + a2) 104 fun j6 => some (nm j6))) else (some (-2)))))
set_option maxHeartbeats 4000000 in
set_option maxRecDepth 100000 in
theorem ctRf_data (l : Launch) (dC : Nat → ClassId) (dI : Nat → Nat → Nat) (cI : ClassId) (hq qm qf ql qi qo : Nat) (nm : Nat → Int32) (nb : Nat → Int32) (nl : Nat → Int32) (nc : Int32) (nd : Int32) (nf : Int32) (na : Int32) (nz : Int32) (no : Int32) (ns : Int32) (nv : Int32) (np : Int32) (ni : Nat → Int32) (nn : Int32) (nu : Nat → Int32) (nt : Int32) (a1 : Int32) (a2 : Int32) (r : Int32) (hf : fRf_data (nm, nb, nl, nc, nd, nf, na, nz, no, ns, nv, np, ni, nn, nu, nt) a1 a2 = some r) : CtI l y_Rf_data w_Rf_data ({ frames := 0, cells := 0, slots := 0, locals := 0 }) (dC, dI) [(cI, .int)] [.ref hq, .int a1, .int a2] [(hq, .inr (3, [.ref qm, .ref qf, .ref ql, .int nc, .int nd, .int nf, .int na, .int nz, .int no, .int ns, .int nv, .int np, .ref qi, .int nn, .ref qo, .int nt])), (qm, .inl (cI, 104, .inl nm)), (qf, .inl (cI, 104, .inl nb)), (ql, .inl (cI, 4, .inl nl)), (qi, .inl (cI, 24, .inl ni)), (qo, .inl (cI, 16, .inl nu))] [(hq, .inr (3, [.ref qm, .ref qf, .ref ql, .int nc, .int nd, .int nf, .int na, .int nz, .int no, .int ns, .int nv, .int np, .ref qi, .int nn, .ref qo, .int nt])), (qm, .inl (cI, 104, .inl nm)), (qf, .inl (cI, 104, .inl nb)), (ql, .inl (cI, 4, .inl nl)), (qi, .inl (cI, 24, .inl ni)), (qo, .inl (cI, 16, .inl nu))] r := by
  intro sz
  refine Met.ofW (cc := b_Rf_data) (maxL := 3) (ret := some .int) (by decide) rfl ?_
  intro p e s m args below meth c s₁ B hml hv
  obtain ⟨rfl, hsz, hP, hK, hD0⟩ := hv
  have hx := B.exec
  have hb := B.bytes
  have hr := B.returns
  have hts := atoms_spec (ws := w_Rf_data) B.pre
  have hown : s.vm.findClass R_Rf = some m.cls := findClass_of_methodNamed B.named
  have hlocks := B.notSynchronized
  subst hsz
  have hD := hD0.self (sz := s.heap.size)
  generalize hAe : va_A [(hq, .inr (3, [.ref qm, .ref qf, .ref ql, .int nc, .int nd, .int nf, .int na, .int nz, .int no, .int ns, .int nv, .int np, .ref qi, .int nn, .ref qo, .int nt])), (qm, .inl (cI, 104, .inl nm)), (qf, .inl (cI, 104, .inl nb)), (ql, .inl (cI, 4, .inl nl)), (qi, .inl (cI, 24, .inl ni)), (qo, .inl (cI, 16, .inl nu))] s.heap.size = A at hD ⊢
  have hA : ∀ q : Nat, s.heap.size ≤ q → A q := fun q h => by rw [← hAe]; exact Or.inr h
  have hS : va_S A s.heap s.heap [] := va_S.rf
  have hP : va_P (dC, dI) vwCl [(hq, .inr (3, [.ref qm, .ref qf, .ref ql, .int nc, .int nd, .int nf, .int na, .int nz, .int no, .int ns, .int nv, .int np, .ref qi, .int nn, .ref qo, .int nt])), (qm, .inl (cI, 104, .inl nm)), (qf, .inl (cI, 104, .inl nb)), (ql, .inl (cI, 4, .inl nl)), (qi, .inl (cI, 24, .inl ni)), (qo, .inl (cI, 16, .inl nu))] s.heap := hP
  have hl := lv_entry ([.ref hq, .int a1, .int a2]) (n := 3) (Nat.le_of_ble_eq_true rfl)
  rw [lg_entry_eq]
  generalize (lg_sl ([.ref hq, .int a1, .int a2]) ++ List.replicate (3 - (lg_sl ([.ref hq, .int a1, .int a2])).length) Slot.unset).toArray = ls at hl ⊢
  have hl : lv_has ls 3 [(0, .ref hq), (1, .int a1), (2, .int a2)] := hl
  have inRf : ∀ w ∈ u_ws R_Rf F_Rf 16, w ∈ w_Rf_data := fun w h => List.mem_cons_of_mem _ (in_Rf w h)
  have kf19 := hts _ (List.mem_cons_of_mem _ wq414)
  have kf7 := hts _ (List.mem_cons_of_mem _ wq406)
  rw [fRf_data] at hf
  refine lv_iload_n hx hb d_Rf_data_0 rfl (lv_at hl 1 rfl) ?_
  refine lv_if_lt (tgt := 19) hx hb d_Rf_data_1 rfl (fun hc1 => ?_) (fun hc1 => ?_)
  · have hf := ift hf hc1
    refine lv_bipush (v := (-2)) hx hb d_Rf_data_19 (by decide) ?_
    have e1_ := lf1 hf
    subst e1_
    have hP9 := hP.sub (ws' := [(hq, .inr (3, [.ref qm, .ref qf, .ref ql, .int nc, .int nd, .int nf, .int na, .int nz, .int no, .int ns, .int nv, .int np, .ref qi, .int nn, .ref qo, .int nt])), (qm, .inl (cI, 104, .inl nm)), (qf, .inl (cI, 104, .inl nb)), (ql, .inl (cI, 4, .inl nl)), (qi, .inl (cI, 24, .inl ni)), (qo, .inl (cI, 16, .inl nu))]) [0, 1, 2, 3, 4, 5] rfl
    have hD9 := hD.sub (ws' := [(hq, .inr (3, [.ref qm, .ref qf, .ref ql, .int nc, .int nd, .int nf, .int na, .int nz, .int no, .int ns, .int nv, .int np, .ref qi, .int nn, .ref qo, .int nt])), (qm, .inl (cI, 104, .inl nm)), (qf, .inl (cI, 104, .inl nb)), (ql, .inl (cI, 4, .inl nl)), (qi, .inl (cI, 24, .inl ni)), (qo, .inl (cI, 16, .inl nu))]) [0, 1, 2, 3, 4, 5] (by decide) rfl
    exact W.iret (v := (-2)) hx hb hr (fun t ht hW => ⟨⟨(-2), (), rfl, rfl, by rw [ht]; exact hP9, va_K.moved hW.alike hK, hD9⟩, hS.F ht⟩) hS.2.2 d_Rf_data_21
  have hf := ifn hf hc1
  refine lv_iload_n hx hb d_Rf_data_4 rfl (lv_at hl 1 rfl) ?_
  refine lv_iconst (v := 3) hx hb d_Rf_data_5 (by decide) ?_
  refine lv_icmp_gt (tgt := 19) hx hb d_Rf_data_6 rfl (fun hc2 => ?_) (fun hc2 => ?_)
  · have hf := ift hf hc2
    refine lv_bipush (v := (-2)) hx hb d_Rf_data_19 (by decide) ?_
    have e1_ := lf1 hf
    subst e1_
    have hP9 := hP.sub (ws' := [(hq, .inr (3, [.ref qm, .ref qf, .ref ql, .int nc, .int nd, .int nf, .int na, .int nz, .int no, .int ns, .int nv, .int np, .ref qi, .int nn, .ref qo, .int nt])), (qm, .inl (cI, 104, .inl nm)), (qf, .inl (cI, 104, .inl nb)), (ql, .inl (cI, 4, .inl nl)), (qi, .inl (cI, 24, .inl ni)), (qo, .inl (cI, 16, .inl nu))]) [0, 1, 2, 3, 4, 5] rfl
    have hD9 := hD.sub (ws' := [(hq, .inr (3, [.ref qm, .ref qf, .ref ql, .int nc, .int nd, .int nf, .int na, .int nz, .int no, .int ns, .int nv, .int np, .ref qi, .int nn, .ref qo, .int nt])), (qm, .inl (cI, 104, .inl nm)), (qf, .inl (cI, 104, .inl nb)), (ql, .inl (cI, 4, .inl nl)), (qi, .inl (cI, 24, .inl ni)), (qo, .inl (cI, 16, .inl nu))]) [0, 1, 2, 3, 4, 5] (by decide) rfl
    exact W.iret (v := (-2)) hx hb hr (fun t ht hW => ⟨⟨(-2), (), rfl, rfl, by rw [ht]; exact hP9, va_K.moved hW.alike hK, hD9⟩, hS.F ht⟩) hS.2.2 d_Rf_data_21
  have hf := ifn hf hc2
  refine lv_iload_n hx hb d_Rf_data_9 rfl (lv_at hl 2 rfl) ?_
  refine lv_if_lt (tgt := 19) hx hb d_Rf_data_10 rfl (fun hc3 => ?_) (fun hc3 => ?_)
  · have hf := ift hf hc3
    refine lv_bipush (v := (-2)) hx hb d_Rf_data_19 (by decide) ?_
    have e1_ := lf1 hf
    subst e1_
    have hP9 := hP.sub (ws' := [(hq, .inr (3, [.ref qm, .ref qf, .ref ql, .int nc, .int nd, .int nf, .int na, .int nz, .int no, .int ns, .int nv, .int np, .ref qi, .int nn, .ref qo, .int nt])), (qm, .inl (cI, 104, .inl nm)), (qf, .inl (cI, 104, .inl nb)), (ql, .inl (cI, 4, .inl nl)), (qi, .inl (cI, 24, .inl ni)), (qo, .inl (cI, 16, .inl nu))]) [0, 1, 2, 3, 4, 5] rfl
    have hD9 := hD.sub (ws' := [(hq, .inr (3, [.ref qm, .ref qf, .ref ql, .int nc, .int nd, .int nf, .int na, .int nz, .int no, .int ns, .int nv, .int np, .ref qi, .int nn, .ref qo, .int nt])), (qm, .inl (cI, 104, .inl nm)), (qf, .inl (cI, 104, .inl nb)), (ql, .inl (cI, 4, .inl nl)), (qi, .inl (cI, 24, .inl ni)), (qo, .inl (cI, 16, .inl nu))]) [0, 1, 2, 3, 4, 5] (by decide) rfl
    exact W.iret (v := (-2)) hx hb hr (fun t ht hW => ⟨⟨(-2), (), rfl, rfl, by rw [ht]; exact hP9, va_K.moved hW.alike hK, hD9⟩, hS.F ht⟩) hS.2.2 d_Rf_data_21
  have hf := ifn hf hc3
  refine lv_iload_n hx hb d_Rf_data_13 rfl (lv_at hl 2 rfl) ?_
  refine lv_bipush (v := 15) hx hb d_Rf_data_14 (by decide) ?_
  refine lv_icmp_le (tgt := 22) hx hb d_Rf_data_16 rfl (fun hc4 => ?_) (fun hc4 => ?_)
  · have hf := ift hf hc4
    refine lv_aload_n hx hb d_Rf_data_22 rfl (lv_at hl 0 rfl) ?_
    refine va_get (D := (dC, dI)) (ci := 3) (v := .int no) (C := R_Rf) (T := F_Rf) (N := 16) hx hb hts inRf hown hK hP 0 rfl rfl 8 (by decide) kf19 (fun _ h9 => h9) rfl d_Rf_data_23 ?_
    refine lv_if_eq (tgt := 43) hx hb d_Rf_data_26 rfl (fun hc5 => ?_) (fun hc5 => ?_)
    · have hf := ift hf hc5
      refine lv_iconst (v := (-1)) hx hb d_Rf_data_43 (by decide) ?_
      have e1_ := lf1 hf
      subst e1_
      have hP9 := hP.sub (ws' := [(hq, .inr (3, [.ref qm, .ref qf, .ref ql, .int nc, .int nd, .int nf, .int na, .int nz, .int no, .int ns, .int nv, .int np, .ref qi, .int nn, .ref qo, .int nt])), (qm, .inl (cI, 104, .inl nm)), (qf, .inl (cI, 104, .inl nb)), (ql, .inl (cI, 4, .inl nl)), (qi, .inl (cI, 24, .inl ni)), (qo, .inl (cI, 16, .inl nu))]) [0, 1, 2, 3, 4, 5] rfl
      have hD9 := hD.sub (ws' := [(hq, .inr (3, [.ref qm, .ref qf, .ref ql, .int nc, .int nd, .int nf, .int na, .int nz, .int no, .int ns, .int nv, .int np, .ref qi, .int nn, .ref qo, .int nt])), (qm, .inl (cI, 104, .inl nm)), (qf, .inl (cI, 104, .inl nb)), (ql, .inl (cI, 4, .inl nl)), (qi, .inl (cI, 24, .inl ni)), (qo, .inl (cI, 16, .inl nu))]) [0, 1, 2, 3, 4, 5] (by decide) rfl
      exact W.iret (v := (-1)) hx hb hr (fun t ht hW => ⟨⟨(-1), (), rfl, rfl, by rw [ht]; exact hP9, va_K.moved hW.alike hK, hD9⟩, hS.F ht⟩) hS.2.2 d_Rf_data_44
    have hf := ifn hf hc5
    refine lv_aload_n hx hb d_Rf_data_29 rfl (lv_at hl 0 rfl) ?_
    refine va_get (D := (dC, dI)) (ci := 3) (v := .ref qm) (C := R_Rf) (T := F_Rf) (N := 16) hx hb hts inRf hown hK hP 0 rfl rfl 0 (by decide) kf7 (fun _ h9 => h9) rfl d_Rf_data_30 ?_
    refine lv_bipush (v := 16) hx hb d_Rf_data_33 (by decide) ?_
    refine lv_iload_n hx hb d_Rf_data_35 rfl (lv_at hl 1 rfl) ?_
    refine lv_imul hx hb d_Rf_data_36 ?_
    refine lv_iload_n hx hb d_Rf_data_37 rfl (lv_at hl 2 rfl) ?_
    refine lv_iadd hx hb d_Rf_data_38 ?_
    obtain ⟨hin_, hf⟩ := ix_some hf
    refine va_iald hx hb hK hP 1 0 rfl rfl hin_ d_Rf_data_39 ?_
    refine lv_goto (tgt := 44) hx hb d_Rf_data_40 rfl ?_
    have e1_ := lf1 hf
    subst e1_
    have hP9 := hP.sub (ws' := [(hq, .inr (3, [.ref qm, .ref qf, .ref ql, .int nc, .int nd, .int nf, .int na, .int nz, .int no, .int ns, .int nv, .int np, .ref qi, .int nn, .ref qo, .int nt])), (qm, .inl (cI, 104, .inl nm)), (qf, .inl (cI, 104, .inl nb)), (ql, .inl (cI, 4, .inl nl)), (qi, .inl (cI, 24, .inl ni)), (qo, .inl (cI, 16, .inl nu))]) [0, 1, 2, 3, 4, 5] rfl
    have hD9 := hD.sub (ws' := [(hq, .inr (3, [.ref qm, .ref qf, .ref ql, .int nc, .int nd, .int nf, .int na, .int nz, .int no, .int ns, .int nv, .int np, .ref qi, .int nn, .ref qo, .int nt])), (qm, .inl (cI, 104, .inl nm)), (qf, .inl (cI, 104, .inl nb)), (ql, .inl (cI, 4, .inl nl)), (qi, .inl (cI, 24, .inl ni)), (qo, .inl (cI, 16, .inl nu))]) [0, 1, 2, 3, 4, 5] (by decide) rfl
    exact W.iret (v := nm ((16 * a1) + a2 : Int32).toNatClampNeg) hx hb hr (fun t ht hW => ⟨⟨nm ((16 * a1) + a2 : Int32).toNatClampNeg, (), rfl, rfl, by rw [ht]; exact hP9, va_K.moved hW.alike hK, hD9⟩, hS.F ht⟩) hS.2.2 d_Rf_data_44
  have hf := ifn hf hc4
  refine lv_bipush (v := (-2)) hx hb d_Rf_data_19 (by decide) ?_
  have e1_ := lf1 hf
  subst e1_
  have hP9 := hP.sub (ws' := [(hq, .inr (3, [.ref qm, .ref qf, .ref ql, .int nc, .int nd, .int nf, .int na, .int nz, .int no, .int ns, .int nv, .int np, .ref qi, .int nn, .ref qo, .int nt])), (qm, .inl (cI, 104, .inl nm)), (qf, .inl (cI, 104, .inl nb)), (ql, .inl (cI, 4, .inl nl)), (qi, .inl (cI, 24, .inl ni)), (qo, .inl (cI, 16, .inl nu))]) [0, 1, 2, 3, 4, 5] rfl
  have hD9 := hD.sub (ws' := [(hq, .inr (3, [.ref qm, .ref qf, .ref ql, .int nc, .int nd, .int nf, .int na, .int nz, .int no, .int ns, .int nv, .int np, .ref qi, .int nn, .ref qo, .int nt])), (qm, .inl (cI, 104, .inl nm)), (qf, .inl (cI, 104, .inl nb)), (ql, .inl (cI, 4, .inl nl)), (qi, .inl (cI, 24, .inl ni)), (qo, .inl (cI, 16, .inl nu))]) [0, 1, 2, 3, 4, 5] (by decide) rfl
  exact W.iret (v := (-2)) hx hb hr (fun t ht hW => ⟨⟨(-2), (), rfl, rfl, by rw [ht]; exact hP9, va_K.moved hW.alike hK, hD9⟩, hS.F ht⟩) hS.2.2 d_Rf_data_21
theorem d_Rf_tries_0 : decode b_Rf_tries 0 = .ok (.iload_n 1, 1) := by decide +kernel
theorem d_Rf_tries_1 : decode b_Rf_tries 1 = .ok (.ifCond .lt 8, 3) := by decide +kernel
theorem d_Rf_tries_4 : decode b_Rf_tries 4 = .ok (.iload_n 1, 1) := by decide +kernel
theorem d_Rf_tries_5 : decode b_Rf_tries 5 = .ok (.iconst 3, 1) := by decide +kernel
theorem d_Rf_tries_6 : decode b_Rf_tries 6 = .ok (.if_icmp .le 8, 3) := by decide +kernel
theorem d_Rf_tries_9 : decode b_Rf_tries 9 = .ok (.bipush (-2), 2) := by decide +kernel
theorem d_Rf_tries_11 : decode b_Rf_tries 11 = .ok (.goto 20, 3) := by decide +kernel
theorem d_Rf_tries_14 : decode b_Rf_tries 14 = .ok (.aload_n 0, 1) := by decide +kernel
theorem d_Rf_tries_15 : decode b_Rf_tries 15 = .ok (.getfield 19, 3) := by decide +kernel
theorem d_Rf_tries_18 : decode b_Rf_tries 18 = .ok (.ifCond .eq 12, 3) := by decide +kernel
theorem d_Rf_tries_21 : decode b_Rf_tries 21 = .ok (.aload_n 0, 1) := by decide +kernel
theorem d_Rf_tries_22 : decode b_Rf_tries 22 = .ok (.getfield 16, 3) := by decide +kernel
theorem d_Rf_tries_25 : decode b_Rf_tries 25 = .ok (.iload_n 1, 1) := by decide +kernel
theorem d_Rf_tries_26 : decode b_Rf_tries 26 = .ok (.iaload, 1) := by decide +kernel
theorem d_Rf_tries_27 : decode b_Rf_tries 27 = .ok (.goto 4, 3) := by decide +kernel
theorem d_Rf_tries_30 : decode b_Rf_tries 30 = .ok (.iconst (-1), 1) := by decide +kernel
theorem d_Rf_tries_31 : decode b_Rf_tries 31 = .ok (.ireturn, 1) := by decide +kernel
def fRf_tries (σ : StR) (a1 : Int32) : Option (Int32) := match σ with | (nm, nb, nl, nc, nd, nf, na, nz, no, ns, nv, np, ni, nn, nu, nt) => if a1 < 0 then (some (-2)) else (if a1 ≤ 3 then (if no = 0 then (some (-1)) else (ix a1 4 fun j4 => some (nl j4))) else (some (-2)))
set_option maxHeartbeats 4000000 in
set_option maxRecDepth 100000 in
theorem ctRf_tries (l : Launch) (dC : Nat → ClassId) (dI : Nat → Nat → Nat) (cI : ClassId) (hq qm qf ql qi qo : Nat) (nm : Nat → Int32) (nb : Nat → Int32) (nl : Nat → Int32) (nc : Int32) (nd : Int32) (nf : Int32) (na : Int32) (nz : Int32) (no : Int32) (ns : Int32) (nv : Int32) (np : Int32) (ni : Nat → Int32) (nn : Int32) (nu : Nat → Int32) (nt : Int32) (a1 : Int32) (r : Int32) (hf : fRf_tries (nm, nb, nl, nc, nd, nf, na, nz, no, ns, nv, np, ni, nn, nu, nt) a1 = some r) : CtI l y_Rf_tries w_Rf_tries ({ frames := 0, cells := 0, slots := 0, locals := 0 }) (dC, dI) [(cI, .int)] [.ref hq, .int a1] [(hq, .inr (3, [.ref qm, .ref qf, .ref ql, .int nc, .int nd, .int nf, .int na, .int nz, .int no, .int ns, .int nv, .int np, .ref qi, .int nn, .ref qo, .int nt])), (qm, .inl (cI, 104, .inl nm)), (qf, .inl (cI, 104, .inl nb)), (ql, .inl (cI, 4, .inl nl)), (qi, .inl (cI, 24, .inl ni)), (qo, .inl (cI, 16, .inl nu))] [(hq, .inr (3, [.ref qm, .ref qf, .ref ql, .int nc, .int nd, .int nf, .int na, .int nz, .int no, .int ns, .int nv, .int np, .ref qi, .int nn, .ref qo, .int nt])), (qm, .inl (cI, 104, .inl nm)), (qf, .inl (cI, 104, .inl nb)), (ql, .inl (cI, 4, .inl nl)), (qi, .inl (cI, 24, .inl ni)), (qo, .inl (cI, 16, .inl nu))] r := by
  intro sz
  refine Met.ofW (cc := b_Rf_tries) (maxL := 2) (ret := some .int) (by decide) rfl ?_
  intro p e s m args below meth c s₁ B hml hv
  obtain ⟨rfl, hsz, hP, hK, hD0⟩ := hv
  have hx := B.exec
  have hb := B.bytes
  have hr := B.returns
  have hts := atoms_spec (ws := w_Rf_tries) B.pre
  have hown : s.vm.findClass R_Rf = some m.cls := findClass_of_methodNamed B.named
  have hlocks := B.notSynchronized
  subst hsz
  have hD := hD0.self (sz := s.heap.size)
  generalize hAe : va_A [(hq, .inr (3, [.ref qm, .ref qf, .ref ql, .int nc, .int nd, .int nf, .int na, .int nz, .int no, .int ns, .int nv, .int np, .ref qi, .int nn, .ref qo, .int nt])), (qm, .inl (cI, 104, .inl nm)), (qf, .inl (cI, 104, .inl nb)), (ql, .inl (cI, 4, .inl nl)), (qi, .inl (cI, 24, .inl ni)), (qo, .inl (cI, 16, .inl nu))] s.heap.size = A at hD ⊢
  have hA : ∀ q : Nat, s.heap.size ≤ q → A q := fun q h => by rw [← hAe]; exact Or.inr h
  have hS : va_S A s.heap s.heap [] := va_S.rf
  have hP : va_P (dC, dI) vwCl [(hq, .inr (3, [.ref qm, .ref qf, .ref ql, .int nc, .int nd, .int nf, .int na, .int nz, .int no, .int ns, .int nv, .int np, .ref qi, .int nn, .ref qo, .int nt])), (qm, .inl (cI, 104, .inl nm)), (qf, .inl (cI, 104, .inl nb)), (ql, .inl (cI, 4, .inl nl)), (qi, .inl (cI, 24, .inl ni)), (qo, .inl (cI, 16, .inl nu))] s.heap := hP
  have hl := lv_entry ([.ref hq, .int a1]) (n := 2) (Nat.le_of_ble_eq_true rfl)
  rw [lg_entry_eq]
  generalize (lg_sl ([.ref hq, .int a1]) ++ List.replicate (2 - (lg_sl ([.ref hq, .int a1])).length) Slot.unset).toArray = ls at hl ⊢
  have hl : lv_has ls 2 [(0, .ref hq), (1, .int a1)] := hl
  have inRf : ∀ w ∈ u_ws R_Rf F_Rf 16, w ∈ w_Rf_tries := fun w h => List.mem_cons_of_mem _ (in_Rf w h)
  have kf16 := hts _ (List.mem_cons_of_mem _ wq408)
  have kf19 := hts _ (List.mem_cons_of_mem _ wq414)
  rw [fRf_tries] at hf
  refine lv_iload_n hx hb d_Rf_tries_0 rfl (lv_at hl 1 rfl) ?_
  refine lv_if_lt (tgt := 9) hx hb d_Rf_tries_1 rfl (fun hc1 => ?_) (fun hc1 => ?_)
  · have hf := ift hf hc1
    refine lv_bipush (v := (-2)) hx hb d_Rf_tries_9 (by decide) ?_
    refine lv_goto (tgt := 31) hx hb d_Rf_tries_11 rfl ?_
    have e1_ := lf1 hf
    subst e1_
    have hP9 := hP.sub (ws' := [(hq, .inr (3, [.ref qm, .ref qf, .ref ql, .int nc, .int nd, .int nf, .int na, .int nz, .int no, .int ns, .int nv, .int np, .ref qi, .int nn, .ref qo, .int nt])), (qm, .inl (cI, 104, .inl nm)), (qf, .inl (cI, 104, .inl nb)), (ql, .inl (cI, 4, .inl nl)), (qi, .inl (cI, 24, .inl ni)), (qo, .inl (cI, 16, .inl nu))]) [0, 1, 2, 3, 4, 5] rfl
    have hD9 := hD.sub (ws' := [(hq, .inr (3, [.ref qm, .ref qf, .ref ql, .int nc, .int nd, .int nf, .int na, .int nz, .int no, .int ns, .int nv, .int np, .ref qi, .int nn, .ref qo, .int nt])), (qm, .inl (cI, 104, .inl nm)), (qf, .inl (cI, 104, .inl nb)), (ql, .inl (cI, 4, .inl nl)), (qi, .inl (cI, 24, .inl ni)), (qo, .inl (cI, 16, .inl nu))]) [0, 1, 2, 3, 4, 5] (by decide) rfl
    exact W.iret (v := (-2)) hx hb hr (fun t ht hW => ⟨⟨(-2), (), rfl, rfl, by rw [ht]; exact hP9, va_K.moved hW.alike hK, hD9⟩, hS.F ht⟩) hS.2.2 d_Rf_tries_31
  have hf := ifn hf hc1
  refine lv_iload_n hx hb d_Rf_tries_4 rfl (lv_at hl 1 rfl) ?_
  refine lv_iconst (v := 3) hx hb d_Rf_tries_5 (by decide) ?_
  refine lv_icmp_le (tgt := 14) hx hb d_Rf_tries_6 rfl (fun hc2 => ?_) (fun hc2 => ?_)
  · have hf := ift hf hc2
    refine lv_aload_n hx hb d_Rf_tries_14 rfl (lv_at hl 0 rfl) ?_
    refine va_get (D := (dC, dI)) (ci := 3) (v := .int no) (C := R_Rf) (T := F_Rf) (N := 16) hx hb hts inRf hown hK hP 0 rfl rfl 8 (by decide) kf19 (fun _ h9 => h9) rfl d_Rf_tries_15 ?_
    refine lv_if_eq (tgt := 30) hx hb d_Rf_tries_18 rfl (fun hc3 => ?_) (fun hc3 => ?_)
    · have hf := ift hf hc3
      refine lv_iconst (v := (-1)) hx hb d_Rf_tries_30 (by decide) ?_
      have e1_ := lf1 hf
      subst e1_
      have hP9 := hP.sub (ws' := [(hq, .inr (3, [.ref qm, .ref qf, .ref ql, .int nc, .int nd, .int nf, .int na, .int nz, .int no, .int ns, .int nv, .int np, .ref qi, .int nn, .ref qo, .int nt])), (qm, .inl (cI, 104, .inl nm)), (qf, .inl (cI, 104, .inl nb)), (ql, .inl (cI, 4, .inl nl)), (qi, .inl (cI, 24, .inl ni)), (qo, .inl (cI, 16, .inl nu))]) [0, 1, 2, 3, 4, 5] rfl
      have hD9 := hD.sub (ws' := [(hq, .inr (3, [.ref qm, .ref qf, .ref ql, .int nc, .int nd, .int nf, .int na, .int nz, .int no, .int ns, .int nv, .int np, .ref qi, .int nn, .ref qo, .int nt])), (qm, .inl (cI, 104, .inl nm)), (qf, .inl (cI, 104, .inl nb)), (ql, .inl (cI, 4, .inl nl)), (qi, .inl (cI, 24, .inl ni)), (qo, .inl (cI, 16, .inl nu))]) [0, 1, 2, 3, 4, 5] (by decide) rfl
      exact W.iret (v := (-1)) hx hb hr (fun t ht hW => ⟨⟨(-1), (), rfl, rfl, by rw [ht]; exact hP9, va_K.moved hW.alike hK, hD9⟩, hS.F ht⟩) hS.2.2 d_Rf_tries_31
    have hf := ifn hf hc3
    refine lv_aload_n hx hb d_Rf_tries_21 rfl (lv_at hl 0 rfl) ?_
    refine va_get (D := (dC, dI)) (ci := 3) (v := .ref ql) (C := R_Rf) (T := F_Rf) (N := 16) hx hb hts inRf hown hK hP 0 rfl rfl 2 (by decide) kf16 (fun _ h9 => h9) rfl d_Rf_tries_22 ?_
    refine lv_iload_n hx hb d_Rf_tries_25 rfl (lv_at hl 1 rfl) ?_
    obtain ⟨hin_, hf⟩ := ix_some hf
    refine va_iald hx hb hK hP 3 0 rfl rfl hin_ d_Rf_tries_26 ?_
    refine lv_goto (tgt := 31) hx hb d_Rf_tries_27 rfl ?_
    have e1_ := lf1 hf
    subst e1_
    have hP9 := hP.sub (ws' := [(hq, .inr (3, [.ref qm, .ref qf, .ref ql, .int nc, .int nd, .int nf, .int na, .int nz, .int no, .int ns, .int nv, .int np, .ref qi, .int nn, .ref qo, .int nt])), (qm, .inl (cI, 104, .inl nm)), (qf, .inl (cI, 104, .inl nb)), (ql, .inl (cI, 4, .inl nl)), (qi, .inl (cI, 24, .inl ni)), (qo, .inl (cI, 16, .inl nu))]) [0, 1, 2, 3, 4, 5] rfl
    have hD9 := hD.sub (ws' := [(hq, .inr (3, [.ref qm, .ref qf, .ref ql, .int nc, .int nd, .int nf, .int na, .int nz, .int no, .int ns, .int nv, .int np, .ref qi, .int nn, .ref qo, .int nt])), (qm, .inl (cI, 104, .inl nm)), (qf, .inl (cI, 104, .inl nb)), (ql, .inl (cI, 4, .inl nl)), (qi, .inl (cI, 24, .inl ni)), (qo, .inl (cI, 16, .inl nu))]) [0, 1, 2, 3, 4, 5] (by decide) rfl
    exact W.iret (v := nl (a1 : Int32).toNatClampNeg) hx hb hr (fun t ht hW => ⟨⟨nl (a1 : Int32).toNatClampNeg, (), rfl, rfl, by rw [ht]; exact hP9, va_K.moved hW.alike hK, hD9⟩, hS.F ht⟩) hS.2.2 d_Rf_tries_31
  have hf := ifn hf hc2
  refine lv_bipush (v := (-2)) hx hb d_Rf_tries_9 (by decide) ?_
  refine lv_goto (tgt := 31) hx hb d_Rf_tries_11 rfl ?_
  have e1_ := lf1 hf
  subst e1_
  have hP9 := hP.sub (ws' := [(hq, .inr (3, [.ref qm, .ref qf, .ref ql, .int nc, .int nd, .int nf, .int na, .int nz, .int no, .int ns, .int nv, .int np, .ref qi, .int nn, .ref qo, .int nt])), (qm, .inl (cI, 104, .inl nm)), (qf, .inl (cI, 104, .inl nb)), (ql, .inl (cI, 4, .inl nl)), (qi, .inl (cI, 24, .inl ni)), (qo, .inl (cI, 16, .inl nu))]) [0, 1, 2, 3, 4, 5] rfl
  have hD9 := hD.sub (ws' := [(hq, .inr (3, [.ref qm, .ref qf, .ref ql, .int nc, .int nd, .int nf, .int na, .int nz, .int no, .int ns, .int nv, .int np, .ref qi, .int nn, .ref qo, .int nt])), (qm, .inl (cI, 104, .inl nm)), (qf, .inl (cI, 104, .inl nb)), (ql, .inl (cI, 4, .inl nl)), (qi, .inl (cI, 24, .inl ni)), (qo, .inl (cI, 16, .inl nu))]) [0, 1, 2, 3, 4, 5] (by decide) rfl
  exact W.iret (v := (-2)) hx hb hr (fun t ht hW => ⟨⟨(-2), (), rfl, rfl, by rw [ht]; exact hP9, va_K.moved hW.alike hK, hD9⟩, hS.F ht⟩) hS.2.2 d_Rf_tries_31
theorem d_Rf_share_0 : decode b_Rf_share 0 = .ok (.iload_n 1, 1) := by decide +kernel
theorem d_Rf_share_1 : decode b_Rf_share 1 = .ok (.ifCond .lt 9, 3) := by decide +kernel
theorem d_Rf_share_4 : decode b_Rf_share 4 = .ok (.iload_n 1, 1) := by decide +kernel
theorem d_Rf_share_5 : decode b_Rf_share 5 = .ok (.bipush 7, 2) := by decide +kernel
theorem d_Rf_share_7 : decode b_Rf_share 7 = .ok (.if_icmp .le 6, 3) := by decide +kernel
theorem d_Rf_share_10 : decode b_Rf_share 10 = .ok (.bipush (-2), 2) := by decide +kernel
theorem d_Rf_share_12 : decode b_Rf_share 12 = .ok (.ireturn, 1) := by decide +kernel
theorem d_Rf_share_13 : decode b_Rf_share 13 = .ok (.bipush 72, 2) := by decide +kernel
theorem d_Rf_share_15 : decode b_Rf_share 15 = .ok (.iconst 4, 1) := by decide +kernel
theorem d_Rf_share_16 : decode b_Rf_share 16 = .ok (.iload_n 1, 1) := by decide +kernel
theorem d_Rf_share_17 : decode b_Rf_share 17 = .ok (.imul, 1) := by decide +kernel
theorem d_Rf_share_18 : decode b_Rf_share 18 = .ok (.iadd, 1) := by decide +kernel
theorem d_Rf_share_19 : decode b_Rf_share 19 = .ok (.istore_n 2, 1) := by decide +kernel
theorem d_Rf_share_20 : decode b_Rf_share 20 = .ok (.aload_n 0, 1) := by decide +kernel
theorem d_Rf_share_21 : decode b_Rf_share 21 = .ok (.getfield 19, 3) := by decide +kernel
theorem d_Rf_share_24 : decode b_Rf_share 24 = .ok (.ifCond .eq 49, 3) := by decide +kernel
theorem d_Rf_share_27 : decode b_Rf_share 27 = .ok (.aload_n 0, 1) := by decide +kernel
theorem d_Rf_share_28 : decode b_Rf_share 28 = .ok (.getfield 7, 3) := by decide +kernel
theorem d_Rf_share_31 : decode b_Rf_share 31 = .ok (.iload_n 2, 1) := by decide +kernel
theorem d_Rf_share_32 : decode b_Rf_share 32 = .ok (.iaload, 1) := by decide +kernel
theorem d_Rf_share_33 : decode b_Rf_share 33 = .ok (.sipush 256, 3) := by decide +kernel
theorem d_Rf_share_36 : decode b_Rf_share 36 = .ok (.aload_n 0, 1) := by decide +kernel
theorem d_Rf_share_37 : decode b_Rf_share 37 = .ok (.getfield 7, 3) := by decide +kernel
theorem d_Rf_share_40 : decode b_Rf_share 40 = .ok (.iload_n 2, 1) := by decide +kernel
theorem d_Rf_share_41 : decode b_Rf_share 41 = .ok (.iconst 1, 1) := by decide +kernel
theorem d_Rf_share_42 : decode b_Rf_share 42 = .ok (.iadd, 1) := by decide +kernel
theorem d_Rf_share_43 : decode b_Rf_share 43 = .ok (.iaload, 1) := by decide +kernel
theorem d_Rf_share_44 : decode b_Rf_share 44 = .ok (.imul, 1) := by decide +kernel
theorem d_Rf_share_45 : decode b_Rf_share 45 = .ok (.iadd, 1) := by decide +kernel
theorem d_Rf_share_46 : decode b_Rf_share 46 = .ok (.ldc 139, 2) := by decide +kernel
theorem d_Rf_share_48 : decode b_Rf_share 48 = .ok (.aload_n 0, 1) := by decide +kernel
theorem d_Rf_share_49 : decode b_Rf_share 49 = .ok (.getfield 7, 3) := by decide +kernel
theorem d_Rf_share_52 : decode b_Rf_share 52 = .ok (.iload_n 2, 1) := by decide +kernel
theorem d_Rf_share_53 : decode b_Rf_share 53 = .ok (.iconst 2, 1) := by decide +kernel
theorem d_Rf_share_54 : decode b_Rf_share 54 = .ok (.iadd, 1) := by decide +kernel
theorem d_Rf_share_55 : decode b_Rf_share 55 = .ok (.iaload, 1) := by decide +kernel
theorem d_Rf_share_56 : decode b_Rf_share 56 = .ok (.imul, 1) := by decide +kernel
theorem d_Rf_share_57 : decode b_Rf_share 57 = .ok (.iadd, 1) := by decide +kernel
theorem d_Rf_share_58 : decode b_Rf_share 58 = .ok (.ldc 140, 2) := by decide +kernel
theorem d_Rf_share_60 : decode b_Rf_share 60 = .ok (.aload_n 0, 1) := by decide +kernel
theorem d_Rf_share_61 : decode b_Rf_share 61 = .ok (.getfield 7, 3) := by decide +kernel
theorem d_Rf_share_64 : decode b_Rf_share 64 = .ok (.iload_n 2, 1) := by decide +kernel
theorem d_Rf_share_65 : decode b_Rf_share 65 = .ok (.iconst 3, 1) := by decide +kernel
theorem d_Rf_share_66 : decode b_Rf_share 66 = .ok (.iadd, 1) := by decide +kernel
theorem d_Rf_share_67 : decode b_Rf_share 67 = .ok (.iaload, 1) := by decide +kernel
theorem d_Rf_share_68 : decode b_Rf_share 68 = .ok (.imul, 1) := by decide +kernel
theorem d_Rf_share_69 : decode b_Rf_share 69 = .ok (.iadd, 1) := by decide +kernel
theorem d_Rf_share_70 : decode b_Rf_share 70 = .ok (.goto 4, 3) := by decide +kernel
theorem d_Rf_share_73 : decode b_Rf_share 73 = .ok (.iconst (-1), 1) := by decide +kernel
theorem d_Rf_share_74 : decode b_Rf_share 74 = .ok (.ireturn, 1) := by decide +kernel
def fRf_share (σ : StR) (a1 : Int32) : Option (Int32) := match σ with | (nm, nb, nl, nc, nd, nf, na, nz, no, ns, nv, np, ni, nn, nu, nt) => if a1 < 0 then (some (-2)) else (if a1 ≤ 7 then (if no = 0 then (some (-1)) else (ix (72 + (4 * a1)) 104 fun j4 => ix ((72 + (4 * a1)) + 1) 104 fun j5 => ix ((72 + (4 * a1)) + 2) 104 fun j6 => ix ((72 + (4 * a1)) + 3) 104 fun j7 => some ((((nm j4) + (256 * (nm j5))) + (65536 * (nm j6))) + (16777216 * (nm j7))))) else (some (-2)))
set_option maxHeartbeats 4000000 in
set_option maxRecDepth 100000 in
theorem ctRf_share (l : Launch) (dC : Nat → ClassId) (dI : Nat → Nat → Nat) (cI : ClassId) (hq qm qf ql qi qo : Nat) (nm : Nat → Int32) (nb : Nat → Int32) (nl : Nat → Int32) (nc : Int32) (nd : Int32) (nf : Int32) (na : Int32) (nz : Int32) (no : Int32) (ns : Int32) (nv : Int32) (np : Int32) (ni : Nat → Int32) (nn : Int32) (nu : Nat → Int32) (nt : Int32) (a1 : Int32) (r : Int32) (hf : fRf_share (nm, nb, nl, nc, nd, nf, na, nz, no, ns, nv, np, ni, nn, nu, nt) a1 = some r) : CtI l y_Rf_share w_Rf_share ({ frames := 0, cells := 0, slots := 0, locals := 0 }) (dC, dI) [(cI, .int)] [.ref hq, .int a1] [(hq, .inr (3, [.ref qm, .ref qf, .ref ql, .int nc, .int nd, .int nf, .int na, .int nz, .int no, .int ns, .int nv, .int np, .ref qi, .int nn, .ref qo, .int nt])), (qm, .inl (cI, 104, .inl nm)), (qf, .inl (cI, 104, .inl nb)), (ql, .inl (cI, 4, .inl nl)), (qi, .inl (cI, 24, .inl ni)), (qo, .inl (cI, 16, .inl nu))] [(hq, .inr (3, [.ref qm, .ref qf, .ref ql, .int nc, .int nd, .int nf, .int na, .int nz, .int no, .int ns, .int nv, .int np, .ref qi, .int nn, .ref qo, .int nt])), (qm, .inl (cI, 104, .inl nm)), (qf, .inl (cI, 104, .inl nb)), (ql, .inl (cI, 4, .inl nl)), (qi, .inl (cI, 24, .inl ni)), (qo, .inl (cI, 16, .inl nu))] r := by
  intro sz
  refine Met.ofW (cc := b_Rf_share) (maxL := 3) (ret := some .int) (by decide) rfl ?_
  intro p e s m args below meth c s₁ B hml hv
  obtain ⟨rfl, hsz, hP, hK, hD0⟩ := hv
  have hx := B.exec
  have hb := B.bytes
  have hr := B.returns
  have hts := atoms_spec (ws := w_Rf_share) B.pre
  have hown : s.vm.findClass R_Rf = some m.cls := findClass_of_methodNamed B.named
  have hlocks := B.notSynchronized
  subst hsz
  have hD := hD0.self (sz := s.heap.size)
  generalize hAe : va_A [(hq, .inr (3, [.ref qm, .ref qf, .ref ql, .int nc, .int nd, .int nf, .int na, .int nz, .int no, .int ns, .int nv, .int np, .ref qi, .int nn, .ref qo, .int nt])), (qm, .inl (cI, 104, .inl nm)), (qf, .inl (cI, 104, .inl nb)), (ql, .inl (cI, 4, .inl nl)), (qi, .inl (cI, 24, .inl ni)), (qo, .inl (cI, 16, .inl nu))] s.heap.size = A at hD ⊢
  have hA : ∀ q : Nat, s.heap.size ≤ q → A q := fun q h => by rw [← hAe]; exact Or.inr h
  have hS : va_S A s.heap s.heap [] := va_S.rf
  have hP : va_P (dC, dI) vwCl [(hq, .inr (3, [.ref qm, .ref qf, .ref ql, .int nc, .int nd, .int nf, .int na, .int nz, .int no, .int ns, .int nv, .int np, .ref qi, .int nn, .ref qo, .int nt])), (qm, .inl (cI, 104, .inl nm)), (qf, .inl (cI, 104, .inl nb)), (ql, .inl (cI, 4, .inl nl)), (qi, .inl (cI, 24, .inl ni)), (qo, .inl (cI, 16, .inl nu))] s.heap := hP
  have hl := lv_entry ([.ref hq, .int a1]) (n := 3) (Nat.le_of_ble_eq_true rfl)
  rw [lg_entry_eq]
  generalize (lg_sl ([.ref hq, .int a1]) ++ List.replicate (3 - (lg_sl ([.ref hq, .int a1])).length) Slot.unset).toArray = ls at hl ⊢
  have hl : lv_has ls 3 [(0, .ref hq), (1, .int a1)] := hl
  have inRf : ∀ w ∈ u_ws R_Rf F_Rf 16, w ∈ w_Rf_share := fun w h => List.mem_cons_of_mem _ (in_Rf w h)
  have kc139 := hts _ (List.mem_cons_of_mem _ wq594)
  have kc140 := hts _ (List.mem_cons_of_mem _ wq595)
  have kf19 := hts _ (List.mem_cons_of_mem _ wq414)
  have kf7 := hts _ (List.mem_cons_of_mem _ wq406)
  rw [fRf_share] at hf
  refine lv_iload_n hx hb d_Rf_share_0 rfl (lv_at hl 1 rfl) ?_
  refine lv_if_lt (tgt := 10) hx hb d_Rf_share_1 rfl (fun hc1 => ?_) (fun hc1 => ?_)
  · have hf := ift hf hc1
    refine lv_bipush (v := (-2)) hx hb d_Rf_share_10 (by decide) ?_
    have e1_ := lf1 hf
    subst e1_
    have hP9 := hP.sub (ws' := [(hq, .inr (3, [.ref qm, .ref qf, .ref ql, .int nc, .int nd, .int nf, .int na, .int nz, .int no, .int ns, .int nv, .int np, .ref qi, .int nn, .ref qo, .int nt])), (qm, .inl (cI, 104, .inl nm)), (qf, .inl (cI, 104, .inl nb)), (ql, .inl (cI, 4, .inl nl)), (qi, .inl (cI, 24, .inl ni)), (qo, .inl (cI, 16, .inl nu))]) [0, 1, 2, 3, 4, 5] rfl
    have hD9 := hD.sub (ws' := [(hq, .inr (3, [.ref qm, .ref qf, .ref ql, .int nc, .int nd, .int nf, .int na, .int nz, .int no, .int ns, .int nv, .int np, .ref qi, .int nn, .ref qo, .int nt])), (qm, .inl (cI, 104, .inl nm)), (qf, .inl (cI, 104, .inl nb)), (ql, .inl (cI, 4, .inl nl)), (qi, .inl (cI, 24, .inl ni)), (qo, .inl (cI, 16, .inl nu))]) [0, 1, 2, 3, 4, 5] (by decide) rfl
    exact W.iret (v := (-2)) hx hb hr (fun t ht hW => ⟨⟨(-2), (), rfl, rfl, by rw [ht]; exact hP9, va_K.moved hW.alike hK, hD9⟩, hS.F ht⟩) hS.2.2 d_Rf_share_12
  have hf := ifn hf hc1
  refine lv_iload_n hx hb d_Rf_share_4 rfl (lv_at hl 1 rfl) ?_
  refine lv_bipush (v := 7) hx hb d_Rf_share_5 (by decide) ?_
  refine lv_icmp_le (tgt := 13) hx hb d_Rf_share_7 rfl (fun hc2 => ?_) (fun hc2 => ?_)
  · have hf := ift hf hc2
    refine lv_bipush (v := 72) hx hb d_Rf_share_13 (by decide) ?_
    refine lv_iconst (v := 4) hx hb d_Rf_share_15 (by decide) ?_
    refine lv_iload_n hx hb d_Rf_share_16 rfl (lv_at hl 1 rfl) ?_
    refine lv_imul hx hb d_Rf_share_17 ?_
    refine lv_iadd hx hb d_Rf_share_18 ?_
    refine lv_istore_n hx hb d_Rf_share_19 rfl hl (by decide) rfl (fun ls hl => ?_)
    have hl : lv_has ls 3 [(2, .int (72 + (4 * a1))), (0, .ref hq), (1, .int a1)] := hl
    refine lv_aload_n hx hb d_Rf_share_20 rfl (lv_at hl 1 rfl) ?_
    refine va_get (D := (dC, dI)) (ci := 3) (v := .int no) (C := R_Rf) (T := F_Rf) (N := 16) hx hb hts inRf hown hK hP 0 rfl rfl 8 (by decide) kf19 (fun _ h9 => h9) rfl d_Rf_share_21 ?_
    refine lv_if_eq (tgt := 73) hx hb d_Rf_share_24 rfl (fun hc3 => ?_) (fun hc3 => ?_)
    · have hf := ift hf hc3
      refine lv_iconst (v := (-1)) hx hb d_Rf_share_73 (by decide) ?_
      have e1_ := lf1 hf
      subst e1_
      have hP9 := hP.sub (ws' := [(hq, .inr (3, [.ref qm, .ref qf, .ref ql, .int nc, .int nd, .int nf, .int na, .int nz, .int no, .int ns, .int nv, .int np, .ref qi, .int nn, .ref qo, .int nt])), (qm, .inl (cI, 104, .inl nm)), (qf, .inl (cI, 104, .inl nb)), (ql, .inl (cI, 4, .inl nl)), (qi, .inl (cI, 24, .inl ni)), (qo, .inl (cI, 16, .inl nu))]) [0, 1, 2, 3, 4, 5] rfl
      have hD9 := hD.sub (ws' := [(hq, .inr (3, [.ref qm, .ref qf, .ref ql, .int nc, .int nd, .int nf, .int na, .int nz, .int no, .int ns, .int nv, .int np, .ref qi, .int nn, .ref qo, .int nt])), (qm, .inl (cI, 104, .inl nm)), (qf, .inl (cI, 104, .inl nb)), (ql, .inl (cI, 4, .inl nl)), (qi, .inl (cI, 24, .inl ni)), (qo, .inl (cI, 16, .inl nu))]) [0, 1, 2, 3, 4, 5] (by decide) rfl
      exact W.iret (v := (-1)) hx hb hr (fun t ht hW => ⟨⟨(-1), (), rfl, rfl, by rw [ht]; exact hP9, va_K.moved hW.alike hK, hD9⟩, hS.F ht⟩) hS.2.2 d_Rf_share_74
    have hf := ifn hf hc3
    refine lv_aload_n hx hb d_Rf_share_27 rfl (lv_at hl 1 rfl) ?_
    refine va_get (D := (dC, dI)) (ci := 3) (v := .ref qm) (C := R_Rf) (T := F_Rf) (N := 16) hx hb hts inRf hown hK hP 0 rfl rfl 0 (by decide) kf7 (fun _ h9 => h9) rfl d_Rf_share_28 ?_
    refine lv_iload_n hx hb d_Rf_share_31 rfl (lv_at hl 0 rfl) ?_
    obtain ⟨hin_, hf⟩ := ix_some hf
    refine va_iald hx hb hK hP 1 0 rfl rfl hin_ d_Rf_share_32 ?_
    refine lv_sipush (v := 256) hx hb d_Rf_share_33 (by decide) ?_
    refine lv_aload_n hx hb d_Rf_share_36 rfl (lv_at hl 1 rfl) ?_
    refine va_get (D := (dC, dI)) (ci := 3) (v := .ref qm) (C := R_Rf) (T := F_Rf) (N := 16) hx hb hts inRf hown hK hP 0 rfl rfl 0 (by decide) kf7 (fun _ h9 => h9) rfl d_Rf_share_37 ?_
    refine lv_iload_n hx hb d_Rf_share_40 rfl (lv_at hl 0 rfl) ?_
    refine lv_iconst (v := 1) hx hb d_Rf_share_41 (by decide) ?_
    refine lv_iadd hx hb d_Rf_share_42 ?_
    obtain ⟨hin_, hf⟩ := ix_some hf
    refine va_iald hx hb hK hP 1 0 rfl rfl hin_ d_Rf_share_43 ?_
    refine lv_imul hx hb d_Rf_share_44 ?_
    refine lv_iadd hx hb d_Rf_share_45 ?_
    refine lv_ldc (v := 65536) hx hb hown kc139 d_Rf_share_46 ?_
    refine lv_aload_n hx hb d_Rf_share_48 rfl (lv_at hl 1 rfl) ?_
    refine va_get (D := (dC, dI)) (ci := 3) (v := .ref qm) (C := R_Rf) (T := F_Rf) (N := 16) hx hb hts inRf hown hK hP 0 rfl rfl 0 (by decide) kf7 (fun _ h9 => h9) rfl d_Rf_share_49 ?_
    refine lv_iload_n hx hb d_Rf_share_52 rfl (lv_at hl 0 rfl) ?_
    refine lv_iconst (v := 2) hx hb d_Rf_share_53 (by decide) ?_
    refine lv_iadd hx hb d_Rf_share_54 ?_
    obtain ⟨hin_, hf⟩ := ix_some hf
    refine va_iald hx hb hK hP 1 0 rfl rfl hin_ d_Rf_share_55 ?_
    refine lv_imul hx hb d_Rf_share_56 ?_
    refine lv_iadd hx hb d_Rf_share_57 ?_
    refine lv_ldc (v := 16777216) hx hb hown kc140 d_Rf_share_58 ?_
    refine lv_aload_n hx hb d_Rf_share_60 rfl (lv_at hl 1 rfl) ?_
    refine va_get (D := (dC, dI)) (ci := 3) (v := .ref qm) (C := R_Rf) (T := F_Rf) (N := 16) hx hb hts inRf hown hK hP 0 rfl rfl 0 (by decide) kf7 (fun _ h9 => h9) rfl d_Rf_share_61 ?_
    refine lv_iload_n hx hb d_Rf_share_64 rfl (lv_at hl 0 rfl) ?_
    refine lv_iconst (v := 3) hx hb d_Rf_share_65 (by decide) ?_
    refine lv_iadd hx hb d_Rf_share_66 ?_
    obtain ⟨hin_, hf⟩ := ix_some hf
    refine va_iald hx hb hK hP 1 0 rfl rfl hin_ d_Rf_share_67 ?_
    refine lv_imul hx hb d_Rf_share_68 ?_
    refine lv_iadd hx hb d_Rf_share_69 ?_
    refine lv_goto (tgt := 74) hx hb d_Rf_share_70 rfl ?_
    have e1_ := lf1 hf
    subst e1_
    have hP9 := hP.sub (ws' := [(hq, .inr (3, [.ref qm, .ref qf, .ref ql, .int nc, .int nd, .int nf, .int na, .int nz, .int no, .int ns, .int nv, .int np, .ref qi, .int nn, .ref qo, .int nt])), (qm, .inl (cI, 104, .inl nm)), (qf, .inl (cI, 104, .inl nb)), (ql, .inl (cI, 4, .inl nl)), (qi, .inl (cI, 24, .inl ni)), (qo, .inl (cI, 16, .inl nu))]) [0, 1, 2, 3, 4, 5] rfl
    have hD9 := hD.sub (ws' := [(hq, .inr (3, [.ref qm, .ref qf, .ref ql, .int nc, .int nd, .int nf, .int na, .int nz, .int no, .int ns, .int nv, .int np, .ref qi, .int nn, .ref qo, .int nt])), (qm, .inl (cI, 104, .inl nm)), (qf, .inl (cI, 104, .inl nb)), (ql, .inl (cI, 4, .inl nl)), (qi, .inl (cI, 24, .inl ni)), (qo, .inl (cI, 16, .inl nu))]) [0, 1, 2, 3, 4, 5] (by decide) rfl
    exact W.iret (v := (((nm (72 + (4 * a1) : Int32).toNatClampNeg) + (256 * (nm ((72 + (4 * a1)) + 1 : Int32).toNatClampNeg))) + (65536 * (nm ((72 + (4 * a1)) + 2 : Int32).toNatClampNeg))) + (16777216 * (nm ((72 + (4 * a1)) + 3 : Int32).toNatClampNeg))) hx hb hr (fun t ht hW => ⟨⟨(((nm (72 + (4 * a1) : Int32).toNatClampNeg) + (256 * (nm ((72 + (4 * a1)) + 1 : Int32).toNatClampNeg))) + (65536 * (nm ((72 + (4 * a1)) + 2 : Int32).toNatClampNeg))) + (16777216 * (nm ((72 + (4 * a1)) + 3 : Int32).toNatClampNeg)), (), rfl, rfl, by rw [ht]; exact hP9, va_K.moved hW.alike hK, hD9⟩, hS.F ht⟩) hS.2.2 d_Rf_share_74
  have hf := ifn hf hc2
  refine lv_bipush (v := (-2)) hx hb d_Rf_share_10 (by decide) ?_
  have e1_ := lf1 hf
  subst e1_
  have hP9 := hP.sub (ws' := [(hq, .inr (3, [.ref qm, .ref qf, .ref ql, .int nc, .int nd, .int nf, .int na, .int nz, .int no, .int ns, .int nv, .int np, .ref qi, .int nn, .ref qo, .int nt])), (qm, .inl (cI, 104, .inl nm)), (qf, .inl (cI, 104, .inl nb)), (ql, .inl (cI, 4, .inl nl)), (qi, .inl (cI, 24, .inl ni)), (qo, .inl (cI, 16, .inl nu))]) [0, 1, 2, 3, 4, 5] rfl
  have hD9 := hD.sub (ws' := [(hq, .inr (3, [.ref qm, .ref qf, .ref ql, .int nc, .int nd, .int nf, .int na, .int nz, .int no, .int ns, .int nv, .int np, .ref qi, .int nn, .ref qo, .int nt])), (qm, .inl (cI, 104, .inl nm)), (qf, .inl (cI, 104, .inl nb)), (ql, .inl (cI, 4, .inl nl)), (qi, .inl (cI, 24, .inl ni)), (qo, .inl (cI, 16, .inl nu))]) [0, 1, 2, 3, 4, 5] (by decide) rfl
  exact W.iret (v := (-2)) hx hb hr (fun t ht hW => ⟨⟨(-2), (), rfl, rfl, by rw [ht]; exact hP9, va_K.moved hW.alike hK, hD9⟩, hS.F ht⟩) hS.2.2 d_Rf_share_12
theorem d_Rf_pending_0 : decode b_Rf_pending 0 = .ok (.aload_n 0, 1) := by decide +kernel
theorem d_Rf_pending_1 : decode b_Rf_pending 1 = .ok (.getfield 19, 3) := by decide +kernel
theorem d_Rf_pending_4 : decode b_Rf_pending 4 = .ok (.ifCond .eq 10, 3) := by decide +kernel
theorem d_Rf_pending_7 : decode b_Rf_pending 7 = .ok (.aload_n 0, 1) := by decide +kernel
theorem d_Rf_pending_8 : decode b_Rf_pending 8 = .ok (.getfield 64, 3) := by decide +kernel
theorem d_Rf_pending_11 : decode b_Rf_pending 11 = .ok (.goto 4, 3) := by decide +kernel
theorem d_Rf_pending_14 : decode b_Rf_pending 14 = .ok (.iconst (-1), 1) := by decide +kernel
theorem d_Rf_pending_15 : decode b_Rf_pending 15 = .ok (.ireturn, 1) := by decide +kernel
def fRf_pending (σ : StR) : Option (Int32) := match σ with | (nm, nb, nl, nc, nd, nf, na, nz, no, ns, nv, np, ni, nn, nu, nt) => if no = 0 then (some (-1)) else (some nc)
set_option maxHeartbeats 4000000 in
set_option maxRecDepth 100000 in
theorem ctRf_pending (l : Launch) (dC : Nat → ClassId) (dI : Nat → Nat → Nat) (cI : ClassId) (hq qm qf ql qi qo : Nat) (nm : Nat → Int32) (nb : Nat → Int32) (nl : Nat → Int32) (nc : Int32) (nd : Int32) (nf : Int32) (na : Int32) (nz : Int32) (no : Int32) (ns : Int32) (nv : Int32) (np : Int32) (ni : Nat → Int32) (nn : Int32) (nu : Nat → Int32) (nt : Int32) (r : Int32) (hf : fRf_pending (nm, nb, nl, nc, nd, nf, na, nz, no, ns, nv, np, ni, nn, nu, nt) = some r) : CtI l y_Rf_pending w_Rf_pending ({ frames := 0, cells := 0, slots := 0, locals := 0 }) (dC, dI) [(cI, .int)] [.ref hq] [(hq, .inr (3, [.ref qm, .ref qf, .ref ql, .int nc, .int nd, .int nf, .int na, .int nz, .int no, .int ns, .int nv, .int np, .ref qi, .int nn, .ref qo, .int nt])), (qm, .inl (cI, 104, .inl nm)), (qf, .inl (cI, 104, .inl nb)), (ql, .inl (cI, 4, .inl nl)), (qi, .inl (cI, 24, .inl ni)), (qo, .inl (cI, 16, .inl nu))] [(hq, .inr (3, [.ref qm, .ref qf, .ref ql, .int nc, .int nd, .int nf, .int na, .int nz, .int no, .int ns, .int nv, .int np, .ref qi, .int nn, .ref qo, .int nt])), (qm, .inl (cI, 104, .inl nm)), (qf, .inl (cI, 104, .inl nb)), (ql, .inl (cI, 4, .inl nl)), (qi, .inl (cI, 24, .inl ni)), (qo, .inl (cI, 16, .inl nu))] r := by
  intro sz
  refine Met.ofW (cc := b_Rf_pending) (maxL := 1) (ret := some .int) (by decide) rfl ?_
  intro p e s m args below meth c s₁ B hml hv
  obtain ⟨rfl, hsz, hP, hK, hD0⟩ := hv
  have hx := B.exec
  have hb := B.bytes
  have hr := B.returns
  have hts := atoms_spec (ws := w_Rf_pending) B.pre
  have hown : s.vm.findClass R_Rf = some m.cls := findClass_of_methodNamed B.named
  have hlocks := B.notSynchronized
  subst hsz
  have hD := hD0.self (sz := s.heap.size)
  generalize hAe : va_A [(hq, .inr (3, [.ref qm, .ref qf, .ref ql, .int nc, .int nd, .int nf, .int na, .int nz, .int no, .int ns, .int nv, .int np, .ref qi, .int nn, .ref qo, .int nt])), (qm, .inl (cI, 104, .inl nm)), (qf, .inl (cI, 104, .inl nb)), (ql, .inl (cI, 4, .inl nl)), (qi, .inl (cI, 24, .inl ni)), (qo, .inl (cI, 16, .inl nu))] s.heap.size = A at hD ⊢
  have hA : ∀ q : Nat, s.heap.size ≤ q → A q := fun q h => by rw [← hAe]; exact Or.inr h
  have hS : va_S A s.heap s.heap [] := va_S.rf
  have hP : va_P (dC, dI) vwCl [(hq, .inr (3, [.ref qm, .ref qf, .ref ql, .int nc, .int nd, .int nf, .int na, .int nz, .int no, .int ns, .int nv, .int np, .ref qi, .int nn, .ref qo, .int nt])), (qm, .inl (cI, 104, .inl nm)), (qf, .inl (cI, 104, .inl nb)), (ql, .inl (cI, 4, .inl nl)), (qi, .inl (cI, 24, .inl ni)), (qo, .inl (cI, 16, .inl nu))] s.heap := hP
  have hl := lv_entry ([.ref hq]) (n := 1) (Nat.le_of_ble_eq_true rfl)
  rw [lg_entry_eq]
  generalize (lg_sl ([.ref hq]) ++ List.replicate (1 - (lg_sl ([.ref hq])).length) Slot.unset).toArray = ls at hl ⊢
  have hl : lv_has ls 1 [(0, .ref hq)] := hl
  have inRf : ∀ w ∈ u_ws R_Rf F_Rf 16, w ∈ w_Rf_pending := fun w h => List.mem_cons_of_mem _ (in_Rf w h)
  have kf19 := hts _ (List.mem_cons_of_mem _ wq414)
  have kf64 := hts _ (List.mem_cons_of_mem _ wq409)
  rw [fRf_pending] at hf
  refine lv_aload_n hx hb d_Rf_pending_0 rfl (lv_at hl 0 rfl) ?_
  refine va_get (D := (dC, dI)) (ci := 3) (v := .int no) (C := R_Rf) (T := F_Rf) (N := 16) hx hb hts inRf hown hK hP 0 rfl rfl 8 (by decide) kf19 (fun _ h9 => h9) rfl d_Rf_pending_1 ?_
  refine lv_if_eq (tgt := 14) hx hb d_Rf_pending_4 rfl (fun hc1 => ?_) (fun hc1 => ?_)
  · have hf := ift hf hc1
    refine lv_iconst (v := (-1)) hx hb d_Rf_pending_14 (by decide) ?_
    have e1_ := lf1 hf
    subst e1_
    have hP9 := hP.sub (ws' := [(hq, .inr (3, [.ref qm, .ref qf, .ref ql, .int nc, .int nd, .int nf, .int na, .int nz, .int no, .int ns, .int nv, .int np, .ref qi, .int nn, .ref qo, .int nt])), (qm, .inl (cI, 104, .inl nm)), (qf, .inl (cI, 104, .inl nb)), (ql, .inl (cI, 4, .inl nl)), (qi, .inl (cI, 24, .inl ni)), (qo, .inl (cI, 16, .inl nu))]) [0, 1, 2, 3, 4, 5] rfl
    have hD9 := hD.sub (ws' := [(hq, .inr (3, [.ref qm, .ref qf, .ref ql, .int nc, .int nd, .int nf, .int na, .int nz, .int no, .int ns, .int nv, .int np, .ref qi, .int nn, .ref qo, .int nt])), (qm, .inl (cI, 104, .inl nm)), (qf, .inl (cI, 104, .inl nb)), (ql, .inl (cI, 4, .inl nl)), (qi, .inl (cI, 24, .inl ni)), (qo, .inl (cI, 16, .inl nu))]) [0, 1, 2, 3, 4, 5] (by decide) rfl
    exact W.iret (v := (-1)) hx hb hr (fun t ht hW => ⟨⟨(-1), (), rfl, rfl, by rw [ht]; exact hP9, va_K.moved hW.alike hK, hD9⟩, hS.F ht⟩) hS.2.2 d_Rf_pending_15
  have hf := ifn hf hc1
  refine lv_aload_n hx hb d_Rf_pending_7 rfl (lv_at hl 0 rfl) ?_
  refine va_get (D := (dC, dI)) (ci := 3) (v := .int nc) (C := R_Rf) (T := F_Rf) (N := 16) hx hb hts inRf hown hK hP 0 rfl rfl 3 (by decide) kf64 (fun _ h9 => h9) rfl d_Rf_pending_8 ?_
  refine lv_goto (tgt := 15) hx hb d_Rf_pending_11 rfl ?_
  have e1_ := lf1 hf
  subst e1_
  have hP9 := hP.sub (ws' := [(hq, .inr (3, [.ref qm, .ref qf, .ref ql, .int nc, .int nd, .int nf, .int na, .int nz, .int no, .int ns, .int nv, .int np, .ref qi, .int nn, .ref qo, .int nt])), (qm, .inl (cI, 104, .inl nm)), (qf, .inl (cI, 104, .inl nb)), (ql, .inl (cI, 4, .inl nl)), (qi, .inl (cI, 24, .inl ni)), (qo, .inl (cI, 16, .inl nu))]) [0, 1, 2, 3, 4, 5] rfl
  have hD9 := hD.sub (ws' := [(hq, .inr (3, [.ref qm, .ref qf, .ref ql, .int nc, .int nd, .int nf, .int na, .int nz, .int no, .int ns, .int nv, .int np, .ref qi, .int nn, .ref qo, .int nt])), (qm, .inl (cI, 104, .inl nm)), (qf, .inl (cI, 104, .inl nb)), (ql, .inl (cI, 4, .inl nl)), (qi, .inl (cI, 24, .inl ni)), (qo, .inl (cI, 16, .inl nu))]) [0, 1, 2, 3, 4, 5] (by decide) rfl
  exact W.iret (v := nc) hx hb hr (fun t ht hW => ⟨⟨nc, (), rfl, rfl, by rw [ht]; exact hP9, va_K.moved hW.alike hK, hD9⟩, hS.F ht⟩) hS.2.2 d_Rf_pending_15
theorem d_Rf_session_0 : decode b_Rf_session 0 = .ok (.aload_n 0, 1) := by decide +kernel
theorem d_Rf_session_1 : decode b_Rf_session 1 = .ok (.getfield 19, 3) := by decide +kernel
theorem d_Rf_session_4 : decode b_Rf_session 4 = .ok (.ifCond .ne 7, 3) := by decide +kernel
theorem d_Rf_session_7 : decode b_Rf_session 7 = .ok (.iconst (-1), 1) := by decide +kernel
theorem d_Rf_session_8 : decode b_Rf_session 8 = .ok (.goto 47, 3) := by decide +kernel
theorem d_Rf_session_11 : decode b_Rf_session 11 = .ok (.aload_n 0, 1) := by decide +kernel
theorem d_Rf_session_12 : decode b_Rf_session 12 = .ok (.getfield 23, 3) := by decide +kernel
theorem d_Rf_session_15 : decode b_Rf_session 15 = .ok (.ifCond .ge 8, 3) := by decide +kernel
theorem d_Rf_session_18 : decode b_Rf_session 18 = .ok (.bipush (-2), 2) := by decide +kernel
theorem d_Rf_session_20 : decode b_Rf_session 20 = .ok (.goto 35, 3) := by decide +kernel
theorem d_Rf_session_23 : decode b_Rf_session 23 = .ok (.aload_n 0, 1) := by decide +kernel
theorem d_Rf_session_24 : decode b_Rf_session 24 = .ok (.getfield 23, 3) := by decide +kernel
theorem d_Rf_session_27 : decode b_Rf_session 27 = .ok (.aload_n 0, 1) := by decide +kernel
theorem d_Rf_session_28 : decode b_Rf_session 28 = .ok (.getfield 33, 3) := by decide +kernel
theorem d_Rf_session_31 : decode b_Rf_session 31 = .ok (.ifCond .eq 8, 3) := by decide +kernel
theorem d_Rf_session_34 : decode b_Rf_session 34 = .ok (.bipush 8, 2) := by decide +kernel
theorem d_Rf_session_36 : decode b_Rf_session 36 = .ok (.goto 4, 3) := by decide +kernel
theorem d_Rf_session_39 : decode b_Rf_session 39 = .ok (.iconst 0, 1) := by decide +kernel
theorem d_Rf_session_40 : decode b_Rf_session 40 = .ok (.iadd, 1) := by decide +kernel
theorem d_Rf_session_41 : decode b_Rf_session 41 = .ok (.aload_n 0, 1) := by decide +kernel
theorem d_Rf_session_42 : decode b_Rf_session 42 = .ok (.getfield 36, 3) := by decide +kernel
theorem d_Rf_session_45 : decode b_Rf_session 45 = .ok (.ifCond .eq 8, 3) := by decide +kernel
theorem d_Rf_session_48 : decode b_Rf_session 48 = .ok (.bipush 16, 2) := by decide +kernel
theorem d_Rf_session_50 : decode b_Rf_session 50 = .ok (.goto 4, 3) := by decide +kernel
theorem d_Rf_session_53 : decode b_Rf_session 53 = .ok (.iconst 0, 1) := by decide +kernel
theorem d_Rf_session_54 : decode b_Rf_session 54 = .ok (.iadd, 1) := by decide +kernel
theorem d_Rf_session_55 : decode b_Rf_session 55 = .ok (.ireturn, 1) := by decide +kernel
def fRf_session (σ : StR) : Option (Int32) := match σ with | (nm, nb, nl, nc, nd, nf, na, nz, no, ns, nv, np, ni, nn, nu, nt) => if no = 0 then (some (-1)) else (if 0 ≤ ns then (if nv = 0 then (if np = 0 then (some ((ns + 0) + 0)) else (some ((ns + 0) + 16))) else (if np = 0 then (some ((ns + 8) + 0)) else (some ((ns + 8) + 16)))) else (some (-2)))
set_option maxHeartbeats 4000000 in
set_option maxRecDepth 100000 in
theorem ctRf_session (l : Launch) (dC : Nat → ClassId) (dI : Nat → Nat → Nat) (cI : ClassId) (hq qm qf ql qi qo : Nat) (nm : Nat → Int32) (nb : Nat → Int32) (nl : Nat → Int32) (nc : Int32) (nd : Int32) (nf : Int32) (na : Int32) (nz : Int32) (no : Int32) (ns : Int32) (nv : Int32) (np : Int32) (ni : Nat → Int32) (nn : Int32) (nu : Nat → Int32) (nt : Int32) (r : Int32) (hf : fRf_session (nm, nb, nl, nc, nd, nf, na, nz, no, ns, nv, np, ni, nn, nu, nt) = some r) : CtI l y_Rf_session w_Rf_session ({ frames := 0, cells := 0, slots := 0, locals := 0 }) (dC, dI) [(cI, .int)] [.ref hq] [(hq, .inr (3, [.ref qm, .ref qf, .ref ql, .int nc, .int nd, .int nf, .int na, .int nz, .int no, .int ns, .int nv, .int np, .ref qi, .int nn, .ref qo, .int nt])), (qm, .inl (cI, 104, .inl nm)), (qf, .inl (cI, 104, .inl nb)), (ql, .inl (cI, 4, .inl nl)), (qi, .inl (cI, 24, .inl ni)), (qo, .inl (cI, 16, .inl nu))] [(hq, .inr (3, [.ref qm, .ref qf, .ref ql, .int nc, .int nd, .int nf, .int na, .int nz, .int no, .int ns, .int nv, .int np, .ref qi, .int nn, .ref qo, .int nt])), (qm, .inl (cI, 104, .inl nm)), (qf, .inl (cI, 104, .inl nb)), (ql, .inl (cI, 4, .inl nl)), (qi, .inl (cI, 24, .inl ni)), (qo, .inl (cI, 16, .inl nu))] r := by
  intro sz
  refine Met.ofW (cc := b_Rf_session) (maxL := 1) (ret := some .int) (by decide) rfl ?_
  intro p e s m args below meth c s₁ B hml hv
  obtain ⟨rfl, hsz, hP, hK, hD0⟩ := hv
  have hx := B.exec
  have hb := B.bytes
  have hr := B.returns
  have hts := atoms_spec (ws := w_Rf_session) B.pre
  have hown : s.vm.findClass R_Rf = some m.cls := findClass_of_methodNamed B.named
  have hlocks := B.notSynchronized
  subst hsz
  have hD := hD0.self (sz := s.heap.size)
  generalize hAe : va_A [(hq, .inr (3, [.ref qm, .ref qf, .ref ql, .int nc, .int nd, .int nf, .int na, .int nz, .int no, .int ns, .int nv, .int np, .ref qi, .int nn, .ref qo, .int nt])), (qm, .inl (cI, 104, .inl nm)), (qf, .inl (cI, 104, .inl nb)), (ql, .inl (cI, 4, .inl nl)), (qi, .inl (cI, 24, .inl ni)), (qo, .inl (cI, 16, .inl nu))] s.heap.size = A at hD ⊢
  have hA : ∀ q : Nat, s.heap.size ≤ q → A q := fun q h => by rw [← hAe]; exact Or.inr h
  have hS : va_S A s.heap s.heap [] := va_S.rf
  have hP : va_P (dC, dI) vwCl [(hq, .inr (3, [.ref qm, .ref qf, .ref ql, .int nc, .int nd, .int nf, .int na, .int nz, .int no, .int ns, .int nv, .int np, .ref qi, .int nn, .ref qo, .int nt])), (qm, .inl (cI, 104, .inl nm)), (qf, .inl (cI, 104, .inl nb)), (ql, .inl (cI, 4, .inl nl)), (qi, .inl (cI, 24, .inl ni)), (qo, .inl (cI, 16, .inl nu))] s.heap := hP
  have hl := lv_entry ([.ref hq]) (n := 1) (Nat.le_of_ble_eq_true rfl)
  rw [lg_entry_eq]
  generalize (lg_sl ([.ref hq]) ++ List.replicate (1 - (lg_sl ([.ref hq])).length) Slot.unset).toArray = ls at hl ⊢
  have hl : lv_has ls 1 [(0, .ref hq)] := hl
  have inRf : ∀ w ∈ u_ws R_Rf F_Rf 16, w ∈ w_Rf_session := fun w h => List.mem_cons_of_mem _ (in_Rf w h)
  have kf19 := hts _ (List.mem_cons_of_mem _ wq414)
  have kf23 := hts _ (List.mem_cons_of_mem _ wq415)
  have kf33 := hts _ (List.mem_cons_of_mem _ wq416)
  have kf36 := hts _ (List.mem_cons_of_mem _ wq417)
  rw [fRf_session] at hf
  refine lv_aload_n hx hb d_Rf_session_0 rfl (lv_at hl 0 rfl) ?_
  refine va_get (D := (dC, dI)) (ci := 3) (v := .int no) (C := R_Rf) (T := F_Rf) (N := 16) hx hb hts inRf hown hK hP 0 rfl rfl 8 (by decide) kf19 (fun _ h9 => h9) rfl d_Rf_session_1 ?_
  refine lv_if_ne (tgt := 11) hx hb d_Rf_session_4 rfl (fun hc1 => ?_) (fun hc1 => ?_)
  · have hf := ifn hf hc1
    refine lv_aload_n hx hb d_Rf_session_11 rfl (lv_at hl 0 rfl) ?_
    refine va_get (D := (dC, dI)) (ci := 3) (v := .int ns) (C := R_Rf) (T := F_Rf) (N := 16) hx hb hts inRf hown hK hP 0 rfl rfl 9 (by decide) kf23 (fun _ h9 => h9) rfl d_Rf_session_12 ?_
    refine lv_if_ge (tgt := 23) hx hb d_Rf_session_15 rfl (fun hc2 => ?_) (fun hc2 => ?_)
    · have hf := ift hf hc2
      refine lv_aload_n hx hb d_Rf_session_23 rfl (lv_at hl 0 rfl) ?_
      refine va_get (D := (dC, dI)) (ci := 3) (v := .int ns) (C := R_Rf) (T := F_Rf) (N := 16) hx hb hts inRf hown hK hP 0 rfl rfl 9 (by decide) kf23 (fun _ h9 => h9) rfl d_Rf_session_24 ?_
      refine lv_aload_n hx hb d_Rf_session_27 rfl (lv_at hl 0 rfl) ?_
      refine va_get (D := (dC, dI)) (ci := 3) (v := .int nv) (C := R_Rf) (T := F_Rf) (N := 16) hx hb hts inRf hown hK hP 0 rfl rfl 10 (by decide) kf33 (fun _ h9 => h9) rfl d_Rf_session_28 ?_
      refine lv_if_eq (tgt := 39) hx hb d_Rf_session_31 rfl (fun hc3 => ?_) (fun hc3 => ?_)
      · have hf := ift hf hc3
        refine lv_iconst (v := 0) hx hb d_Rf_session_39 (by decide) ?_
        refine lv_iadd hx hb d_Rf_session_40 ?_
        refine lv_aload_n hx hb d_Rf_session_41 rfl (lv_at hl 0 rfl) ?_
        refine va_get (D := (dC, dI)) (ci := 3) (v := .int np) (C := R_Rf) (T := F_Rf) (N := 16) hx hb hts inRf hown hK hP 0 rfl rfl 11 (by decide) kf36 (fun _ h9 => h9) rfl d_Rf_session_42 ?_
        refine lv_if_eq (tgt := 53) hx hb d_Rf_session_45 rfl (fun hc4 => ?_) (fun hc4 => ?_)
        · have hf := ift hf hc4
          refine lv_iconst (v := 0) hx hb d_Rf_session_53 (by decide) ?_
          refine lv_iadd hx hb d_Rf_session_54 ?_
          have e1_ := lf1 hf
          subst e1_
          have hP9 := hP.sub (ws' := [(hq, .inr (3, [.ref qm, .ref qf, .ref ql, .int nc, .int nd, .int nf, .int na, .int nz, .int no, .int ns, .int nv, .int np, .ref qi, .int nn, .ref qo, .int nt])), (qm, .inl (cI, 104, .inl nm)), (qf, .inl (cI, 104, .inl nb)), (ql, .inl (cI, 4, .inl nl)), (qi, .inl (cI, 24, .inl ni)), (qo, .inl (cI, 16, .inl nu))]) [0, 1, 2, 3, 4, 5] rfl
          have hD9 := hD.sub (ws' := [(hq, .inr (3, [.ref qm, .ref qf, .ref ql, .int nc, .int nd, .int nf, .int na, .int nz, .int no, .int ns, .int nv, .int np, .ref qi, .int nn, .ref qo, .int nt])), (qm, .inl (cI, 104, .inl nm)), (qf, .inl (cI, 104, .inl nb)), (ql, .inl (cI, 4, .inl nl)), (qi, .inl (cI, 24, .inl ni)), (qo, .inl (cI, 16, .inl nu))]) [0, 1, 2, 3, 4, 5] (by decide) rfl
          exact W.iret (v := (ns + 0) + 0) hx hb hr (fun t ht hW => ⟨⟨(ns + 0) + 0, (), rfl, rfl, by rw [ht]; exact hP9, va_K.moved hW.alike hK, hD9⟩, hS.F ht⟩) hS.2.2 d_Rf_session_55
        have hf := ifn hf hc4
        refine lv_bipush (v := 16) hx hb d_Rf_session_48 (by decide) ?_
        refine lv_goto (tgt := 54) hx hb d_Rf_session_50 rfl ?_
        refine lv_iadd hx hb d_Rf_session_54 ?_
        have e1_ := lf1 hf
        subst e1_
        have hP9 := hP.sub (ws' := [(hq, .inr (3, [.ref qm, .ref qf, .ref ql, .int nc, .int nd, .int nf, .int na, .int nz, .int no, .int ns, .int nv, .int np, .ref qi, .int nn, .ref qo, .int nt])), (qm, .inl (cI, 104, .inl nm)), (qf, .inl (cI, 104, .inl nb)), (ql, .inl (cI, 4, .inl nl)), (qi, .inl (cI, 24, .inl ni)), (qo, .inl (cI, 16, .inl nu))]) [0, 1, 2, 3, 4, 5] rfl
        have hD9 := hD.sub (ws' := [(hq, .inr (3, [.ref qm, .ref qf, .ref ql, .int nc, .int nd, .int nf, .int na, .int nz, .int no, .int ns, .int nv, .int np, .ref qi, .int nn, .ref qo, .int nt])), (qm, .inl (cI, 104, .inl nm)), (qf, .inl (cI, 104, .inl nb)), (ql, .inl (cI, 4, .inl nl)), (qi, .inl (cI, 24, .inl ni)), (qo, .inl (cI, 16, .inl nu))]) [0, 1, 2, 3, 4, 5] (by decide) rfl
        exact W.iret (v := (ns + 0) + 16) hx hb hr (fun t ht hW => ⟨⟨(ns + 0) + 16, (), rfl, rfl, by rw [ht]; exact hP9, va_K.moved hW.alike hK, hD9⟩, hS.F ht⟩) hS.2.2 d_Rf_session_55
      have hf := ifn hf hc3
      refine lv_bipush (v := 8) hx hb d_Rf_session_34 (by decide) ?_
      refine lv_goto (tgt := 40) hx hb d_Rf_session_36 rfl ?_
      refine lv_iadd hx hb d_Rf_session_40 ?_
      refine lv_aload_n hx hb d_Rf_session_41 rfl (lv_at hl 0 rfl) ?_
      refine va_get (D := (dC, dI)) (ci := 3) (v := .int np) (C := R_Rf) (T := F_Rf) (N := 16) hx hb hts inRf hown hK hP 0 rfl rfl 11 (by decide) kf36 (fun _ h9 => h9) rfl d_Rf_session_42 ?_
      refine lv_if_eq (tgt := 53) hx hb d_Rf_session_45 rfl (fun hc5 => ?_) (fun hc5 => ?_)
      · have hf := ift hf hc5
        refine lv_iconst (v := 0) hx hb d_Rf_session_53 (by decide) ?_
        refine lv_iadd hx hb d_Rf_session_54 ?_
        have e1_ := lf1 hf
        subst e1_
        have hP9 := hP.sub (ws' := [(hq, .inr (3, [.ref qm, .ref qf, .ref ql, .int nc, .int nd, .int nf, .int na, .int nz, .int no, .int ns, .int nv, .int np, .ref qi, .int nn, .ref qo, .int nt])), (qm, .inl (cI, 104, .inl nm)), (qf, .inl (cI, 104, .inl nb)), (ql, .inl (cI, 4, .inl nl)), (qi, .inl (cI, 24, .inl ni)), (qo, .inl (cI, 16, .inl nu))]) [0, 1, 2, 3, 4, 5] rfl
        have hD9 := hD.sub (ws' := [(hq, .inr (3, [.ref qm, .ref qf, .ref ql, .int nc, .int nd, .int nf, .int na, .int nz, .int no, .int ns, .int nv, .int np, .ref qi, .int nn, .ref qo, .int nt])), (qm, .inl (cI, 104, .inl nm)), (qf, .inl (cI, 104, .inl nb)), (ql, .inl (cI, 4, .inl nl)), (qi, .inl (cI, 24, .inl ni)), (qo, .inl (cI, 16, .inl nu))]) [0, 1, 2, 3, 4, 5] (by decide) rfl
        exact W.iret (v := (ns + 8) + 0) hx hb hr (fun t ht hW => ⟨⟨(ns + 8) + 0, (), rfl, rfl, by rw [ht]; exact hP9, va_K.moved hW.alike hK, hD9⟩, hS.F ht⟩) hS.2.2 d_Rf_session_55
      have hf := ifn hf hc5
      refine lv_bipush (v := 16) hx hb d_Rf_session_48 (by decide) ?_
      refine lv_goto (tgt := 54) hx hb d_Rf_session_50 rfl ?_
      refine lv_iadd hx hb d_Rf_session_54 ?_
      have e1_ := lf1 hf
      subst e1_
      have hP9 := hP.sub (ws' := [(hq, .inr (3, [.ref qm, .ref qf, .ref ql, .int nc, .int nd, .int nf, .int na, .int nz, .int no, .int ns, .int nv, .int np, .ref qi, .int nn, .ref qo, .int nt])), (qm, .inl (cI, 104, .inl nm)), (qf, .inl (cI, 104, .inl nb)), (ql, .inl (cI, 4, .inl nl)), (qi, .inl (cI, 24, .inl ni)), (qo, .inl (cI, 16, .inl nu))]) [0, 1, 2, 3, 4, 5] rfl
      have hD9 := hD.sub (ws' := [(hq, .inr (3, [.ref qm, .ref qf, .ref ql, .int nc, .int nd, .int nf, .int na, .int nz, .int no, .int ns, .int nv, .int np, .ref qi, .int nn, .ref qo, .int nt])), (qm, .inl (cI, 104, .inl nm)), (qf, .inl (cI, 104, .inl nb)), (ql, .inl (cI, 4, .inl nl)), (qi, .inl (cI, 24, .inl ni)), (qo, .inl (cI, 16, .inl nu))]) [0, 1, 2, 3, 4, 5] (by decide) rfl
      exact W.iret (v := (ns + 8) + 16) hx hb hr (fun t ht hW => ⟨⟨(ns + 8) + 16, (), rfl, rfl, by rw [ht]; exact hP9, va_K.moved hW.alike hK, hD9⟩, hS.F ht⟩) hS.2.2 d_Rf_session_55
    have hf := ifn hf hc2
    refine lv_bipush (v := (-2)) hx hb d_Rf_session_18 (by decide) ?_
    refine lv_goto (tgt := 55) hx hb d_Rf_session_20 rfl ?_
    have e1_ := lf1 hf
    subst e1_
    have hP9 := hP.sub (ws' := [(hq, .inr (3, [.ref qm, .ref qf, .ref ql, .int nc, .int nd, .int nf, .int na, .int nz, .int no, .int ns, .int nv, .int np, .ref qi, .int nn, .ref qo, .int nt])), (qm, .inl (cI, 104, .inl nm)), (qf, .inl (cI, 104, .inl nb)), (ql, .inl (cI, 4, .inl nl)), (qi, .inl (cI, 24, .inl ni)), (qo, .inl (cI, 16, .inl nu))]) [0, 1, 2, 3, 4, 5] rfl
    have hD9 := hD.sub (ws' := [(hq, .inr (3, [.ref qm, .ref qf, .ref ql, .int nc, .int nd, .int nf, .int na, .int nz, .int no, .int ns, .int nv, .int np, .ref qi, .int nn, .ref qo, .int nt])), (qm, .inl (cI, 104, .inl nm)), (qf, .inl (cI, 104, .inl nb)), (ql, .inl (cI, 4, .inl nl)), (qi, .inl (cI, 24, .inl ni)), (qo, .inl (cI, 16, .inl nu))]) [0, 1, 2, 3, 4, 5] (by decide) rfl
    exact W.iret (v := (-2)) hx hb hr (fun t ht hW => ⟨⟨(-2), (), rfl, rfl, by rw [ht]; exact hP9, va_K.moved hW.alike hK, hD9⟩, hS.F ht⟩) hS.2.2 d_Rf_session_55
  have hf := ift hf hc1
  refine lv_iconst (v := (-1)) hx hb d_Rf_session_7 (by decide) ?_
  refine lv_goto (tgt := 55) hx hb d_Rf_session_8 rfl ?_
  have e1_ := lf1 hf
  subst e1_
  have hP9 := hP.sub (ws' := [(hq, .inr (3, [.ref qm, .ref qf, .ref ql, .int nc, .int nd, .int nf, .int na, .int nz, .int no, .int ns, .int nv, .int np, .ref qi, .int nn, .ref qo, .int nt])), (qm, .inl (cI, 104, .inl nm)), (qf, .inl (cI, 104, .inl nb)), (ql, .inl (cI, 4, .inl nl)), (qi, .inl (cI, 24, .inl ni)), (qo, .inl (cI, 16, .inl nu))]) [0, 1, 2, 3, 4, 5] rfl
  have hD9 := hD.sub (ws' := [(hq, .inr (3, [.ref qm, .ref qf, .ref ql, .int nc, .int nd, .int nf, .int na, .int nz, .int no, .int ns, .int nv, .int np, .ref qi, .int nn, .ref qo, .int nt])), (qm, .inl (cI, 104, .inl nm)), (qf, .inl (cI, 104, .inl nb)), (ql, .inl (cI, 4, .inl nl)), (qi, .inl (cI, 24, .inl ni)), (qo, .inl (cI, 16, .inl nu))]) [0, 1, 2, 3, 4, 5] (by decide) rfl
  exact W.iret (v := (-1)) hx hb hr (fun t ht hW => ⟨⟨(-1), (), rfl, rfl, by rw [ht]; exact hP9, va_K.moved hW.alike hK, hD9⟩, hS.F ht⟩) hS.2.2 d_Rf_session_55
