theorem d_Rf_init_0 : decode b_Rf_init 0 = .ok (.aload_n 0, 1) := by decide +kernel
theorem d_Rf_init_1 : decode b_Rf_init 1 = .ok (.invokespecial 1, 3) := by decide +kernel
theorem d_Rf_init_4 : decode b_Rf_init 4 = .ok (.aload_n 0, 1) := by decide +kernel
theorem d_Rf_init_5 : decode b_Rf_init 5 = .ok (.bipush 104, 2) := by decide +kernel
theorem d_Rf_init_7 : decode b_Rf_init 7 = .ok (.newarray .int, 2) := by decide +kernel
theorem d_Rf_init_9 : decode b_Rf_init 9 = .ok (.putfield 7, 3) := by decide +kernel
theorem d_Rf_init_12 : decode b_Rf_init 12 = .ok (.aload_n 0, 1) := by decide +kernel
theorem d_Rf_init_13 : decode b_Rf_init 13 = .ok (.bipush 104, 2) := by decide +kernel
theorem d_Rf_init_15 : decode b_Rf_init 15 = .ok (.newarray .int, 2) := by decide +kernel
theorem d_Rf_init_17 : decode b_Rf_init 17 = .ok (.putfield 13, 3) := by decide +kernel
theorem d_Rf_init_20 : decode b_Rf_init 20 = .ok (.aload_n 0, 1) := by decide +kernel
theorem d_Rf_init_21 : decode b_Rf_init 21 = .ok (.iconst 4, 1) := by decide +kernel
theorem d_Rf_init_22 : decode b_Rf_init 22 = .ok (.newarray .int, 2) := by decide +kernel
theorem d_Rf_init_24 : decode b_Rf_init 24 = .ok (.putfield 16, 3) := by decide +kernel
theorem d_Rf_init_27 : decode b_Rf_init 27 = .ok (.aload_n 0, 1) := by decide +kernel
theorem d_Rf_init_28 : decode b_Rf_init 28 = .ok (.iconst 1, 1) := by decide +kernel
theorem d_Rf_init_29 : decode b_Rf_init 29 = .ok (.putfield 19, 3) := by decide +kernel
theorem d_Rf_init_32 : decode b_Rf_init 32 = .ok (.aload_n 0, 1) := by decide +kernel
theorem d_Rf_init_33 : decode b_Rf_init 33 = .ok (.iconst (-1), 1) := by decide +kernel
theorem d_Rf_init_34 : decode b_Rf_init 34 = .ok (.putfield 23, 3) := by decide +kernel
theorem d_Rf_init_37 : decode b_Rf_init 37 = .ok (.aload_n 0, 1) := by decide +kernel
theorem d_Rf_init_38 : decode b_Rf_init 38 = .ok (.bipush 24, 2) := by decide +kernel
theorem d_Rf_init_40 : decode b_Rf_init 40 = .ok (.newarray .int, 2) := by decide +kernel
theorem d_Rf_init_42 : decode b_Rf_init 42 = .ok (.putfield 27, 3) := by decide +kernel
theorem d_Rf_init_45 : decode b_Rf_init 45 = .ok (.aload_n 0, 1) := by decide +kernel
theorem d_Rf_init_46 : decode b_Rf_init 46 = .ok (.bipush 16, 2) := by decide +kernel
theorem d_Rf_init_48 : decode b_Rf_init 48 = .ok (.newarray .int, 2) := by decide +kernel
theorem d_Rf_init_50 : decode b_Rf_init 50 = .ok (.putfield 30, 3) := by decide +kernel
theorem d_Rf_init_53 : decode b_Rf_init 53 = .ok (.iconst 0, 1) := by decide +kernel
theorem d_Rf_init_54 : decode b_Rf_init 54 = .ok (.istore_n 1, 1) := by decide +kernel
theorem d_Rf_init_55 : decode b_Rf_init 55 = .ok (.iload_n 1, 1) := by decide +kernel
theorem d_Rf_init_56 : decode b_Rf_init 56 = .ok (.iconst 4, 1) := by decide +kernel
theorem d_Rf_init_57 : decode b_Rf_init 57 = .ok (.if_icmp .ge 16, 3) := by decide +kernel
theorem d_Rf_init_60 : decode b_Rf_init 60 = .ok (.aload_n 0, 1) := by decide +kernel
theorem d_Rf_init_61 : decode b_Rf_init 61 = .ok (.getfield 16, 3) := by decide +kernel
theorem d_Rf_init_64 : decode b_Rf_init 64 = .ok (.iload_n 1, 1) := by decide +kernel
theorem d_Rf_init_65 : decode b_Rf_init 65 = .ok (.iconst 3, 1) := by decide +kernel
theorem d_Rf_init_66 : decode b_Rf_init 66 = .ok (.iastore, 1) := by decide +kernel
theorem d_Rf_init_67 : decode b_Rf_init 67 = .ok (.iinc 1 1, 3) := by decide +kernel
theorem d_Rf_init_70 : decode b_Rf_init 70 = .ok (.goto (-15), 3) := by decide +kernel
theorem d_Rf_init_73 : decode b_Rf_init 73 = .ok (.return_, 1) := by decide +kernel
def fRf_init_L55 : Nat → StR → Int32 → Option (StR)
  | 0, _, _ => none
  | n + 1, (nm, nb, nl, nc, nd, nf, na, nz, no, ns, nv, np, ni, nn, nu, nt), v1 => if 4 ≤ v1 then (some (nm, nb, nl, nc, nd, nf, na, nz, no, ns, nv, np, ni, nn, nu, nt)) else (ix v1 4 fun j2 => fRf_init_L55 n (nm, nb, upd nl j2 3, nc, nd, nf, na, nz, no, ns, nv, np, ni, nn, nu, nt) (v1 + 1))
def fRf_init : Option (StR) := fRf_init_L55 300 (fun _ => 0, fun _ => 0, fun _ => 0, 0, 0, 0, 0, 0, 1, (-1), 0, 0, fun _ => 0, 0, fun _ => 0, 0) 0
set_option maxHeartbeats 4000000 in
set_option maxRecDepth 100000 in
theorem ctRf_init (l : Launch) (dC : Nat → ClassId) (dI : Nat → Nat → Nat) (cI : ClassId) (hq : Nat) (nm' : Nat → Int32) (nb' : Nat → Int32) (nl' : Nat → Int32) (nc' : Int32) (nd' : Int32) (nf' : Int32) (na' : Int32) (nz' : Int32) (no' : Int32) (ns' : Int32) (nv' : Int32) (np' : Int32) (ni' : Nat → Int32) (nn' : Int32) (nu' : Nat → Int32) (nt' : Int32) (hf : fRf_init = some (nm', nb', nl', nc', nd', nf', na', nz', no', ns', nv', np', ni', nn', nu', nt')) : CtN l y_Rf_init w_Rf_init ({ frames := 1, cells := 5, slots := 252, locals := 12 }) (dC, dI) [(cI, .int)] [.ref hq] [(hq, .inr (3, [.null, .null, .null, .int 0, .int 0, .int 0, .int 0, .int 0, .int 0, .int 0, .int 0, .int 0, .null, .int 0, .null, .int 0]))] (fun u : Nat × Nat × Nat × Nat × Nat => [(hq, .inr (3, [.ref (u.1), .ref (u.2.1), .ref (u.2.2.1), .int nc', .int nd', .int nf', .int na', .int nz', .int no', .int ns', .int nv', .int np', .ref (u.2.2.2.1), .int nn', .ref (u.2.2.2.2), .int nt'])), ((u.1), .inl (cI, 104, .inl nm')), ((u.2.1), .inl (cI, 104, .inl nb')), ((u.2.2.1), .inl (cI, 4, .inl nl')), ((u.2.2.2.1), .inl (cI, 24, .inl ni')), ((u.2.2.2.2), .inl (cI, 16, .inl nu'))]) 5 252 := by
  intro sz
  refine Met.ofW (cc := b_Rf_init) (maxL := 2) (ret := none) (by decide) rfl ?_
  intro p e s m args below meth c s₁ B hml hv
  obtain ⟨rfl, hsz, hP, hK, hD0⟩ := hv
  have hx := B.exec
  have hb := B.bytes
  have hr := B.returns
  have hts := atoms_spec (ws := w_Rf_init) B.pre
  have hown : s.vm.findClass R_Rf = some m.cls := findClass_of_methodNamed B.named
  have hlocks := B.notSynchronized
  have hin : meth.name = "<init>" := (name_of_methodNamed B.named B.method).1
  subst hsz
  have hD := hD0.self (sz := s.heap.size)
  generalize hAe : va_A [(hq, .inr (3, [.null, .null, .null, .int 0, .int 0, .int 0, .int 0, .int 0, .int 0, .int 0, .int 0, .int 0, .null, .int 0, .null, .int 0]))] s.heap.size = A at hD ⊢
  have hA : ∀ q : Nat, s.heap.size ≤ q → A q := fun q h => by rw [← hAe]; exact Or.inr h
  have hS : va_S A s.heap s.heap [] := va_S.rf
  have hP : va_P (dC, dI) vwCl [(hq, .inr (3, [.null, .null, .null, .int 0, .int 0, .int 0, .int 0, .int 0, .int 0, .int 0, .int 0, .int 0, .null, .int 0, .null, .int 0]))] s.heap := hP
  have hl := lv_entry ([.ref hq]) (n := 2) (Nat.le_of_ble_eq_true rfl)
  rw [lg_entry_eq]
  generalize (lg_sl ([.ref hq]) ++ List.replicate (2 - (lg_sl ([.ref hq])).length) Slot.unset).toArray = ls at hl ⊢
  have hl : lv_has ls 2 [(0, .ref hq)] := hl
  have inRf : ∀ w ∈ u_ws R_Rf F_Rf 16, w ∈ w_Rf_init := fun w h => List.mem_cons_of_mem _ (in_Rf w h)
  have ka0 := hts _ (List.mem_cons_of_mem _ wq77)
  have kf13 := hts _ (List.mem_cons_of_mem _ wq407)
  have kf16 := hts _ (List.mem_cons_of_mem _ wq408)
  have kf19 := hts _ (List.mem_cons_of_mem _ wq414)
  have kf23 := hts _ (List.mem_cons_of_mem _ wq415)
  have kf27 := hts _ (List.mem_cons_of_mem _ wq418)
  have kf30 := hts _ (List.mem_cons_of_mem _ wq420)
  have kf7 := hts _ (List.mem_cons_of_mem _ wq406)
  have km1 := hts _ (List.mem_cons_of_mem _ wq405)
  have ko0 := hts _ (List.mem_cons_of_mem _ wq56)
  have ko1 := hts _ (List.mem_cons_of_mem _ wq57)
  rw [fRf_init] at hf
  refine lv_aload_n hx hb d_Rf_init_0 rfl (lv_at hl 0 rfl) ?_
  refine W.objInit hx hb hown km1 ko0 ko1 rfl (by rw [hml]; exact hl.1) rfl d_Rf_init_1 (Nat.le_of_ble_eq_true rfl) (Nat.le_of_ble_eq_true rfl) ?_
  refine W.eq (g2 := F0 m 4 ls []) rfl ?_
  refine lv_aload_n hx hb d_Rf_init_4 rfl (lv_at hl 0 rfl) ?_
  refine lv_bipush (v := 104) hx hb d_Rf_init_5 (by decide) ?_
  refine xnewa (N := 104) hx hb ka0 hK hP hD hS hA (by decide) (by decide) (by decide) (Nat.le_of_ble_eq_true rfl) (Nat.le_of_ble_eq_true rfl) d_Rf_init_7 (fun qm H hP hD hS => ?_)
  have hP : va_P (dC, dI) vwCl [(hq, .inr (3, [.null, .null, .null, .int 0, .int 0, .int 0, .int 0, .int 0, .int 0, .int 0, .int 0, .int 0, .null, .int 0, .null, .int 0])), (qm, .inl (cI, 104, .inl (fun _ => 0)))] H := hP
  have hD : va_D A [(hq, .inr (3, [.null, .null, .null, .int 0, .int 0, .int 0, .int 0, .int 0, .int 0, .int 0, .int 0, .int 0, .null, .int 0, .null, .int 0])), (qm, .inl (cI, 104, .inl (fun _ => 0)))] := hD
  refine va_putF (D := (dC, dI)) (ci := 3) (v := .ref qm) (ty := .array .int) (C := R_Rf) (T := F_Rf) (N := 16) hx hb hts inRf t_Rf t_Rf_ok n_Rf hown hK hP hD hS 0 rfl rfl 0 (by decide) kf7 (fun _ h9 => h9) rfl hin rfl (by decide +kernel) rfl rfl (Nat.le_of_ble_eq_true rfl) d_Rf_init_9 (fun H locs hP hD hS => ?_)
  have hP : va_P (dC, dI) vwCl [(hq, .inr (3, [.ref qm, .null, .null, .int 0, .int 0, .int 0, .int 0, .int 0, .int 0, .int 0, .int 0, .int 0, .null, .int 0, .null, .int 0])), (qm, .inl (cI, 104, .inl (fun _ => 0)))] H := hP
  have hD : va_D A [(hq, .inr (3, [.ref qm, .null, .null, .int 0, .int 0, .int 0, .int 0, .int 0, .int 0, .int 0, .int 0, .int 0, .null, .int 0, .null, .int 0])), (qm, .inl (cI, 104, .inl (fun _ => 0)))] := hD
  refine lv_aload_n hx hb d_Rf_init_12 rfl (lv_at hl 0 rfl) ?_
  refine lv_bipush (v := 104) hx hb d_Rf_init_13 (by decide) ?_
  refine xnewa (N := 104) hx hb ka0 hK hP hD hS hA (by decide) (by decide) (by decide) (Nat.le_of_ble_eq_true rfl) (Nat.le_of_ble_eq_true rfl) d_Rf_init_15 (fun qf H hP hD hS => ?_)
  have hP : va_P (dC, dI) vwCl [(hq, .inr (3, [.ref qm, .null, .null, .int 0, .int 0, .int 0, .int 0, .int 0, .int 0, .int 0, .int 0, .int 0, .null, .int 0, .null, .int 0])), (qm, .inl (cI, 104, .inl (fun _ => 0))), (qf, .inl (cI, 104, .inl (fun _ => 0)))] H := hP
  have hD : va_D A [(hq, .inr (3, [.ref qm, .null, .null, .int 0, .int 0, .int 0, .int 0, .int 0, .int 0, .int 0, .int 0, .int 0, .null, .int 0, .null, .int 0])), (qm, .inl (cI, 104, .inl (fun _ => 0))), (qf, .inl (cI, 104, .inl (fun _ => 0)))] := hD
  refine va_putF (D := (dC, dI)) (ci := 3) (v := .ref qf) (ty := .array .int) (C := R_Rf) (T := F_Rf) (N := 16) hx hb hts inRf t_Rf t_Rf_ok n_Rf hown hK hP hD hS 0 rfl rfl 1 (by decide) kf13 (fun _ h9 => h9) rfl hin rfl (by decide +kernel) rfl rfl (Nat.le_of_ble_eq_true rfl) d_Rf_init_17 (fun H locs hP hD hS => ?_)
  have hP : va_P (dC, dI) vwCl [(hq, .inr (3, [.ref qm, .ref qf, .null, .int 0, .int 0, .int 0, .int 0, .int 0, .int 0, .int 0, .int 0, .int 0, .null, .int 0, .null, .int 0])), (qm, .inl (cI, 104, .inl (fun _ => 0))), (qf, .inl (cI, 104, .inl (fun _ => 0)))] H := hP
  have hD : va_D A [(hq, .inr (3, [.ref qm, .ref qf, .null, .int 0, .int 0, .int 0, .int 0, .int 0, .int 0, .int 0, .int 0, .int 0, .null, .int 0, .null, .int 0])), (qm, .inl (cI, 104, .inl (fun _ => 0))), (qf, .inl (cI, 104, .inl (fun _ => 0)))] := hD
  refine lv_aload_n hx hb d_Rf_init_20 rfl (lv_at hl 0 rfl) ?_
  refine lv_iconst (v := 4) hx hb d_Rf_init_21 (by decide) ?_
  refine xnewa (N := 4) hx hb ka0 hK hP hD hS hA (by decide) (by decide) (by decide) (Nat.le_of_ble_eq_true rfl) (Nat.le_of_ble_eq_true rfl) d_Rf_init_22 (fun ql H hP hD hS => ?_)
  have hP : va_P (dC, dI) vwCl [(hq, .inr (3, [.ref qm, .ref qf, .null, .int 0, .int 0, .int 0, .int 0, .int 0, .int 0, .int 0, .int 0, .int 0, .null, .int 0, .null, .int 0])), (qm, .inl (cI, 104, .inl (fun _ => 0))), (qf, .inl (cI, 104, .inl (fun _ => 0))), (ql, .inl (cI, 4, .inl (fun _ => 0)))] H := hP
  have hD : va_D A [(hq, .inr (3, [.ref qm, .ref qf, .null, .int 0, .int 0, .int 0, .int 0, .int 0, .int 0, .int 0, .int 0, .int 0, .null, .int 0, .null, .int 0])), (qm, .inl (cI, 104, .inl (fun _ => 0))), (qf, .inl (cI, 104, .inl (fun _ => 0))), (ql, .inl (cI, 4, .inl (fun _ => 0)))] := hD
  refine va_putF (D := (dC, dI)) (ci := 3) (v := .ref ql) (ty := .array .int) (C := R_Rf) (T := F_Rf) (N := 16) hx hb hts inRf t_Rf t_Rf_ok n_Rf hown hK hP hD hS 0 rfl rfl 2 (by decide) kf16 (fun _ h9 => h9) rfl hin rfl (by decide +kernel) rfl rfl (Nat.le_of_ble_eq_true rfl) d_Rf_init_24 (fun H locs hP hD hS => ?_)
  have hP : va_P (dC, dI) vwCl [(hq, .inr (3, [.ref qm, .ref qf, .ref ql, .int 0, .int 0, .int 0, .int 0, .int 0, .int 0, .int 0, .int 0, .int 0, .null, .int 0, .null, .int 0])), (qm, .inl (cI, 104, .inl (fun _ => 0))), (qf, .inl (cI, 104, .inl (fun _ => 0))), (ql, .inl (cI, 4, .inl (fun _ => 0)))] H := hP
  have hD : va_D A [(hq, .inr (3, [.ref qm, .ref qf, .ref ql, .int 0, .int 0, .int 0, .int 0, .int 0, .int 0, .int 0, .int 0, .int 0, .null, .int 0, .null, .int 0])), (qm, .inl (cI, 104, .inl (fun _ => 0))), (qf, .inl (cI, 104, .inl (fun _ => 0))), (ql, .inl (cI, 4, .inl (fun _ => 0)))] := hD
  refine lv_aload_n hx hb d_Rf_init_27 rfl (lv_at hl 0 rfl) ?_
  refine lv_iconst (v := 1) hx hb d_Rf_init_28 (by decide) ?_
  refine va_put (D := (dC, dI)) (ci := 3) (v := .int 1) (ty := .boolean) (C := R_Rf) (T := F_Rf) (N := 16) hx hb hts inRf t_Rf t_Rf_ok n_Rf hown hK hP hD hS 0 rfl rfl 8 (by decide) kf19 (fun _ h9 => h9) rfl (by decide +kernel) rfl rfl (Nat.le_of_ble_eq_true rfl) d_Rf_init_29 (fun H locs hP hD hS => ?_)
  have hP : va_P (dC, dI) vwCl [(hq, .inr (3, [.ref qm, .ref qf, .ref ql, .int 0, .int 0, .int 0, .int 0, .int 0, .int 1, .int 0, .int 0, .int 0, .null, .int 0, .null, .int 0])), (qm, .inl (cI, 104, .inl (fun _ => 0))), (qf, .inl (cI, 104, .inl (fun _ => 0))), (ql, .inl (cI, 4, .inl (fun _ => 0)))] H := hP
  have hD : va_D A [(hq, .inr (3, [.ref qm, .ref qf, .ref ql, .int 0, .int 0, .int 0, .int 0, .int 0, .int 1, .int 0, .int 0, .int 0, .null, .int 0, .null, .int 0])), (qm, .inl (cI, 104, .inl (fun _ => 0))), (qf, .inl (cI, 104, .inl (fun _ => 0))), (ql, .inl (cI, 4, .inl (fun _ => 0)))] := hD
  refine lv_aload_n hx hb d_Rf_init_32 rfl (lv_at hl 0 rfl) ?_
  refine lv_iconst (v := (-1)) hx hb d_Rf_init_33 (by decide) ?_
  refine va_put (D := (dC, dI)) (ci := 3) (v := .int (-1)) (ty := .int) (C := R_Rf) (T := F_Rf) (N := 16) hx hb hts inRf t_Rf t_Rf_ok n_Rf hown hK hP hD hS 0 rfl rfl 9 (by decide) kf23 (fun _ h9 => h9) rfl (by decide +kernel) rfl rfl (Nat.le_of_ble_eq_true rfl) d_Rf_init_34 (fun H locs hP hD hS => ?_)
  have hP : va_P (dC, dI) vwCl [(hq, .inr (3, [.ref qm, .ref qf, .ref ql, .int 0, .int 0, .int 0, .int 0, .int 0, .int 1, .int (-1), .int 0, .int 0, .null, .int 0, .null, .int 0])), (qm, .inl (cI, 104, .inl (fun _ => 0))), (qf, .inl (cI, 104, .inl (fun _ => 0))), (ql, .inl (cI, 4, .inl (fun _ => 0)))] H := hP
  have hD : va_D A [(hq, .inr (3, [.ref qm, .ref qf, .ref ql, .int 0, .int 0, .int 0, .int 0, .int 0, .int 1, .int (-1), .int 0, .int 0, .null, .int 0, .null, .int 0])), (qm, .inl (cI, 104, .inl (fun _ => 0))), (qf, .inl (cI, 104, .inl (fun _ => 0))), (ql, .inl (cI, 4, .inl (fun _ => 0)))] := hD
  refine lv_aload_n hx hb d_Rf_init_37 rfl (lv_at hl 0 rfl) ?_
  refine lv_bipush (v := 24) hx hb d_Rf_init_38 (by decide) ?_
  refine xnewa (N := 24) hx hb ka0 hK hP hD hS hA (by decide) (by decide) (by decide) (Nat.le_of_ble_eq_true rfl) (Nat.le_of_ble_eq_true rfl) d_Rf_init_40 (fun qi H hP hD hS => ?_)
  have hP : va_P (dC, dI) vwCl [(hq, .inr (3, [.ref qm, .ref qf, .ref ql, .int 0, .int 0, .int 0, .int 0, .int 0, .int 1, .int (-1), .int 0, .int 0, .null, .int 0, .null, .int 0])), (qm, .inl (cI, 104, .inl (fun _ => 0))), (qf, .inl (cI, 104, .inl (fun _ => 0))), (ql, .inl (cI, 4, .inl (fun _ => 0))), (qi, .inl (cI, 24, .inl (fun _ => 0)))] H := hP
  have hD : va_D A [(hq, .inr (3, [.ref qm, .ref qf, .ref ql, .int 0, .int 0, .int 0, .int 0, .int 0, .int 1, .int (-1), .int 0, .int 0, .null, .int 0, .null, .int 0])), (qm, .inl (cI, 104, .inl (fun _ => 0))), (qf, .inl (cI, 104, .inl (fun _ => 0))), (ql, .inl (cI, 4, .inl (fun _ => 0))), (qi, .inl (cI, 24, .inl (fun _ => 0)))] := hD
  refine va_putF (D := (dC, dI)) (ci := 3) (v := .ref qi) (ty := .array .int) (C := R_Rf) (T := F_Rf) (N := 16) hx hb hts inRf t_Rf t_Rf_ok n_Rf hown hK hP hD hS 0 rfl rfl 12 (by decide) kf27 (fun _ h9 => h9) rfl hin rfl (by decide +kernel) rfl rfl (Nat.le_of_ble_eq_true rfl) d_Rf_init_42 (fun H locs hP hD hS => ?_)
  have hP : va_P (dC, dI) vwCl [(hq, .inr (3, [.ref qm, .ref qf, .ref ql, .int 0, .int 0, .int 0, .int 0, .int 0, .int 1, .int (-1), .int 0, .int 0, .ref qi, .int 0, .null, .int 0])), (qm, .inl (cI, 104, .inl (fun _ => 0))), (qf, .inl (cI, 104, .inl (fun _ => 0))), (ql, .inl (cI, 4, .inl (fun _ => 0))), (qi, .inl (cI, 24, .inl (fun _ => 0)))] H := hP
  have hD : va_D A [(hq, .inr (3, [.ref qm, .ref qf, .ref ql, .int 0, .int 0, .int 0, .int 0, .int 0, .int 1, .int (-1), .int 0, .int 0, .ref qi, .int 0, .null, .int 0])), (qm, .inl (cI, 104, .inl (fun _ => 0))), (qf, .inl (cI, 104, .inl (fun _ => 0))), (ql, .inl (cI, 4, .inl (fun _ => 0))), (qi, .inl (cI, 24, .inl (fun _ => 0)))] := hD
  refine lv_aload_n hx hb d_Rf_init_45 rfl (lv_at hl 0 rfl) ?_
  refine lv_bipush (v := 16) hx hb d_Rf_init_46 (by decide) ?_
  refine xnewa (N := 16) hx hb ka0 hK hP hD hS hA (by decide) (by decide) (by decide) (Nat.le_of_ble_eq_true rfl) (Nat.le_of_ble_eq_true rfl) d_Rf_init_48 (fun qo H hP hD hS => ?_)
  have hP : va_P (dC, dI) vwCl [(hq, .inr (3, [.ref qm, .ref qf, .ref ql, .int 0, .int 0, .int 0, .int 0, .int 0, .int 1, .int (-1), .int 0, .int 0, .ref qi, .int 0, .null, .int 0])), (qm, .inl (cI, 104, .inl (fun _ => 0))), (qf, .inl (cI, 104, .inl (fun _ => 0))), (ql, .inl (cI, 4, .inl (fun _ => 0))), (qi, .inl (cI, 24, .inl (fun _ => 0))), (qo, .inl (cI, 16, .inl (fun _ => 0)))] H := hP
  have hD : va_D A [(hq, .inr (3, [.ref qm, .ref qf, .ref ql, .int 0, .int 0, .int 0, .int 0, .int 0, .int 1, .int (-1), .int 0, .int 0, .ref qi, .int 0, .null, .int 0])), (qm, .inl (cI, 104, .inl (fun _ => 0))), (qf, .inl (cI, 104, .inl (fun _ => 0))), (ql, .inl (cI, 4, .inl (fun _ => 0))), (qi, .inl (cI, 24, .inl (fun _ => 0))), (qo, .inl (cI, 16, .inl (fun _ => 0)))] := hD
  refine va_putF (D := (dC, dI)) (ci := 3) (v := .ref qo) (ty := .array .int) (C := R_Rf) (T := F_Rf) (N := 16) hx hb hts inRf t_Rf t_Rf_ok n_Rf hown hK hP hD hS 0 rfl rfl 14 (by decide) kf30 (fun _ h9 => h9) rfl hin rfl (by decide +kernel) rfl rfl (Nat.le_of_ble_eq_true rfl) d_Rf_init_50 (fun H locs hP hD hS => ?_)
  have hP : va_P (dC, dI) vwCl [(hq, .inr (3, [.ref qm, .ref qf, .ref ql, .int 0, .int 0, .int 0, .int 0, .int 0, .int 1, .int (-1), .int 0, .int 0, .ref qi, .int 0, .ref qo, .int 0])), (qm, .inl (cI, 104, .inl (fun _ => 0))), (qf, .inl (cI, 104, .inl (fun _ => 0))), (ql, .inl (cI, 4, .inl (fun _ => 0))), (qi, .inl (cI, 24, .inl (fun _ => 0))), (qo, .inl (cI, 16, .inl (fun _ => 0)))] H := hP
  have hD : va_D A [(hq, .inr (3, [.ref qm, .ref qf, .ref ql, .int 0, .int 0, .int 0, .int 0, .int 0, .int 1, .int (-1), .int 0, .int 0, .ref qi, .int 0, .ref qo, .int 0])), (qm, .inl (cI, 104, .inl (fun _ => 0))), (qf, .inl (cI, 104, .inl (fun _ => 0))), (ql, .inl (cI, 4, .inl (fun _ => 0))), (qi, .inl (cI, 24, .inl (fun _ => 0))), (qo, .inl (cI, 16, .inl (fun _ => 0)))] := hD
  refine lv_iconst (v := 0) hx hb d_Rf_init_53 (by decide) ?_
  refine lv_istore_n hx hb d_Rf_init_54 rfl hl (by decide) rfl (fun ls hl => ?_)
  have hl : lv_has ls 2 [(1, .int 0), (0, .ref hq)] := hl
  have hl := lv_sub (l' := [(0, .ref hq), (1, .int 0)]) hl [1, 0] rfl
  refine xloop (σ := (Nat → Int32) × (Nat → Int32) × (Nat → Int32) × (Int32) × (Int32) × (Int32) × (Int32) × (Int32) × (Int32) × (Int32) × (Int32) × (Int32) × (Nat → Int32) × (Int32) × (Nat → Int32) × (Int32) × (Int32)) (pc := 55) (fun n x H locs ls => va_P (dC, dI) vwCl [(hq, .inr (3, [.ref qm, .ref qf, .ref ql, .int (x.2.2.2.1), .int (x.2.2.2.2.1), .int (x.2.2.2.2.2.1), .int (x.2.2.2.2.2.2.1), .int (x.2.2.2.2.2.2.2.1), .int (x.2.2.2.2.2.2.2.2.1), .int (x.2.2.2.2.2.2.2.2.2.1), .int (x.2.2.2.2.2.2.2.2.2.2.1), .int (x.2.2.2.2.2.2.2.2.2.2.2.1), .ref qi, .int (x.2.2.2.2.2.2.2.2.2.2.2.2.2.1), .ref qo, .int (x.2.2.2.2.2.2.2.2.2.2.2.2.2.2.2.1)])), (qm, .inl (cI, 104, .inl (x.1))), (qf, .inl (cI, 104, .inl (x.2.1))), (ql, .inl (cI, 4, .inl (x.2.2.1))), (qi, .inl (cI, 24, .inl (x.2.2.2.2.2.2.2.2.2.2.2.2.1))), (qo, .inl (cI, 16, .inl (x.2.2.2.2.2.2.2.2.2.2.2.2.2.2.1)))] H ∧ va_D A [(hq, .inr (3, [.ref qm, .ref qf, .ref ql, .int (x.2.2.2.1), .int (x.2.2.2.2.1), .int (x.2.2.2.2.2.1), .int (x.2.2.2.2.2.2.1), .int (x.2.2.2.2.2.2.2.1), .int (x.2.2.2.2.2.2.2.2.1), .int (x.2.2.2.2.2.2.2.2.2.1), .int (x.2.2.2.2.2.2.2.2.2.2.1), .int (x.2.2.2.2.2.2.2.2.2.2.2.1), .ref qi, .int (x.2.2.2.2.2.2.2.2.2.2.2.2.2.1), .ref qo, .int (x.2.2.2.2.2.2.2.2.2.2.2.2.2.2.2.1)])), (qm, .inl (cI, 104, .inl (x.1))), (qf, .inl (cI, 104, .inl (x.2.1))), (ql, .inl (cI, 4, .inl (x.2.2.1))), (qi, .inl (cI, 24, .inl (x.2.2.2.2.2.2.2.2.2.2.2.2.1))), (qo, .inl (cI, 16, .inl (x.2.2.2.2.2.2.2.2.2.2.2.2.2.2.1)))] ∧ va_S A s.heap H locs ∧ lv_has ls 2 [(0, .ref hq), (1, .int (x.2.2.2.2.2.2.2.2.2.2.2.2.2.2.2.2))] ∧ fRf_init_L55 n (x.1, x.2.1, x.2.2.1, x.2.2.2.1, x.2.2.2.2.1, x.2.2.2.2.2.1, x.2.2.2.2.2.2.1, x.2.2.2.2.2.2.2.1, x.2.2.2.2.2.2.2.2.1, x.2.2.2.2.2.2.2.2.2.1, x.2.2.2.2.2.2.2.2.2.2.1, x.2.2.2.2.2.2.2.2.2.2.2.1, x.2.2.2.2.2.2.2.2.2.2.2.2.1, x.2.2.2.2.2.2.2.2.2.2.2.2.2.1, x.2.2.2.2.2.2.2.2.2.2.2.2.2.2.1, x.2.2.2.2.2.2.2.2.2.2.2.2.2.2.2.1) x.2.2.2.2.2.2.2.2.2.2.2.2.2.2.2.2 = some (nm', nb', nl', nc', nd', nf', na', nz', no', ns', nv', np', ni', nn', nu', nt')) ?_ (fun x H locs ls h => by have h9 := h.2.2.2.2; rw [fRf_init_L55] at h9; cases h9) 300 (fun _ => 0, fun _ => 0, fun _ => 0, 0, 0, 0, 0, 0, 1, (-1), 0, 0, fun _ => 0, 0, fun _ => 0, 0, 0) _ _ ls ⟨hP, hD, hS, hl, hf⟩
  intro n ih x H locs ls hI
  obtain ⟨nm, nb, nl, nc, nd, nf, na, nz, no, ns, nv, np, ni, nn, nu, nt, v1⟩ := x
  obtain ⟨hP, hD, hS, hl, hf⟩ := hI
  have hP : va_P (dC, dI) vwCl [(hq, .inr (3, [.ref qm, .ref qf, .ref ql, .int nc, .int nd, .int nf, .int na, .int nz, .int no, .int ns, .int nv, .int np, .ref qi, .int nn, .ref qo, .int nt])), (qm, .inl (cI, 104, .inl nm)), (qf, .inl (cI, 104, .inl nb)), (ql, .inl (cI, 4, .inl nl)), (qi, .inl (cI, 24, .inl ni)), (qo, .inl (cI, 16, .inl nu))] H := hP
  have hD : va_D A [(hq, .inr (3, [.ref qm, .ref qf, .ref ql, .int nc, .int nd, .int nf, .int na, .int nz, .int no, .int ns, .int nv, .int np, .ref qi, .int nn, .ref qo, .int nt])), (qm, .inl (cI, 104, .inl nm)), (qf, .inl (cI, 104, .inl nb)), (ql, .inl (cI, 4, .inl nl)), (qi, .inl (cI, 24, .inl ni)), (qo, .inl (cI, 16, .inl nu))] := hD
  have hl : lv_has ls 2 [(0, .ref hq), (1, .int v1)] := hl
  rw [fRf_init_L55] at hf
  refine lv_iload_n hx hb d_Rf_init_55 rfl (lv_at hl 1 rfl) ?_
  refine lv_iconst (v := 4) hx hb d_Rf_init_56 (by decide) ?_
  refine lv_icmp_ge (tgt := 73) hx hb d_Rf_init_57 rfl (fun hc1 => ?_) (fun hc1 => ?_)
  · have hf := ift hf hc1
    obtain ⟨e1_, e2_, e3_, e4_, e5_, e6_, e7_, e8_, e9_, e10_, e11_, e12_, e13_, e14_, e15_, e16_⟩ := lf16 hf
    subst e1_; subst e2_; subst e3_; subst e4_; subst e5_; subst e6_; subst e7_; subst e8_; subst e9_; subst e10_; subst e11_; subst e12_; subst e13_; subst e14_; subst e15_; subst e16_
    have hP9 := hP.sub (ws' := [(hq, .inr (3, [.ref qm, .ref qf, .ref ql, .int nc, .int nd, .int nf, .int na, .int nz, .int no, .int ns, .int nv, .int np, .ref qi, .int nn, .ref qo, .int nt])), (qm, .inl (cI, 104, .inl nm)), (qf, .inl (cI, 104, .inl nb)), (ql, .inl (cI, 4, .inl nl)), (qi, .inl (cI, 24, .inl ni)), (qo, .inl (cI, 16, .inl nu))]) [0, 1, 2, 3, 4, 5] rfl
    have hD9 := hD.sub (ws' := [(hq, .inr (3, [.ref qm, .ref qf, .ref ql, .int nc, .int nd, .int nf, .int na, .int nz, .int no, .int ns, .int nv, .int np, .ref qi, .int nn, .ref qo, .int nt])), (qm, .inl (cI, 104, .inl nm)), (qf, .inl (cI, 104, .inl nb)), (ql, .inl (cI, 4, .inl nl)), (qi, .inl (cI, 24, .inl ni)), (qo, .inl (cI, 16, .inl nu))]) [0, 1, 2, 3, 4, 5] (by decide) rfl
    refine W.widen (k := 5) (n := 252) (Nat.le_of_ble_eq_true rfl) (Nat.le_of_ble_eq_true rfl) ?_
    exact W.vret hx hb hr (fun t ht hW => ⟨⟨(qm, qf, ql, qi, qo), rfl, trivial, by rw [ht]; exact hP9, va_K.moved hW.alike hK, hD9⟩, hS.F ht⟩) hS.2.2 d_Rf_init_73
  have hf := ifn hf hc1
  refine lv_aload_n hx hb d_Rf_init_60 rfl (lv_at hl 0 rfl) ?_
  refine va_get (D := (dC, dI)) (ci := 3) (v := .ref ql) (C := R_Rf) (T := F_Rf) (N := 16) hx hb hts inRf hown hK hP 0 rfl rfl 2 (by decide) kf16 (fun _ h9 => h9) rfl d_Rf_init_61 ?_
  refine lv_iload_n hx hb d_Rf_init_64 rfl (lv_at hl 1 rfl) ?_
  refine lv_iconst (v := 3) hx hb d_Rf_init_65 (by decide) ?_
  obtain ⟨hin_, hf⟩ := ix_some hf
  refine va_iast hx hb hK hP hD hS 3 0 rfl rfl hin_ d_Rf_init_66 (fun H locs hP hD hS => ?_)
  have hP : va_P (dC, dI) vwCl [(hq, .inr (3, [.ref qm, .ref qf, .ref ql, .int nc, .int nd, .int nf, .int na, .int nz, .int no, .int ns, .int nv, .int np, .ref qi, .int nn, .ref qo, .int nt])), (qm, .inl (cI, 104, .inl nm)), (qf, .inl (cI, 104, .inl nb)), (ql, .inl (cI, 4, .inl (upd nl (v1 : Int32).toNatClampNeg 3))), (qi, .inl (cI, 24, .inl ni)), (qo, .inl (cI, 16, .inl nu))] H := hP
  have hD : va_D A [(hq, .inr (3, [.ref qm, .ref qf, .ref ql, .int nc, .int nd, .int nf, .int na, .int nz, .int no, .int ns, .int nv, .int np, .ref qi, .int nn, .ref qo, .int nt])), (qm, .inl (cI, 104, .inl nm)), (qf, .inl (cI, 104, .inl nb)), (ql, .inl (cI, 4, .inl (upd nl (v1 : Int32).toNatClampNeg 3))), (qi, .inl (cI, 24, .inl ni)), (qo, .inl (cI, 16, .inl nu))] := hD
  refine lv_iinc (v := v1 + 1) hx hb d_Rf_init_67 hl (k := 1) rfl rfl (by decide) rfl (fun ls hl => ?_)
  have hl : lv_has ls 2 [(1, .int (v1 + 1)), (0, .ref hq)] := hl
  refine lv_goto (tgt := 55) hx hb d_Rf_init_70 rfl ?_
  have hl := lv_sub (l' := [(0, .ref hq), (1, .int (v1 + 1))]) hl [1, 0] rfl
  exact ih (nm, nb, upd nl (v1 : Int32).toNatClampNeg 3, nc, nd, nf, na, nz, no, ns, nv, np, ni, nn, nu, nt, v1 + 1) _ _ ls ⟨hP, hD, hS, hl, hf⟩
theorem d_Rf_forget_0 : decode b_Rf_forget 0 = .ok (.aload_n 0, 1) := by decide +kernel
theorem d_Rf_forget_1 : decode b_Rf_forget 1 = .ok (.iconst (-1), 1) := by decide +kernel
theorem d_Rf_forget_2 : decode b_Rf_forget 2 = .ok (.putfield 23, 3) := by decide +kernel
theorem d_Rf_forget_5 : decode b_Rf_forget 5 = .ok (.aload_n 0, 1) := by decide +kernel
theorem d_Rf_forget_6 : decode b_Rf_forget 6 = .ok (.iconst 0, 1) := by decide +kernel
theorem d_Rf_forget_7 : decode b_Rf_forget 7 = .ok (.putfield 33, 3) := by decide +kernel
theorem d_Rf_forget_10 : decode b_Rf_forget 10 = .ok (.aload_n 0, 1) := by decide +kernel
theorem d_Rf_forget_11 : decode b_Rf_forget 11 = .ok (.iconst 0, 1) := by decide +kernel
theorem d_Rf_forget_12 : decode b_Rf_forget 12 = .ok (.putfield 36, 3) := by decide +kernel
theorem d_Rf_forget_15 : decode b_Rf_forget 15 = .ok (.aload_n 0, 1) := by decide +kernel
theorem d_Rf_forget_16 : decode b_Rf_forget 16 = .ok (.iconst 0, 1) := by decide +kernel
theorem d_Rf_forget_17 : decode b_Rf_forget 17 = .ok (.putfield 39, 3) := by decide +kernel
theorem d_Rf_forget_20 : decode b_Rf_forget 20 = .ok (.aload_n 0, 1) := by decide +kernel
theorem d_Rf_forget_21 : decode b_Rf_forget 21 = .ok (.iconst 0, 1) := by decide +kernel
theorem d_Rf_forget_22 : decode b_Rf_forget 22 = .ok (.putfield 42, 3) := by decide +kernel
theorem d_Rf_forget_25 : decode b_Rf_forget 25 = .ok (.return_, 1) := by decide +kernel
def fRf_forget (σ : StR) : Option (StR) := match σ with | (nm, nb, nl, nc, nd, nf, na, nz, no, ns, nv, np, ni, nn, nu, nt) => some (nm, nb, nl, nc, nd, nf, na, nz, no, (-1), 0, 0, ni, 0, nu, 0)
set_option maxHeartbeats 4000000 in
set_option maxRecDepth 100000 in
theorem ctRf_forget (l : Launch) (dC : Nat → ClassId) (dI : Nat → Nat → Nat) (cI : ClassId) (hq qm qf ql qi qo : Nat) (nm : Nat → Int32) (nb : Nat → Int32) (nl : Nat → Int32) (nc : Int32) (nd : Int32) (nf : Int32) (na : Int32) (nz : Int32) (no : Int32) (ns : Int32) (nv : Int32) (np : Int32) (ni : Nat → Int32) (nn : Int32) (nu : Nat → Int32) (nt : Int32) (nm' : Nat → Int32) (nb' : Nat → Int32) (nl' : Nat → Int32) (nc' : Int32) (nd' : Int32) (nf' : Int32) (na' : Int32) (nz' : Int32) (no' : Int32) (ns' : Int32) (nv' : Int32) (np' : Int32) (ni' : Nat → Int32) (nn' : Int32) (nu' : Nat → Int32) (nt' : Int32) (hf : fRf_forget (nm, nb, nl, nc, nd, nf, na, nz, no, ns, nv, np, ni, nn, nu, nt) = some (nm', nb', nl', nc', nd', nf', na', nz', no', ns', nv', np', ni', nn', nu', nt')) : CtV l y_Rf_forget w_Rf_forget ({ frames := 0, cells := 0, slots := 0, locals := 0 }) (dC, dI) [(cI, .int)] [.ref hq] [(hq, .inr (3, [.ref qm, .ref qf, .ref ql, .int nc, .int nd, .int nf, .int na, .int nz, .int no, .int ns, .int nv, .int np, .ref qi, .int nn, .ref qo, .int nt])), (qm, .inl (cI, 104, .inl nm)), (qf, .inl (cI, 104, .inl nb)), (ql, .inl (cI, 4, .inl nl)), (qi, .inl (cI, 24, .inl ni)), (qo, .inl (cI, 16, .inl nu))] [(hq, .inr (3, [.ref qm, .ref qf, .ref ql, .int nc', .int nd', .int nf', .int na', .int nz', .int no', .int ns', .int nv', .int np', .ref qi, .int nn', .ref qo, .int nt'])), (qm, .inl (cI, 104, .inl nm')), (qf, .inl (cI, 104, .inl nb')), (ql, .inl (cI, 4, .inl nl')), (qi, .inl (cI, 24, .inl ni')), (qo, .inl (cI, 16, .inl nu'))] := by
  intro sz
  refine Met.ofW (cc := b_Rf_forget) (maxL := 1) (ret := none) (by decide) rfl ?_
  intro p e s m args below meth c s₁ B hml hv
  obtain ⟨rfl, hsz, hP, hK, hD0⟩ := hv
  have hx := B.exec
  have hb := B.bytes
  have hr := B.returns
  have hts := atoms_spec (ws := w_Rf_forget) B.pre
  have hown : s.vm.findClass R_Rf = some m.cls := findClass_of_methodNamed B.named
  have hlocks := B.notSynchronized
  subst hsz
  have hD := hD0.self (sz := s.heap.size)
  generalize hAe : va_A [(hq, .inr (3, [.ref qm, .ref qf, .ref ql, .int nc, .int nd, .int nf, .int na, .int nz, .int no, .int ns, .int nv, .int np, .ref qi, .int nn, .ref qo, .int nt])), (qm, .inl (cI, 104, .inl nm)), (qf, .inl (cI, 104, .inl nb)), (ql, .inl (cI, 4, .inl nl)), (qi, .inl (cI, 24, .inl ni)), (qo, .inl (cI, 16, .inl nu))] s.heap.size = A at hD ⊢
  have hA : ∀ q : Nat, s.heap.size ≤ q → A q := fun q h => by rw [← hAe]; exact Or.inr h
  have hS : va_S A s.heap s.heap [] := va_S.rf
  have hP : va_P (dC, dI) vwCl [(hq, .inr (3, [.ref qm, .ref qf, .ref ql, .int nc, .int nd, .int nf, .int na, .int nz, .int no, .int ns, .int nv, .int np, .ref qi, .int nn, .ref qo, .int nt])), (qm, .inl (cI, 104, .inl nm)), (qf, .inl (cI, 104, .inl nb)), (ql, .inl (cI, 4, .inl nl)), (qi, .inl (cI, 24, .inl ni)), (qo, .inl (cI, 16, .inl nu))] s.heap := hP
  have hl := lv_entry ([.ref hq]) (n := 1) (Nat.le_of_ble_eq_true rfl)
  rw [lg_entry_eq]
  generalize (lg_sl ([.ref hq]) ++ List.replicate (1 - (lg_sl ([.ref hq])).length) Slot.unset).toArray = ls at hl ⊢
  have hl : lv_has ls 1 [(0, .ref hq)] := hl
  have inRf : ∀ w ∈ u_ws R_Rf F_Rf 16, w ∈ w_Rf_forget := fun w h => List.mem_cons_of_mem _ (in_Rf w h)
  have kf23 := hts _ (List.mem_cons_of_mem _ wq415)
  have kf33 := hts _ (List.mem_cons_of_mem _ wq416)
  have kf36 := hts _ (List.mem_cons_of_mem _ wq417)
  have kf39 := hts _ (List.mem_cons_of_mem _ wq419)
  have kf42 := hts _ (List.mem_cons_of_mem _ wq421)
  rw [fRf_forget] at hf
  refine lv_aload_n hx hb d_Rf_forget_0 rfl (lv_at hl 0 rfl) ?_
  refine lv_iconst (v := (-1)) hx hb d_Rf_forget_1 (by decide) ?_
  refine va_put (D := (dC, dI)) (ci := 3) (v := .int (-1)) (ty := .int) (C := R_Rf) (T := F_Rf) (N := 16) hx hb hts inRf t_Rf t_Rf_ok n_Rf hown hK hP hD hS 0 rfl rfl 9 (by decide) kf23 (fun _ h9 => h9) rfl (by decide +kernel) rfl rfl (Nat.le_of_ble_eq_true rfl) d_Rf_forget_2 (fun H locs hP hD hS => ?_)
  have hP : va_P (dC, dI) vwCl [(hq, .inr (3, [.ref qm, .ref qf, .ref ql, .int nc, .int nd, .int nf, .int na, .int nz, .int no, .int (-1), .int nv, .int np, .ref qi, .int nn, .ref qo, .int nt])), (qm, .inl (cI, 104, .inl nm)), (qf, .inl (cI, 104, .inl nb)), (ql, .inl (cI, 4, .inl nl)), (qi, .inl (cI, 24, .inl ni)), (qo, .inl (cI, 16, .inl nu))] H := hP
  have hD : va_D A [(hq, .inr (3, [.ref qm, .ref qf, .ref ql, .int nc, .int nd, .int nf, .int na, .int nz, .int no, .int (-1), .int nv, .int np, .ref qi, .int nn, .ref qo, .int nt])), (qm, .inl (cI, 104, .inl nm)), (qf, .inl (cI, 104, .inl nb)), (ql, .inl (cI, 4, .inl nl)), (qi, .inl (cI, 24, .inl ni)), (qo, .inl (cI, 16, .inl nu))] := hD
  refine lv_aload_n hx hb d_Rf_forget_5 rfl (lv_at hl 0 rfl) ?_
  refine lv_iconst (v := 0) hx hb d_Rf_forget_6 (by decide) ?_
  refine va_put (D := (dC, dI)) (ci := 3) (v := .int 0) (ty := .boolean) (C := R_Rf) (T := F_Rf) (N := 16) hx hb hts inRf t_Rf t_Rf_ok n_Rf hown hK hP hD hS 0 rfl rfl 10 (by decide) kf33 (fun _ h9 => h9) rfl (by decide +kernel) rfl rfl (Nat.le_of_ble_eq_true rfl) d_Rf_forget_7 (fun H locs hP hD hS => ?_)
  have hP : va_P (dC, dI) vwCl [(hq, .inr (3, [.ref qm, .ref qf, .ref ql, .int nc, .int nd, .int nf, .int na, .int nz, .int no, .int (-1), .int 0, .int np, .ref qi, .int nn, .ref qo, .int nt])), (qm, .inl (cI, 104, .inl nm)), (qf, .inl (cI, 104, .inl nb)), (ql, .inl (cI, 4, .inl nl)), (qi, .inl (cI, 24, .inl ni)), (qo, .inl (cI, 16, .inl nu))] H := hP
  have hD : va_D A [(hq, .inr (3, [.ref qm, .ref qf, .ref ql, .int nc, .int nd, .int nf, .int na, .int nz, .int no, .int (-1), .int 0, .int np, .ref qi, .int nn, .ref qo, .int nt])), (qm, .inl (cI, 104, .inl nm)), (qf, .inl (cI, 104, .inl nb)), (ql, .inl (cI, 4, .inl nl)), (qi, .inl (cI, 24, .inl ni)), (qo, .inl (cI, 16, .inl nu))] := hD
  refine lv_aload_n hx hb d_Rf_forget_10 rfl (lv_at hl 0 rfl) ?_
  refine lv_iconst (v := 0) hx hb d_Rf_forget_11 (by decide) ?_
  refine va_put (D := (dC, dI)) (ci := 3) (v := .int 0) (ty := .boolean) (C := R_Rf) (T := F_Rf) (N := 16) hx hb hts inRf t_Rf t_Rf_ok n_Rf hown hK hP hD hS 0 rfl rfl 11 (by decide) kf36 (fun _ h9 => h9) rfl (by decide +kernel) rfl rfl (Nat.le_of_ble_eq_true rfl) d_Rf_forget_12 (fun H locs hP hD hS => ?_)
  have hP : va_P (dC, dI) vwCl [(hq, .inr (3, [.ref qm, .ref qf, .ref ql, .int nc, .int nd, .int nf, .int na, .int nz, .int no, .int (-1), .int 0, .int 0, .ref qi, .int nn, .ref qo, .int nt])), (qm, .inl (cI, 104, .inl nm)), (qf, .inl (cI, 104, .inl nb)), (ql, .inl (cI, 4, .inl nl)), (qi, .inl (cI, 24, .inl ni)), (qo, .inl (cI, 16, .inl nu))] H := hP
  have hD : va_D A [(hq, .inr (3, [.ref qm, .ref qf, .ref ql, .int nc, .int nd, .int nf, .int na, .int nz, .int no, .int (-1), .int 0, .int 0, .ref qi, .int nn, .ref qo, .int nt])), (qm, .inl (cI, 104, .inl nm)), (qf, .inl (cI, 104, .inl nb)), (ql, .inl (cI, 4, .inl nl)), (qi, .inl (cI, 24, .inl ni)), (qo, .inl (cI, 16, .inl nu))] := hD
  refine lv_aload_n hx hb d_Rf_forget_15 rfl (lv_at hl 0 rfl) ?_
  refine lv_iconst (v := 0) hx hb d_Rf_forget_16 (by decide) ?_
  refine va_put (D := (dC, dI)) (ci := 3) (v := .int 0) (ty := .int) (C := R_Rf) (T := F_Rf) (N := 16) hx hb hts inRf t_Rf t_Rf_ok n_Rf hown hK hP hD hS 0 rfl rfl 13 (by decide) kf39 (fun _ h9 => h9) rfl (by decide +kernel) rfl rfl (Nat.le_of_ble_eq_true rfl) d_Rf_forget_17 (fun H locs hP hD hS => ?_)
  have hP : va_P (dC, dI) vwCl [(hq, .inr (3, [.ref qm, .ref qf, .ref ql, .int nc, .int nd, .int nf, .int na, .int nz, .int no, .int (-1), .int 0, .int 0, .ref qi, .int 0, .ref qo, .int nt])), (qm, .inl (cI, 104, .inl nm)), (qf, .inl (cI, 104, .inl nb)), (ql, .inl (cI, 4, .inl nl)), (qi, .inl (cI, 24, .inl ni)), (qo, .inl (cI, 16, .inl nu))] H := hP
  have hD : va_D A [(hq, .inr (3, [.ref qm, .ref qf, .ref ql, .int nc, .int nd, .int nf, .int na, .int nz, .int no, .int (-1), .int 0, .int 0, .ref qi, .int 0, .ref qo, .int nt])), (qm, .inl (cI, 104, .inl nm)), (qf, .inl (cI, 104, .inl nb)), (ql, .inl (cI, 4, .inl nl)), (qi, .inl (cI, 24, .inl ni)), (qo, .inl (cI, 16, .inl nu))] := hD
  refine lv_aload_n hx hb d_Rf_forget_20 rfl (lv_at hl 0 rfl) ?_
  refine lv_iconst (v := 0) hx hb d_Rf_forget_21 (by decide) ?_
  refine va_put (D := (dC, dI)) (ci := 3) (v := .int 0) (ty := .int) (C := R_Rf) (T := F_Rf) (N := 16) hx hb hts inRf t_Rf t_Rf_ok n_Rf hown hK hP hD hS 0 rfl rfl 15 (by decide) kf42 (fun _ h9 => h9) rfl (by decide +kernel) rfl rfl (Nat.le_of_ble_eq_true rfl) d_Rf_forget_22 (fun H locs hP hD hS => ?_)
  have hP : va_P (dC, dI) vwCl [(hq, .inr (3, [.ref qm, .ref qf, .ref ql, .int nc, .int nd, .int nf, .int na, .int nz, .int no, .int (-1), .int 0, .int 0, .ref qi, .int 0, .ref qo, .int 0])), (qm, .inl (cI, 104, .inl nm)), (qf, .inl (cI, 104, .inl nb)), (ql, .inl (cI, 4, .inl nl)), (qi, .inl (cI, 24, .inl ni)), (qo, .inl (cI, 16, .inl nu))] H := hP
  have hD : va_D A [(hq, .inr (3, [.ref qm, .ref qf, .ref ql, .int nc, .int nd, .int nf, .int na, .int nz, .int no, .int (-1), .int 0, .int 0, .ref qi, .int 0, .ref qo, .int 0])), (qm, .inl (cI, 104, .inl nm)), (qf, .inl (cI, 104, .inl nb)), (ql, .inl (cI, 4, .inl nl)), (qi, .inl (cI, 24, .inl ni)), (qo, .inl (cI, 16, .inl nu))] := hD
  obtain ⟨e1_, e2_, e3_, e4_, e5_, e6_, e7_, e8_, e9_, e10_, e11_, e12_, e13_, e14_, e15_, e16_⟩ := lf16 hf
  subst e1_; subst e2_; subst e3_; subst e4_; subst e5_; subst e6_; subst e7_; subst e8_; subst e9_; subst e10_; subst e11_; subst e12_; subst e13_; subst e14_; subst e15_; subst e16_
  have hP9 := hP.sub (ws' := [(hq, .inr (3, [.ref qm, .ref qf, .ref ql, .int nc, .int nd, .int nf, .int na, .int nz, .int no, .int (-1), .int 0, .int 0, .ref qi, .int 0, .ref qo, .int 0])), (qm, .inl (cI, 104, .inl nm)), (qf, .inl (cI, 104, .inl nb)), (ql, .inl (cI, 4, .inl nl)), (qi, .inl (cI, 24, .inl ni)), (qo, .inl (cI, 16, .inl nu))]) [0, 1, 2, 3, 4, 5] rfl
  have hD9 := hD.sub (ws' := [(hq, .inr (3, [.ref qm, .ref qf, .ref ql, .int nc, .int nd, .int nf, .int na, .int nz, .int no, .int (-1), .int 0, .int 0, .ref qi, .int 0, .ref qo, .int 0])), (qm, .inl (cI, 104, .inl nm)), (qf, .inl (cI, 104, .inl nb)), (ql, .inl (cI, 4, .inl nl)), (qi, .inl (cI, 24, .inl ni)), (qo, .inl (cI, 16, .inl nu))]) [0, 1, 2, 3, 4, 5] (by decide) rfl
  exact W.vret hx hb hr (fun t ht hW => ⟨⟨(), rfl, trivial, by rw [ht]; exact hP9, va_K.moved hW.alike hK, hD9⟩, hS.F ht⟩) hS.2.2 d_Rf_forget_25
theorem d_Rf_write_0 : decode b_Rf_write 0 = .ok (.aload_n 0, 1) := by decide +kernel
theorem d_Rf_write_1 : decode b_Rf_write 1 = .ok (.getfield 45, 3) := by decide +kernel
theorem d_Rf_write_4 : decode b_Rf_write 4 = .ok (.ifCond .eq 36, 3) := by decide +kernel
theorem d_Rf_write_7 : decode b_Rf_write 7 = .ok (.aload_n 0, 1) := by decide +kernel
theorem d_Rf_write_8 : decode b_Rf_write 8 = .ok (.getfield 48, 3) := by decide +kernel
theorem d_Rf_write_11 : decode b_Rf_write 11 = .ok (.ifCond .ne 29, 3) := by decide +kernel
theorem d_Rf_write_14 : decode b_Rf_write 14 = .ok (.aload_n 0, 1) := by decide +kernel
theorem d_Rf_write_15 : decode b_Rf_write 15 = .ok (.iconst 0, 1) := by decide +kernel
theorem d_Rf_write_16 : decode b_Rf_write 16 = .ok (.putfield 45, 3) := by decide +kernel
theorem d_Rf_write_19 : decode b_Rf_write 19 = .ok (.aload_n 0, 1) := by decide +kernel
theorem d_Rf_write_20 : decode b_Rf_write 20 = .ok (.dup, 1) := by decide +kernel
theorem d_Rf_write_21 : decode b_Rf_write 21 = .ok (.getfield 51, 3) := by decide +kernel
theorem d_Rf_write_24 : decode b_Rf_write 24 = .ok (.iconst 1, 1) := by decide +kernel
theorem d_Rf_write_25 : decode b_Rf_write 25 = .ok (.iadd, 1) := by decide +kernel
theorem d_Rf_write_26 : decode b_Rf_write 26 = .ok (.putfield 51, 3) := by decide +kernel
theorem d_Rf_write_29 : decode b_Rf_write 29 = .ok (.aload_n 0, 1) := by decide +kernel
theorem d_Rf_write_30 : decode b_Rf_write 30 = .ok (.iconst 0, 1) := by decide +kernel
theorem d_Rf_write_31 : decode b_Rf_write 31 = .ok (.putfield 19, 3) := by decide +kernel
theorem d_Rf_write_34 : decode b_Rf_write 34 = .ok (.aload_n 0, 1) := by decide +kernel
theorem d_Rf_write_35 : decode b_Rf_write 35 = .ok (.invokevirtual 54, 3) := by decide +kernel
theorem d_Rf_write_38 : decode b_Rf_write 38 = .ok (.iconst 0, 1) := by decide +kernel
theorem d_Rf_write_39 : decode b_Rf_write 39 = .ok (.ireturn, 1) := by decide +kernel
theorem d_Rf_write_40 : decode b_Rf_write 40 = .ok (.aload_n 0, 1) := by decide +kernel
theorem d_Rf_write_41 : decode b_Rf_write 41 = .ok (.aload_n 0, 1) := by decide +kernel
theorem d_Rf_write_42 : decode b_Rf_write 42 = .ok (.getfield 45, 3) := by decide +kernel
theorem d_Rf_write_45 : decode b_Rf_write 45 = .ok (.ifCond .eq 12, 3) := by decide +kernel
theorem d_Rf_write_48 : decode b_Rf_write 48 = .ok (.aload_n 0, 1) := by decide +kernel
theorem d_Rf_write_49 : decode b_Rf_write 49 = .ok (.getfield 48, 3) := by decide +kernel
theorem d_Rf_write_52 : decode b_Rf_write 52 = .ok (.iconst 1, 1) := by decide +kernel
theorem d_Rf_write_53 : decode b_Rf_write 53 = .ok (.isub, 1) := by decide +kernel
theorem d_Rf_write_54 : decode b_Rf_write 54 = .ok (.goto 7, 3) := by decide +kernel
theorem d_Rf_write_57 : decode b_Rf_write 57 = .ok (.aload_n 0, 1) := by decide +kernel
theorem d_Rf_write_58 : decode b_Rf_write 58 = .ok (.getfield 48, 3) := by decide +kernel
theorem d_Rf_write_61 : decode b_Rf_write 61 = .ok (.putfield 48, 3) := by decide +kernel
theorem d_Rf_write_64 : decode b_Rf_write 64 = .ok (.aload_n 0, 1) := by decide +kernel
theorem d_Rf_write_65 : decode b_Rf_write 65 = .ok (.dup, 1) := by decide +kernel
theorem d_Rf_write_66 : decode b_Rf_write 66 = .ok (.getfield 57, 3) := by decide +kernel
theorem d_Rf_write_69 : decode b_Rf_write 69 = .ok (.iconst 1, 1) := by decide +kernel
theorem d_Rf_write_70 : decode b_Rf_write 70 = .ok (.iadd, 1) := by decide +kernel
theorem d_Rf_write_71 : decode b_Rf_write 71 = .ok (.putfield 57, 3) := by decide +kernel
theorem d_Rf_write_74 : decode b_Rf_write 74 = .ok (.iconst 1, 1) := by decide +kernel
theorem d_Rf_write_75 : decode b_Rf_write 75 = .ok (.ireturn, 1) := by decide +kernel
def fRf_write (σ : StR) : Option (Int32 × StR) := match σ with | (nm, nb, nl, nc, nd, nf, na, nz, no, ns, nv, np, ni, nn, nu, nt) => if na = 0 then (if na = 0 then (some (1, nm, nb, nl, nc, nd + 1, nf, na, nz, no, ns, nv, np, ni, nn, nu, nt)) else (some (1, nm, nb, nl, nc, nd + 1, nf, na, nz - 1, no, ns, nv, np, ni, nn, nu, nt))) else (if nz = 0 then (bd16 (fRf_forget (nm, nb, nl, nc, nd, nf + 1, 0, nz, 0, ns, nv, np, ni, nn, nu, nt)) fun nm5 nb5 nl5 nc5 nd5 nf5 na5 nz5 no5 ns5 nv5 np5 ni5 nn5 nu5 nt5 => some (0, nm5, nb5, nl5, nc5, nd5, nf5, na5, nz5, no5, ns5, nv5, np5, ni5, nn5, nu5, nt5)) else (if na = 0 then (some (1, nm, nb, nl, nc, nd + 1, nf, na, nz, no, ns, nv, np, ni, nn, nu, nt)) else (some (1, nm, nb, nl, nc, nd + 1, nf, na, nz - 1, no, ns, nv, np, ni, nn, nu, nt))))
set_option maxHeartbeats 4000000 in
set_option maxRecDepth 100000 in
theorem ctRf_write (l : Launch) (dC : Nat → ClassId) (dI : Nat → Nat → Nat) (cI : ClassId) (hq qm qf ql qi qo : Nat) (nm : Nat → Int32) (nb : Nat → Int32) (nl : Nat → Int32) (nc : Int32) (nd : Int32) (nf : Int32) (na : Int32) (nz : Int32) (no : Int32) (ns : Int32) (nv : Int32) (np : Int32) (ni : Nat → Int32) (nn : Int32) (nu : Nat → Int32) (nt : Int32) (r : Int32) (nm' : Nat → Int32) (nb' : Nat → Int32) (nl' : Nat → Int32) (nc' : Int32) (nd' : Int32) (nf' : Int32) (na' : Int32) (nz' : Int32) (no' : Int32) (ns' : Int32) (nv' : Int32) (np' : Int32) (ni' : Nat → Int32) (nn' : Int32) (nu' : Nat → Int32) (nt' : Int32) (hf : fRf_write (nm, nb, nl, nc, nd, nf, na, nz, no, ns, nv, np, ni, nn, nu, nt) = some (r, nm', nb', nl', nc', nd', nf', na', nz', no', ns', nv', np', ni', nn', nu', nt')) : CtZ l y_Rf_write w_Rf_write ({ frames := 1, cells := 0, slots := 0, locals := 20 }) (dC, dI) [(cI, .int)] [.ref hq] [(hq, .inr (3, [.ref qm, .ref qf, .ref ql, .int nc, .int nd, .int nf, .int na, .int nz, .int no, .int ns, .int nv, .int np, .ref qi, .int nn, .ref qo, .int nt])), (qm, .inl (cI, 104, .inl nm)), (qf, .inl (cI, 104, .inl nb)), (ql, .inl (cI, 4, .inl nl)), (qi, .inl (cI, 24, .inl ni)), (qo, .inl (cI, 16, .inl nu))] [(hq, .inr (3, [.ref qm, .ref qf, .ref ql, .int nc', .int nd', .int nf', .int na', .int nz', .int no', .int ns', .int nv', .int np', .ref qi, .int nn', .ref qo, .int nt'])), (qm, .inl (cI, 104, .inl nm')), (qf, .inl (cI, 104, .inl nb')), (ql, .inl (cI, 4, .inl nl')), (qi, .inl (cI, 24, .inl ni')), (qo, .inl (cI, 16, .inl nu'))] r := by
  intro sz
  refine Met.ofW (cc := b_Rf_write) (maxL := 1) (ret := some .boolean) (by decide) rfl ?_
  intro p e s m args below meth c s₁ B hml hv
  obtain ⟨rfl, hsz, hP, hK, hD0⟩ := hv
  have hx := B.exec
  have hb := B.bytes
  have hr := B.returns
  have hts := atoms_spec (ws := w_Rf_write) B.pre
  have hown : s.vm.findClass R_Rf = some m.cls := findClass_of_methodNamed B.named
  have hlocks := B.notSynchronized
  subst hsz
  have hD := hD0.self (sz := s.heap.size)
  generalize hAe : va_A [(hq, .inr (3, [.ref qm, .ref qf, .ref ql, .int nc, .int nd, .int nf, .int na, .int nz, .int no, .int ns, .int nv, .int np, .ref qi, .int nn, .ref qo, .int nt])), (qm, .inl (cI, 104, .inl nm)), (qf, .inl (cI, 104, .inl nb)), (ql, .inl (cI, 4, .inl nl)), (qi, .inl (cI, 24, .inl ni)), (qo, .inl (cI, 16, .inl nu))] s.heap.size = A at hD ⊢
  have hA : ∀ q : Nat, s.heap.size ≤ q → A q := fun q h => by rw [← hAe]; exact Or.inr h
  have hS : va_S A s.heap s.heap [] := va_S.rf
  have hP : va_P (dC, dI) vwCl [(hq, .inr (3, [.ref qm, .ref qf, .ref ql, .int nc, .int nd, .int nf, .int na, .int nz, .int no, .int ns, .int nv, .int np, .ref qi, .int nn, .ref qo, .int nt])), (qm, .inl (cI, 104, .inl nm)), (qf, .inl (cI, 104, .inl nb)), (ql, .inl (cI, 4, .inl nl)), (qi, .inl (cI, 24, .inl ni)), (qo, .inl (cI, 16, .inl nu))] s.heap := hP
  have hl := lv_entry ([.ref hq]) (n := 1) (Nat.le_of_ble_eq_true rfl)
  rw [lg_entry_eq]
  generalize (lg_sl ([.ref hq]) ++ List.replicate (1 - (lg_sl ([.ref hq])).length) Slot.unset).toArray = ls at hl ⊢
  have hl : lv_has ls 1 [(0, .ref hq)] := hl
  have inRf : ∀ w ∈ u_ws R_Rf F_Rf 16, w ∈ w_Rf_write := fun w h => List.mem_cons_of_mem _ (in_Rf w h)
  have kf19 := hts _ (List.mem_cons_of_mem _ wq414)
  have kf45 := hts _ (List.mem_cons_of_mem _ wq412)
  have kf48 := hts _ (List.mem_cons_of_mem _ wq413)
  have kf51 := hts _ (List.mem_cons_of_mem _ wq411)
  have kf57 := hts _ (List.mem_cons_of_mem _ wq410)
  rw [fRf_write] at hf
  refine lv_aload_n hx hb d_Rf_write_0 rfl (lv_at hl 0 rfl) ?_
  refine va_get (D := (dC, dI)) (ci := 3) (v := .int na) (C := R_Rf) (T := F_Rf) (N := 16) hx hb hts inRf hown hK hP 0 rfl rfl 6 (by decide) kf45 (fun _ h9 => h9) rfl d_Rf_write_1 ?_
  refine lv_if_eq (tgt := 40) hx hb d_Rf_write_4 rfl (fun hc1 => ?_) (fun hc1 => ?_)
  · have hf := ift hf hc1
    refine lv_aload_n hx hb d_Rf_write_40 rfl (lv_at hl 0 rfl) ?_
    refine lv_aload_n hx hb d_Rf_write_41 rfl (lv_at hl 0 rfl) ?_
    refine va_get (D := (dC, dI)) (ci := 3) (v := .int na) (C := R_Rf) (T := F_Rf) (N := 16) hx hb hts inRf hown hK hP 0 rfl rfl 6 (by decide) kf45 (fun _ h9 => h9) rfl d_Rf_write_42 ?_
    refine lv_if_eq (tgt := 57) hx hb d_Rf_write_45 rfl (fun hc2 => ?_) (fun hc2 => ?_)
    · have hf := ift hf hc2
      refine lv_aload_n hx hb d_Rf_write_57 rfl (lv_at hl 0 rfl) ?_
      refine va_get (D := (dC, dI)) (ci := 3) (v := .int nz) (C := R_Rf) (T := F_Rf) (N := 16) hx hb hts inRf hown hK hP 0 rfl rfl 7 (by decide) kf48 (fun _ h9 => h9) rfl d_Rf_write_58 ?_
      refine va_put (D := (dC, dI)) (ci := 3) (v := .int nz) (ty := .int) (C := R_Rf) (T := F_Rf) (N := 16) hx hb hts inRf t_Rf t_Rf_ok n_Rf hown hK hP hD hS 0 rfl rfl 7 (by decide) kf48 (fun _ h9 => h9) rfl (by decide +kernel) rfl rfl (Nat.le_of_ble_eq_true rfl) d_Rf_write_61 (fun H locs hP hD hS => ?_)
      have hP : va_P (dC, dI) vwCl [(hq, .inr (3, [.ref qm, .ref qf, .ref ql, .int nc, .int nd, .int nf, .int na, .int nz, .int no, .int ns, .int nv, .int np, .ref qi, .int nn, .ref qo, .int nt])), (qm, .inl (cI, 104, .inl nm)), (qf, .inl (cI, 104, .inl nb)), (ql, .inl (cI, 4, .inl nl)), (qi, .inl (cI, 24, .inl ni)), (qo, .inl (cI, 16, .inl nu))] H := hP
      have hD : va_D A [(hq, .inr (3, [.ref qm, .ref qf, .ref ql, .int nc, .int nd, .int nf, .int na, .int nz, .int no, .int ns, .int nv, .int np, .ref qi, .int nn, .ref qo, .int nt])), (qm, .inl (cI, 104, .inl nm)), (qf, .inl (cI, 104, .inl nb)), (ql, .inl (cI, 4, .inl nl)), (qi, .inl (cI, 24, .inl ni)), (qo, .inl (cI, 16, .inl nu))] := hD
      refine lv_aload_n hx hb d_Rf_write_64 rfl (lv_at hl 0 rfl) ?_
      refine lv_dup hx hb d_Rf_write_65 rfl ?_
      refine va_get (D := (dC, dI)) (ci := 3) (v := .int nd) (C := R_Rf) (T := F_Rf) (N := 16) hx hb hts inRf hown hK hP 0 rfl rfl 4 (by decide) kf57 (fun _ h9 => h9) rfl d_Rf_write_66 ?_
      refine lv_iconst (v := 1) hx hb d_Rf_write_69 (by decide) ?_
      refine lv_iadd hx hb d_Rf_write_70 ?_
      refine va_put (D := (dC, dI)) (ci := 3) (v := .int (nd + 1)) (ty := .int) (C := R_Rf) (T := F_Rf) (N := 16) hx hb hts inRf t_Rf t_Rf_ok n_Rf hown hK hP hD hS 0 rfl rfl 4 (by decide) kf57 (fun _ h9 => h9) rfl (by decide +kernel) rfl rfl (Nat.le_of_ble_eq_true rfl) d_Rf_write_71 (fun H locs hP hD hS => ?_)
      have hP : va_P (dC, dI) vwCl [(hq, .inr (3, [.ref qm, .ref qf, .ref ql, .int nc, .int (nd + 1), .int nf, .int na, .int nz, .int no, .int ns, .int nv, .int np, .ref qi, .int nn, .ref qo, .int nt])), (qm, .inl (cI, 104, .inl nm)), (qf, .inl (cI, 104, .inl nb)), (ql, .inl (cI, 4, .inl nl)), (qi, .inl (cI, 24, .inl ni)), (qo, .inl (cI, 16, .inl nu))] H := hP
      have hD : va_D A [(hq, .inr (3, [.ref qm, .ref qf, .ref ql, .int nc, .int (nd + 1), .int nf, .int na, .int nz, .int no, .int ns, .int nv, .int np, .ref qi, .int nn, .ref qo, .int nt])), (qm, .inl (cI, 104, .inl nm)), (qf, .inl (cI, 104, .inl nb)), (ql, .inl (cI, 4, .inl nl)), (qi, .inl (cI, 24, .inl ni)), (qo, .inl (cI, 16, .inl nu))] := hD
      refine lv_iconst (v := 1) hx hb d_Rf_write_74 (by decide) ?_
      obtain ⟨e1_, e2_, e3_, e4_, e5_, e6_, e7_, e8_, e9_, e10_, e11_, e12_, e13_, e14_, e15_, e16_, e17_⟩ := lf17 hf
      subst e1_; subst e2_; subst e3_; subst e4_; subst e5_; subst e6_; subst e7_; subst e8_; subst e9_; subst e10_; subst e11_; subst e12_; subst e13_; subst e14_; subst e15_; subst e16_; subst e17_
      have hP9 := hP.sub (ws' := [(hq, .inr (3, [.ref qm, .ref qf, .ref ql, .int nc, .int (nd + 1), .int nf, .int na, .int nz, .int no, .int ns, .int nv, .int np, .ref qi, .int nn, .ref qo, .int nt])), (qm, .inl (cI, 104, .inl nm)), (qf, .inl (cI, 104, .inl nb)), (ql, .inl (cI, 4, .inl nl)), (qi, .inl (cI, 24, .inl ni)), (qo, .inl (cI, 16, .inl nu))]) [0, 1, 2, 3, 4, 5] rfl
      have hD9 := hD.sub (ws' := [(hq, .inr (3, [.ref qm, .ref qf, .ref ql, .int nc, .int (nd + 1), .int nf, .int na, .int nz, .int no, .int ns, .int nv, .int np, .ref qi, .int nn, .ref qo, .int nt])), (qm, .inl (cI, 104, .inl nm)), (qf, .inl (cI, 104, .inl nb)), (ql, .inl (cI, 4, .inl nl)), (qi, .inl (cI, 24, .inl ni)), (qo, .inl (cI, 16, .inl nu))]) [0, 1, 2, 3, 4, 5] (by decide) rfl
      exact W.zret (v := 1) (ty := .boolean) hx hb hr rfl (fun t ht hW => ⟨⟨1, (), rfl, ⟨rfl, rfl⟩, by rw [ht]; exact hP9, va_K.moved hW.alike hK, hD9⟩, hS.F ht⟩) hS.2.2 d_Rf_write_75
    have hf := ifn hf hc2
    refine lv_aload_n hx hb d_Rf_write_48 rfl (lv_at hl 0 rfl) ?_
    refine va_get (D := (dC, dI)) (ci := 3) (v := .int nz) (C := R_Rf) (T := F_Rf) (N := 16) hx hb hts inRf hown hK hP 0 rfl rfl 7 (by decide) kf48 (fun _ h9 => h9) rfl d_Rf_write_49 ?_
    refine lv_iconst (v := 1) hx hb d_Rf_write_52 (by decide) ?_
    refine lv_isub hx hb d_Rf_write_53 ?_
    refine lv_goto (tgt := 61) hx hb d_Rf_write_54 rfl ?_
    refine va_put (D := (dC, dI)) (ci := 3) (v := .int (nz - 1)) (ty := .int) (C := R_Rf) (T := F_Rf) (N := 16) hx hb hts inRf t_Rf t_Rf_ok n_Rf hown hK hP hD hS 0 rfl rfl 7 (by decide) kf48 (fun _ h9 => h9) rfl (by decide +kernel) rfl rfl (Nat.le_of_ble_eq_true rfl) d_Rf_write_61 (fun H locs hP hD hS => ?_)
    have hP : va_P (dC, dI) vwCl [(hq, .inr (3, [.ref qm, .ref qf, .ref ql, .int nc, .int nd, .int nf, .int na, .int (nz - 1), .int no, .int ns, .int nv, .int np, .ref qi, .int nn, .ref qo, .int nt])), (qm, .inl (cI, 104, .inl nm)), (qf, .inl (cI, 104, .inl nb)), (ql, .inl (cI, 4, .inl nl)), (qi, .inl (cI, 24, .inl ni)), (qo, .inl (cI, 16, .inl nu))] H := hP
    have hD : va_D A [(hq, .inr (3, [.ref qm, .ref qf, .ref ql, .int nc, .int nd, .int nf, .int na, .int (nz - 1), .int no, .int ns, .int nv, .int np, .ref qi, .int nn, .ref qo, .int nt])), (qm, .inl (cI, 104, .inl nm)), (qf, .inl (cI, 104, .inl nb)), (ql, .inl (cI, 4, .inl nl)), (qi, .inl (cI, 24, .inl ni)), (qo, .inl (cI, 16, .inl nu))] := hD
    refine lv_aload_n hx hb d_Rf_write_64 rfl (lv_at hl 0 rfl) ?_
    refine lv_dup hx hb d_Rf_write_65 rfl ?_
    refine va_get (D := (dC, dI)) (ci := 3) (v := .int nd) (C := R_Rf) (T := F_Rf) (N := 16) hx hb hts inRf hown hK hP 0 rfl rfl 4 (by decide) kf57 (fun _ h9 => h9) rfl d_Rf_write_66 ?_
    refine lv_iconst (v := 1) hx hb d_Rf_write_69 (by decide) ?_
    refine lv_iadd hx hb d_Rf_write_70 ?_
    refine va_put (D := (dC, dI)) (ci := 3) (v := .int (nd + 1)) (ty := .int) (C := R_Rf) (T := F_Rf) (N := 16) hx hb hts inRf t_Rf t_Rf_ok n_Rf hown hK hP hD hS 0 rfl rfl 4 (by decide) kf57 (fun _ h9 => h9) rfl (by decide +kernel) rfl rfl (Nat.le_of_ble_eq_true rfl) d_Rf_write_71 (fun H locs hP hD hS => ?_)
    have hP : va_P (dC, dI) vwCl [(hq, .inr (3, [.ref qm, .ref qf, .ref ql, .int nc, .int (nd + 1), .int nf, .int na, .int (nz - 1), .int no, .int ns, .int nv, .int np, .ref qi, .int nn, .ref qo, .int nt])), (qm, .inl (cI, 104, .inl nm)), (qf, .inl (cI, 104, .inl nb)), (ql, .inl (cI, 4, .inl nl)), (qi, .inl (cI, 24, .inl ni)), (qo, .inl (cI, 16, .inl nu))] H := hP
    have hD : va_D A [(hq, .inr (3, [.ref qm, .ref qf, .ref ql, .int nc, .int (nd + 1), .int nf, .int na, .int (nz - 1), .int no, .int ns, .int nv, .int np, .ref qi, .int nn, .ref qo, .int nt])), (qm, .inl (cI, 104, .inl nm)), (qf, .inl (cI, 104, .inl nb)), (ql, .inl (cI, 4, .inl nl)), (qi, .inl (cI, 24, .inl ni)), (qo, .inl (cI, 16, .inl nu))] := hD
    refine lv_iconst (v := 1) hx hb d_Rf_write_74 (by decide) ?_
    obtain ⟨e1_, e2_, e3_, e4_, e5_, e6_, e7_, e8_, e9_, e10_, e11_, e12_, e13_, e14_, e15_, e16_, e17_⟩ := lf17 hf
    subst e1_; subst e2_; subst e3_; subst e4_; subst e5_; subst e6_; subst e7_; subst e8_; subst e9_; subst e10_; subst e11_; subst e12_; subst e13_; subst e14_; subst e15_; subst e16_; subst e17_
    have hP9 := hP.sub (ws' := [(hq, .inr (3, [.ref qm, .ref qf, .ref ql, .int nc, .int (nd + 1), .int nf, .int na, .int (nz - 1), .int no, .int ns, .int nv, .int np, .ref qi, .int nn, .ref qo, .int nt])), (qm, .inl (cI, 104, .inl nm)), (qf, .inl (cI, 104, .inl nb)), (ql, .inl (cI, 4, .inl nl)), (qi, .inl (cI, 24, .inl ni)), (qo, .inl (cI, 16, .inl nu))]) [0, 1, 2, 3, 4, 5] rfl
    have hD9 := hD.sub (ws' := [(hq, .inr (3, [.ref qm, .ref qf, .ref ql, .int nc, .int (nd + 1), .int nf, .int na, .int (nz - 1), .int no, .int ns, .int nv, .int np, .ref qi, .int nn, .ref qo, .int nt])), (qm, .inl (cI, 104, .inl nm)), (qf, .inl (cI, 104, .inl nb)), (ql, .inl (cI, 4, .inl nl)), (qi, .inl (cI, 24, .inl ni)), (qo, .inl (cI, 16, .inl nu))]) [0, 1, 2, 3, 4, 5] (by decide) rfl
    exact W.zret (v := 1) (ty := .boolean) hx hb hr rfl (fun t ht hW => ⟨⟨1, (), rfl, ⟨rfl, rfl⟩, by rw [ht]; exact hP9, va_K.moved hW.alike hK, hD9⟩, hS.F ht⟩) hS.2.2 d_Rf_write_75
  have hf := ifn hf hc1
  refine lv_aload_n hx hb d_Rf_write_7 rfl (lv_at hl 0 rfl) ?_
  refine va_get (D := (dC, dI)) (ci := 3) (v := .int nz) (C := R_Rf) (T := F_Rf) (N := 16) hx hb hts inRf hown hK hP 0 rfl rfl 7 (by decide) kf48 (fun _ h9 => h9) rfl d_Rf_write_8 ?_
  refine lv_if_ne (tgt := 40) hx hb d_Rf_write_11 rfl (fun hc3 => ?_) (fun hc3 => ?_)
  · have hf := ifn hf hc3
    refine lv_aload_n hx hb d_Rf_write_40 rfl (lv_at hl 0 rfl) ?_
    refine lv_aload_n hx hb d_Rf_write_41 rfl (lv_at hl 0 rfl) ?_
    refine va_get (D := (dC, dI)) (ci := 3) (v := .int na) (C := R_Rf) (T := F_Rf) (N := 16) hx hb hts inRf hown hK hP 0 rfl rfl 6 (by decide) kf45 (fun _ h9 => h9) rfl d_Rf_write_42 ?_
    refine lv_if_eq (tgt := 57) hx hb d_Rf_write_45 rfl (fun hc4 => ?_) (fun hc4 => ?_)
    · have hf := ift hf hc4
      refine lv_aload_n hx hb d_Rf_write_57 rfl (lv_at hl 0 rfl) ?_
      refine va_get (D := (dC, dI)) (ci := 3) (v := .int nz) (C := R_Rf) (T := F_Rf) (N := 16) hx hb hts inRf hown hK hP 0 rfl rfl 7 (by decide) kf48 (fun _ h9 => h9) rfl d_Rf_write_58 ?_
      refine va_put (D := (dC, dI)) (ci := 3) (v := .int nz) (ty := .int) (C := R_Rf) (T := F_Rf) (N := 16) hx hb hts inRf t_Rf t_Rf_ok n_Rf hown hK hP hD hS 0 rfl rfl 7 (by decide) kf48 (fun _ h9 => h9) rfl (by decide +kernel) rfl rfl (Nat.le_of_ble_eq_true rfl) d_Rf_write_61 (fun H locs hP hD hS => ?_)
      have hP : va_P (dC, dI) vwCl [(hq, .inr (3, [.ref qm, .ref qf, .ref ql, .int nc, .int nd, .int nf, .int na, .int nz, .int no, .int ns, .int nv, .int np, .ref qi, .int nn, .ref qo, .int nt])), (qm, .inl (cI, 104, .inl nm)), (qf, .inl (cI, 104, .inl nb)), (ql, .inl (cI, 4, .inl nl)), (qi, .inl (cI, 24, .inl ni)), (qo, .inl (cI, 16, .inl nu))] H := hP
      have hD : va_D A [(hq, .inr (3, [.ref qm, .ref qf, .ref ql, .int nc, .int nd, .int nf, .int na, .int nz, .int no, .int ns, .int nv, .int np, .ref qi, .int nn, .ref qo, .int nt])), (qm, .inl (cI, 104, .inl nm)), (qf, .inl (cI, 104, .inl nb)), (ql, .inl (cI, 4, .inl nl)), (qi, .inl (cI, 24, .inl ni)), (qo, .inl (cI, 16, .inl nu))] := hD
      refine lv_aload_n hx hb d_Rf_write_64 rfl (lv_at hl 0 rfl) ?_
      refine lv_dup hx hb d_Rf_write_65 rfl ?_
      refine va_get (D := (dC, dI)) (ci := 3) (v := .int nd) (C := R_Rf) (T := F_Rf) (N := 16) hx hb hts inRf hown hK hP 0 rfl rfl 4 (by decide) kf57 (fun _ h9 => h9) rfl d_Rf_write_66 ?_
      refine lv_iconst (v := 1) hx hb d_Rf_write_69 (by decide) ?_
      refine lv_iadd hx hb d_Rf_write_70 ?_
      refine va_put (D := (dC, dI)) (ci := 3) (v := .int (nd + 1)) (ty := .int) (C := R_Rf) (T := F_Rf) (N := 16) hx hb hts inRf t_Rf t_Rf_ok n_Rf hown hK hP hD hS 0 rfl rfl 4 (by decide) kf57 (fun _ h9 => h9) rfl (by decide +kernel) rfl rfl (Nat.le_of_ble_eq_true rfl) d_Rf_write_71 (fun H locs hP hD hS => ?_)
      have hP : va_P (dC, dI) vwCl [(hq, .inr (3, [.ref qm, .ref qf, .ref ql, .int nc, .int (nd + 1), .int nf, .int na, .int nz, .int no, .int ns, .int nv, .int np, .ref qi, .int nn, .ref qo, .int nt])), (qm, .inl (cI, 104, .inl nm)), (qf, .inl (cI, 104, .inl nb)), (ql, .inl (cI, 4, .inl nl)), (qi, .inl (cI, 24, .inl ni)), (qo, .inl (cI, 16, .inl nu))] H := hP
      have hD : va_D A [(hq, .inr (3, [.ref qm, .ref qf, .ref ql, .int nc, .int (nd + 1), .int nf, .int na, .int nz, .int no, .int ns, .int nv, .int np, .ref qi, .int nn, .ref qo, .int nt])), (qm, .inl (cI, 104, .inl nm)), (qf, .inl (cI, 104, .inl nb)), (ql, .inl (cI, 4, .inl nl)), (qi, .inl (cI, 24, .inl ni)), (qo, .inl (cI, 16, .inl nu))] := hD
      refine lv_iconst (v := 1) hx hb d_Rf_write_74 (by decide) ?_
      obtain ⟨e1_, e2_, e3_, e4_, e5_, e6_, e7_, e8_, e9_, e10_, e11_, e12_, e13_, e14_, e15_, e16_, e17_⟩ := lf17 hf
      subst e1_; subst e2_; subst e3_; subst e4_; subst e5_; subst e6_; subst e7_; subst e8_; subst e9_; subst e10_; subst e11_; subst e12_; subst e13_; subst e14_; subst e15_; subst e16_; subst e17_
      have hP9 := hP.sub (ws' := [(hq, .inr (3, [.ref qm, .ref qf, .ref ql, .int nc, .int (nd + 1), .int nf, .int na, .int nz, .int no, .int ns, .int nv, .int np, .ref qi, .int nn, .ref qo, .int nt])), (qm, .inl (cI, 104, .inl nm)), (qf, .inl (cI, 104, .inl nb)), (ql, .inl (cI, 4, .inl nl)), (qi, .inl (cI, 24, .inl ni)), (qo, .inl (cI, 16, .inl nu))]) [0, 1, 2, 3, 4, 5] rfl
      have hD9 := hD.sub (ws' := [(hq, .inr (3, [.ref qm, .ref qf, .ref ql, .int nc, .int (nd + 1), .int nf, .int na, .int nz, .int no, .int ns, .int nv, .int np, .ref qi, .int nn, .ref qo, .int nt])), (qm, .inl (cI, 104, .inl nm)), (qf, .inl (cI, 104, .inl nb)), (ql, .inl (cI, 4, .inl nl)), (qi, .inl (cI, 24, .inl ni)), (qo, .inl (cI, 16, .inl nu))]) [0, 1, 2, 3, 4, 5] (by decide) rfl
      exact W.zret (v := 1) (ty := .boolean) hx hb hr rfl (fun t ht hW => ⟨⟨1, (), rfl, ⟨rfl, rfl⟩, by rw [ht]; exact hP9, va_K.moved hW.alike hK, hD9⟩, hS.F ht⟩) hS.2.2 d_Rf_write_75
    have hf := ifn hf hc4
    refine lv_aload_n hx hb d_Rf_write_48 rfl (lv_at hl 0 rfl) ?_
    refine va_get (D := (dC, dI)) (ci := 3) (v := .int nz) (C := R_Rf) (T := F_Rf) (N := 16) hx hb hts inRf hown hK hP 0 rfl rfl 7 (by decide) kf48 (fun _ h9 => h9) rfl d_Rf_write_49 ?_
    refine lv_iconst (v := 1) hx hb d_Rf_write_52 (by decide) ?_
    refine lv_isub hx hb d_Rf_write_53 ?_
    refine lv_goto (tgt := 61) hx hb d_Rf_write_54 rfl ?_
    refine va_put (D := (dC, dI)) (ci := 3) (v := .int (nz - 1)) (ty := .int) (C := R_Rf) (T := F_Rf) (N := 16) hx hb hts inRf t_Rf t_Rf_ok n_Rf hown hK hP hD hS 0 rfl rfl 7 (by decide) kf48 (fun _ h9 => h9) rfl (by decide +kernel) rfl rfl (Nat.le_of_ble_eq_true rfl) d_Rf_write_61 (fun H locs hP hD hS => ?_)
    have hP : va_P (dC, dI) vwCl [(hq, .inr (3, [.ref qm, .ref qf, .ref ql, .int nc, .int nd, .int nf, .int na, .int (nz - 1), .int no, .int ns, .int nv, .int np, .ref qi, .int nn, .ref qo, .int nt])), (qm, .inl (cI, 104, .inl nm)), (qf, .inl (cI, 104, .inl nb)), (ql, .inl (cI, 4, .inl nl)), (qi, .inl (cI, 24, .inl ni)), (qo, .inl (cI, 16, .inl nu))] H := hP
    have hD : va_D A [(hq, .inr (3, [.ref qm, .ref qf, .ref ql, .int nc, .int nd, .int nf, .int na, .int (nz - 1), .int no, .int ns, .int nv, .int np, .ref qi, .int nn, .ref qo, .int nt])), (qm, .inl (cI, 104, .inl nm)), (qf, .inl (cI, 104, .inl nb)), (ql, .inl (cI, 4, .inl nl)), (qi, .inl (cI, 24, .inl ni)), (qo, .inl (cI, 16, .inl nu))] := hD
    refine lv_aload_n hx hb d_Rf_write_64 rfl (lv_at hl 0 rfl) ?_
    refine lv_dup hx hb d_Rf_write_65 rfl ?_
    refine va_get (D := (dC, dI)) (ci := 3) (v := .int nd) (C := R_Rf) (T := F_Rf) (N := 16) hx hb hts inRf hown hK hP 0 rfl rfl 4 (by decide) kf57 (fun _ h9 => h9) rfl d_Rf_write_66 ?_
    refine lv_iconst (v := 1) hx hb d_Rf_write_69 (by decide) ?_
    refine lv_iadd hx hb d_Rf_write_70 ?_
    refine va_put (D := (dC, dI)) (ci := 3) (v := .int (nd + 1)) (ty := .int) (C := R_Rf) (T := F_Rf) (N := 16) hx hb hts inRf t_Rf t_Rf_ok n_Rf hown hK hP hD hS 0 rfl rfl 4 (by decide) kf57 (fun _ h9 => h9) rfl (by decide +kernel) rfl rfl (Nat.le_of_ble_eq_true rfl) d_Rf_write_71 (fun H locs hP hD hS => ?_)
    have hP : va_P (dC, dI) vwCl [(hq, .inr (3, [.ref qm, .ref qf, .ref ql, .int nc, .int (nd + 1), .int nf, .int na, .int (nz - 1), .int no, .int ns, .int nv, .int np, .ref qi, .int nn, .ref qo, .int nt])), (qm, .inl (cI, 104, .inl nm)), (qf, .inl (cI, 104, .inl nb)), (ql, .inl (cI, 4, .inl nl)), (qi, .inl (cI, 24, .inl ni)), (qo, .inl (cI, 16, .inl nu))] H := hP
    have hD : va_D A [(hq, .inr (3, [.ref qm, .ref qf, .ref ql, .int nc, .int (nd + 1), .int nf, .int na, .int (nz - 1), .int no, .int ns, .int nv, .int np, .ref qi, .int nn, .ref qo, .int nt])), (qm, .inl (cI, 104, .inl nm)), (qf, .inl (cI, 104, .inl nb)), (ql, .inl (cI, 4, .inl nl)), (qi, .inl (cI, 24, .inl ni)), (qo, .inl (cI, 16, .inl nu))] := hD
    refine lv_iconst (v := 1) hx hb d_Rf_write_74 (by decide) ?_
    obtain ⟨e1_, e2_, e3_, e4_, e5_, e6_, e7_, e8_, e9_, e10_, e11_, e12_, e13_, e14_, e15_, e16_, e17_⟩ := lf17 hf
    subst e1_; subst e2_; subst e3_; subst e4_; subst e5_; subst e6_; subst e7_; subst e8_; subst e9_; subst e10_; subst e11_; subst e12_; subst e13_; subst e14_; subst e15_; subst e16_; subst e17_
    have hP9 := hP.sub (ws' := [(hq, .inr (3, [.ref qm, .ref qf, .ref ql, .int nc, .int (nd + 1), .int nf, .int na, .int (nz - 1), .int no, .int ns, .int nv, .int np, .ref qi, .int nn, .ref qo, .int nt])), (qm, .inl (cI, 104, .inl nm)), (qf, .inl (cI, 104, .inl nb)), (ql, .inl (cI, 4, .inl nl)), (qi, .inl (cI, 24, .inl ni)), (qo, .inl (cI, 16, .inl nu))]) [0, 1, 2, 3, 4, 5] rfl
    have hD9 := hD.sub (ws' := [(hq, .inr (3, [.ref qm, .ref qf, .ref ql, .int nc, .int (nd + 1), .int nf, .int na, .int (nz - 1), .int no, .int ns, .int nv, .int np, .ref qi, .int nn, .ref qo, .int nt])), (qm, .inl (cI, 104, .inl nm)), (qf, .inl (cI, 104, .inl nb)), (ql, .inl (cI, 4, .inl nl)), (qi, .inl (cI, 24, .inl ni)), (qo, .inl (cI, 16, .inl nu))]) [0, 1, 2, 3, 4, 5] (by decide) rfl
    exact W.zret (v := 1) (ty := .boolean) hx hb hr rfl (fun t ht hW => ⟨⟨1, (), rfl, ⟨rfl, rfl⟩, by rw [ht]; exact hP9, va_K.moved hW.alike hK, hD9⟩, hS.F ht⟩) hS.2.2 d_Rf_write_75
  have hf := ift hf hc3
  refine lv_aload_n hx hb d_Rf_write_14 rfl (lv_at hl 0 rfl) ?_
  refine lv_iconst (v := 0) hx hb d_Rf_write_15 (by decide) ?_
  refine va_put (D := (dC, dI)) (ci := 3) (v := .int 0) (ty := .boolean) (C := R_Rf) (T := F_Rf) (N := 16) hx hb hts inRf t_Rf t_Rf_ok n_Rf hown hK hP hD hS 0 rfl rfl 6 (by decide) kf45 (fun _ h9 => h9) rfl (by decide +kernel) rfl rfl (Nat.le_of_ble_eq_true rfl) d_Rf_write_16 (fun H locs hP hD hS => ?_)
  have hP : va_P (dC, dI) vwCl [(hq, .inr (3, [.ref qm, .ref qf, .ref ql, .int nc, .int nd, .int nf, .int 0, .int nz, .int no, .int ns, .int nv, .int np, .ref qi, .int nn, .ref qo, .int nt])), (qm, .inl (cI, 104, .inl nm)), (qf, .inl (cI, 104, .inl nb)), (ql, .inl (cI, 4, .inl nl)), (qi, .inl (cI, 24, .inl ni)), (qo, .inl (cI, 16, .inl nu))] H := hP
  have hD : va_D A [(hq, .inr (3, [.ref qm, .ref qf, .ref ql, .int nc, .int nd, .int nf, .int 0, .int nz, .int no, .int ns, .int nv, .int np, .ref qi, .int nn, .ref qo, .int nt])), (qm, .inl (cI, 104, .inl nm)), (qf, .inl (cI, 104, .inl nb)), (ql, .inl (cI, 4, .inl nl)), (qi, .inl (cI, 24, .inl ni)), (qo, .inl (cI, 16, .inl nu))] := hD
  refine lv_aload_n hx hb d_Rf_write_19 rfl (lv_at hl 0 rfl) ?_
  refine lv_dup hx hb d_Rf_write_20 rfl ?_
  refine va_get (D := (dC, dI)) (ci := 3) (v := .int nf) (C := R_Rf) (T := F_Rf) (N := 16) hx hb hts inRf hown hK hP 0 rfl rfl 5 (by decide) kf51 (fun _ h9 => h9) rfl d_Rf_write_21 ?_
  refine lv_iconst (v := 1) hx hb d_Rf_write_24 (by decide) ?_
  refine lv_iadd hx hb d_Rf_write_25 ?_
  refine va_put (D := (dC, dI)) (ci := 3) (v := .int (nf + 1)) (ty := .int) (C := R_Rf) (T := F_Rf) (N := 16) hx hb hts inRf t_Rf t_Rf_ok n_Rf hown hK hP hD hS 0 rfl rfl 5 (by decide) kf51 (fun _ h9 => h9) rfl (by decide +kernel) rfl rfl (Nat.le_of_ble_eq_true rfl) d_Rf_write_26 (fun H locs hP hD hS => ?_)
  have hP : va_P (dC, dI) vwCl [(hq, .inr (3, [.ref qm, .ref qf, .ref ql, .int nc, .int nd, .int (nf + 1), .int 0, .int nz, .int no, .int ns, .int nv, .int np, .ref qi, .int nn, .ref qo, .int nt])), (qm, .inl (cI, 104, .inl nm)), (qf, .inl (cI, 104, .inl nb)), (ql, .inl (cI, 4, .inl nl)), (qi, .inl (cI, 24, .inl ni)), (qo, .inl (cI, 16, .inl nu))] H := hP
  have hD : va_D A [(hq, .inr (3, [.ref qm, .ref qf, .ref ql, .int nc, .int nd, .int (nf + 1), .int 0, .int nz, .int no, .int ns, .int nv, .int np, .ref qi, .int nn, .ref qo, .int nt])), (qm, .inl (cI, 104, .inl nm)), (qf, .inl (cI, 104, .inl nb)), (ql, .inl (cI, 4, .inl nl)), (qi, .inl (cI, 24, .inl ni)), (qo, .inl (cI, 16, .inl nu))] := hD
  refine lv_aload_n hx hb d_Rf_write_29 rfl (lv_at hl 0 rfl) ?_
  refine lv_iconst (v := 0) hx hb d_Rf_write_30 (by decide) ?_
  refine va_put (D := (dC, dI)) (ci := 3) (v := .int 0) (ty := .boolean) (C := R_Rf) (T := F_Rf) (N := 16) hx hb hts inRf t_Rf t_Rf_ok n_Rf hown hK hP hD hS 0 rfl rfl 8 (by decide) kf19 (fun _ h9 => h9) rfl (by decide +kernel) rfl rfl (Nat.le_of_ble_eq_true rfl) d_Rf_write_31 (fun H locs hP hD hS => ?_)
  have hP : va_P (dC, dI) vwCl [(hq, .inr (3, [.ref qm, .ref qf, .ref ql, .int nc, .int nd, .int (nf + 1), .int 0, .int nz, .int 0, .int ns, .int nv, .int np, .ref qi, .int nn, .ref qo, .int nt])), (qm, .inl (cI, 104, .inl nm)), (qf, .inl (cI, 104, .inl nb)), (ql, .inl (cI, 4, .inl nl)), (qi, .inl (cI, 24, .inl ni)), (qo, .inl (cI, 16, .inl nu))] H := hP
  have hD : va_D A [(hq, .inr (3, [.ref qm, .ref qf, .ref ql, .int nc, .int nd, .int (nf + 1), .int 0, .int nz, .int 0, .int ns, .int nv, .int np, .ref qi, .int nn, .ref qo, .int nt])), (qm, .inl (cI, 104, .inl nm)), (qf, .inl (cI, 104, .inl nb)), (ql, .inl (cI, 4, .inl nl)), (qi, .inl (cI, 24, .inl ni)), (qo, .inl (cI, 16, .inl nu))] := hD
  refine lv_aload_n hx hb d_Rf_write_34 rfl (lv_at hl 0 rfl) ?_
  obtain ⟨nm5, nb5, nl5, nc5, nd5, nf5, na5, nz5, no5, ns5, nv5, np5, ni5, nn5, nu5, nt5, hg, hf⟩ := bd16_some hf
  refine xcv (wr := []) (ctRf_forget l dC dI cI hq qm qf ql qi qo nm nb nl nc nd (nf + 1) 0 nz 0 ns nv np ni nn nu nt nm5 nb5 nl5 nc5 nd5 nf5 na5 nz5 no5 ns5 nv5 np5 ni5 nn5 nu5 nt5 hg) ⟨hx, hb, hml, hown, hts⟩ (cwV (C := R_Rf) 0 hts (gV wq463 wq465 wq22 wq46 wq466) rfl rfl rfl (by decide +kernel) ⟨Nat.le_of_ble_eq_true rfl, Nat.le_of_ble_eq_true rfl⟩) hK hP hD hS hA [0, 1, 2, 3, 4, 5] [] rfl rfl rfl rfl (by decide) (ci := 3) (q0 := 0) rfl rfl rfl rfl hl.1 rfl (Nat.le_of_ble_eq_true rfl) d_Rf_write_35 ⟨Nat.zero_le _, Nat.zero_le _⟩ (fun H locs hP hD hS => ?_)
  have hP : va_P (dC, dI) vwCl [(hq, .inr (3, [.ref qm, .ref qf, .ref ql, .int nc5, .int nd5, .int nf5, .int na5, .int nz5, .int no5, .int ns5, .int nv5, .int np5, .ref qi, .int nn5, .ref qo, .int nt5])), (qm, .inl (cI, 104, .inl nm5)), (qf, .inl (cI, 104, .inl nb5)), (ql, .inl (cI, 4, .inl nl5)), (qi, .inl (cI, 24, .inl ni5)), (qo, .inl (cI, 16, .inl nu5))] H := hP
  have hD : va_D A [(hq, .inr (3, [.ref qm, .ref qf, .ref ql, .int nc5, .int nd5, .int nf5, .int na5, .int nz5, .int no5, .int ns5, .int nv5, .int np5, .ref qi, .int nn5, .ref qo, .int nt5])), (qm, .inl (cI, 104, .inl nm5)), (qf, .inl (cI, 104, .inl nb5)), (ql, .inl (cI, 4, .inl nl5)), (qi, .inl (cI, 24, .inl ni5)), (qo, .inl (cI, 16, .inl nu5))] := hD
  refine lv_iconst (v := 0) hx hb d_Rf_write_38 (by decide) ?_
  obtain ⟨e1_, e2_, e3_, e4_, e5_, e6_, e7_, e8_, e9_, e10_, e11_, e12_, e13_, e14_, e15_, e16_, e17_⟩ := lf17 hf
  subst e1_; subst e2_; subst e3_; subst e4_; subst e5_; subst e6_; subst e7_; subst e8_; subst e9_; subst e10_; subst e11_; subst e12_; subst e13_; subst e14_; subst e15_; subst e16_; subst e17_
  have hP9 := hP.sub (ws' := [(hq, .inr (3, [.ref qm, .ref qf, .ref ql, .int nc5, .int nd5, .int nf5, .int na5, .int nz5, .int no5, .int ns5, .int nv5, .int np5, .ref qi, .int nn5, .ref qo, .int nt5])), (qm, .inl (cI, 104, .inl nm5)), (qf, .inl (cI, 104, .inl nb5)), (ql, .inl (cI, 4, .inl nl5)), (qi, .inl (cI, 24, .inl ni5)), (qo, .inl (cI, 16, .inl nu5))]) [0, 1, 2, 3, 4, 5] rfl
  have hD9 := hD.sub (ws' := [(hq, .inr (3, [.ref qm, .ref qf, .ref ql, .int nc5, .int nd5, .int nf5, .int na5, .int nz5, .int no5, .int ns5, .int nv5, .int np5, .ref qi, .int nn5, .ref qo, .int nt5])), (qm, .inl (cI, 104, .inl nm5)), (qf, .inl (cI, 104, .inl nb5)), (ql, .inl (cI, 4, .inl nl5)), (qi, .inl (cI, 24, .inl ni5)), (qo, .inl (cI, 16, .inl nu5))]) [0, 1, 2, 3, 4, 5] (by decide) rfl
  exact W.zret (v := 0) (ty := .boolean) hx hb hr rfl (fun t ht hW => ⟨⟨0, (), rfl, ⟨rfl, rfl⟩, by rw [ht]; exact hP9, va_K.moved hW.alike hK, hD9⟩, hS.F ht⟩) hS.2.2 d_Rf_write_39
theorem d_Rf_several_0 : decode b_Rf_several 0 = .ok (.iconst 0, 1) := by decide +kernel
theorem d_Rf_several_1 : decode b_Rf_several 1 = .ok (.istore_n 2, 1) := by decide +kernel
theorem d_Rf_several_2 : decode b_Rf_several 2 = .ok (.iload_n 2, 1) := by decide +kernel
theorem d_Rf_several_3 : decode b_Rf_several 3 = .ok (.iload_n 1, 1) := by decide +kernel
theorem d_Rf_several_4 : decode b_Rf_several 4 = .ok (.if_icmp .ge 18, 3) := by decide +kernel
theorem d_Rf_several_7 : decode b_Rf_several 7 = .ok (.aload_n 0, 1) := by decide +kernel
theorem d_Rf_several_8 : decode b_Rf_several 8 = .ok (.invokevirtual 60, 3) := by decide +kernel
theorem d_Rf_several_11 : decode b_Rf_several 11 = .ok (.ifCond .ne 5, 3) := by decide +kernel
theorem d_Rf_several_14 : decode b_Rf_several 14 = .ok (.iconst 0, 1) := by decide +kernel
theorem d_Rf_several_15 : decode b_Rf_several 15 = .ok (.ireturn, 1) := by decide +kernel
theorem d_Rf_several_16 : decode b_Rf_several 16 = .ok (.iinc 2 1, 3) := by decide +kernel
theorem d_Rf_several_19 : decode b_Rf_several 19 = .ok (.goto (-17), 3) := by decide +kernel
theorem d_Rf_several_22 : decode b_Rf_several 22 = .ok (.iconst 1, 1) := by decide +kernel
theorem d_Rf_several_23 : decode b_Rf_several 23 = .ok (.ireturn, 1) := by decide +kernel
def fRf_several_L2 : Nat → StR → Int32 → Int32 → Option (Int32 × StR)
  | 0, _, _, _ => none
  | n + 1, (nm, nb, nl, nc, nd, nf, na, nz, no, ns, nv, np, ni, nn, nu, nt), v1, v2 => if v1 ≤ v2 then (some (1, nm, nb, nl, nc, nd, nf, na, nz, no, ns, nv, np, ni, nn, nu, nt)) else (bd17 (fRf_write (nm, nb, nl, nc, nd, nf, na, nz, no, ns, nv, np, ni, nn, nu, nt)) fun r2 nm2 nb2 nl2 nc2 nd2 nf2 na2 nz2 no2 ns2 nv2 np2 ni2 nn2 nu2 nt2 => if r2 = 0 then (some (0, nm2, nb2, nl2, nc2, nd2, nf2, na2, nz2, no2, ns2, nv2, np2, ni2, nn2, nu2, nt2)) else (fRf_several_L2 n (nm2, nb2, nl2, nc2, nd2, nf2, na2, nz2, no2, ns2, nv2, np2, ni2, nn2, nu2, nt2) v1 (v2 + 1)))
def fRf_several (σ : StR) (a1 : Int32) : Option (Int32 × StR) := match σ with | (nm, nb, nl, nc, nd, nf, na, nz, no, ns, nv, np, ni, nn, nu, nt) => fRf_several_L2 300 (nm, nb, nl, nc, nd, nf, na, nz, no, ns, nv, np, ni, nn, nu, nt) a1 0
set_option maxHeartbeats 4000000 in
set_option maxRecDepth 100000 in
theorem ctRf_several (l : Launch) (dC : Nat → ClassId) (dI : Nat → Nat → Nat) (cI : ClassId) (hq qm qf ql qi qo : Nat) (nm : Nat → Int32) (nb : Nat → Int32) (nl : Nat → Int32) (nc : Int32) (nd : Int32) (nf : Int32) (na : Int32) (nz : Int32) (no : Int32) (ns : Int32) (nv : Int32) (np : Int32) (ni : Nat → Int32) (nn : Int32) (nu : Nat → Int32) (nt : Int32) (a1 : Int32) (r : Int32) (nm' : Nat → Int32) (nb' : Nat → Int32) (nl' : Nat → Int32) (nc' : Int32) (nd' : Int32) (nf' : Int32) (na' : Int32) (nz' : Int32) (no' : Int32) (ns' : Int32) (nv' : Int32) (np' : Int32) (ni' : Nat → Int32) (nn' : Int32) (nu' : Nat → Int32) (nt' : Int32) (hf : fRf_several (nm, nb, nl, nc, nd, nf, na, nz, no, ns, nv, np, ni, nn, nu, nt) a1 = some (r, nm', nb', nl', nc', nd', nf', na', nz', no', ns', nv', np', ni', nn', nu', nt')) : CtZ l y_Rf_several w_Rf_several ({ frames := 2, cells := 0, slots := 0, locals := 40 }) (dC, dI) [(cI, .int)] [.ref hq, .int a1] [(hq, .inr (3, [.ref qm, .ref qf, .ref ql, .int nc, .int nd, .int nf, .int na, .int nz, .int no, .int ns, .int nv, .int np, .ref qi, .int nn, .ref qo, .int nt])), (qm, .inl (cI, 104, .inl nm)), (qf, .inl (cI, 104, .inl nb)), (ql, .inl (cI, 4, .inl nl)), (qi, .inl (cI, 24, .inl ni)), (qo, .inl (cI, 16, .inl nu))] [(hq, .inr (3, [.ref qm, .ref qf, .ref ql, .int nc', .int nd', .int nf', .int na', .int nz', .int no', .int ns', .int nv', .int np', .ref qi, .int nn', .ref qo, .int nt'])), (qm, .inl (cI, 104, .inl nm')), (qf, .inl (cI, 104, .inl nb')), (ql, .inl (cI, 4, .inl nl')), (qi, .inl (cI, 24, .inl ni')), (qo, .inl (cI, 16, .inl nu'))] r := by
  intro sz
  refine Met.ofW (cc := b_Rf_several) (maxL := 3) (ret := some .boolean) (by decide) rfl ?_
  intro p e s m args below meth c s₁ B hml hv
  obtain ⟨rfl, hsz, hP, hK, hD0⟩ := hv
  have hx := B.exec
  have hb := B.bytes
  have hr := B.returns
  have hts := atoms_spec (ws := w_Rf_several) B.pre
  have hown : s.vm.findClass R_Rf = some m.cls := findClass_of_methodNamed B.named
  have hlocks := B.notSynchronized
  subst hsz
  have hD := hD0.self (sz := s.heap.size)
  generalize hAe : va_A [(hq, .inr (3, [.ref qm, .ref qf, .ref ql, .int nc, .int nd, .int nf, .int na, .int nz, .int no, .int ns, .int nv, .int np, .ref qi, .int nn, .ref qo, .int nt])), (qm, .inl (cI, 104, .inl nm)), (qf, .inl (cI, 104, .inl nb)), (ql, .inl (cI, 4, .inl nl)), (qi, .inl (cI, 24, .inl ni)), (qo, .inl (cI, 16, .inl nu))] s.heap.size = A at hD ⊢
  have hA : ∀ q : Nat, s.heap.size ≤ q → A q := fun q h => by rw [← hAe]; exact Or.inr h
  have hS : va_S A s.heap s.heap [] := va_S.rf
  have hP : va_P (dC, dI) vwCl [(hq, .inr (3, [.ref qm, .ref qf, .ref ql, .int nc, .int nd, .int nf, .int na, .int nz, .int no, .int ns, .int nv, .int np, .ref qi, .int nn, .ref qo, .int nt])), (qm, .inl (cI, 104, .inl nm)), (qf, .inl (cI, 104, .inl nb)), (ql, .inl (cI, 4, .inl nl)), (qi, .inl (cI, 24, .inl ni)), (qo, .inl (cI, 16, .inl nu))] s.heap := hP
  have hl := lv_entry ([.ref hq, .int a1]) (n := 3) (Nat.le_of_ble_eq_true rfl)
  rw [lg_entry_eq]
  generalize (lg_sl ([.ref hq, .int a1]) ++ List.replicate (3 - (lg_sl ([.ref hq, .int a1])).length) Slot.unset).toArray = ls at hl ⊢
  have hl : lv_has ls 3 [(0, .ref hq), (1, .int a1)] := hl
  rw [fRf_several] at hf
  refine lv_iconst (v := 0) hx hb d_Rf_several_0 (by decide) ?_
  refine lv_istore_n hx hb d_Rf_several_1 rfl hl (by decide) rfl (fun ls hl => ?_)
  have hl : lv_has ls 3 [(2, .int 0), (0, .ref hq), (1, .int a1)] := hl
  have hl := lv_sub (l' := [(0, .ref hq), (1, .int a1), (2, .int 0)]) hl [1, 2, 0] rfl
  refine xloop (σ := (Nat → Int32) × (Nat → Int32) × (Nat → Int32) × (Int32) × (Int32) × (Int32) × (Int32) × (Int32) × (Int32) × (Int32) × (Int32) × (Int32) × (Nat → Int32) × (Int32) × (Nat → Int32) × (Int32) × (Int32) × (Int32)) (pc := 2) (fun n x H locs ls => va_P (dC, dI) vwCl [(hq, .inr (3, [.ref qm, .ref qf, .ref ql, .int (x.2.2.2.1), .int (x.2.2.2.2.1), .int (x.2.2.2.2.2.1), .int (x.2.2.2.2.2.2.1), .int (x.2.2.2.2.2.2.2.1), .int (x.2.2.2.2.2.2.2.2.1), .int (x.2.2.2.2.2.2.2.2.2.1), .int (x.2.2.2.2.2.2.2.2.2.2.1), .int (x.2.2.2.2.2.2.2.2.2.2.2.1), .ref qi, .int (x.2.2.2.2.2.2.2.2.2.2.2.2.2.1), .ref qo, .int (x.2.2.2.2.2.2.2.2.2.2.2.2.2.2.2.1)])), (qm, .inl (cI, 104, .inl (x.1))), (qf, .inl (cI, 104, .inl (x.2.1))), (ql, .inl (cI, 4, .inl (x.2.2.1))), (qi, .inl (cI, 24, .inl (x.2.2.2.2.2.2.2.2.2.2.2.2.1))), (qo, .inl (cI, 16, .inl (x.2.2.2.2.2.2.2.2.2.2.2.2.2.2.1)))] H ∧ va_D A [(hq, .inr (3, [.ref qm, .ref qf, .ref ql, .int (x.2.2.2.1), .int (x.2.2.2.2.1), .int (x.2.2.2.2.2.1), .int (x.2.2.2.2.2.2.1), .int (x.2.2.2.2.2.2.2.1), .int (x.2.2.2.2.2.2.2.2.1), .int (x.2.2.2.2.2.2.2.2.2.1), .int (x.2.2.2.2.2.2.2.2.2.2.1), .int (x.2.2.2.2.2.2.2.2.2.2.2.1), .ref qi, .int (x.2.2.2.2.2.2.2.2.2.2.2.2.2.1), .ref qo, .int (x.2.2.2.2.2.2.2.2.2.2.2.2.2.2.2.1)])), (qm, .inl (cI, 104, .inl (x.1))), (qf, .inl (cI, 104, .inl (x.2.1))), (ql, .inl (cI, 4, .inl (x.2.2.1))), (qi, .inl (cI, 24, .inl (x.2.2.2.2.2.2.2.2.2.2.2.2.1))), (qo, .inl (cI, 16, .inl (x.2.2.2.2.2.2.2.2.2.2.2.2.2.2.1)))] ∧ va_S A s.heap H locs ∧ lv_has ls 3 [(0, .ref hq), (1, .int (x.2.2.2.2.2.2.2.2.2.2.2.2.2.2.2.2.1)), (2, .int (x.2.2.2.2.2.2.2.2.2.2.2.2.2.2.2.2.2))] ∧ fRf_several_L2 n (x.1, x.2.1, x.2.2.1, x.2.2.2.1, x.2.2.2.2.1, x.2.2.2.2.2.1, x.2.2.2.2.2.2.1, x.2.2.2.2.2.2.2.1, x.2.2.2.2.2.2.2.2.1, x.2.2.2.2.2.2.2.2.2.1, x.2.2.2.2.2.2.2.2.2.2.1, x.2.2.2.2.2.2.2.2.2.2.2.1, x.2.2.2.2.2.2.2.2.2.2.2.2.1, x.2.2.2.2.2.2.2.2.2.2.2.2.2.1, x.2.2.2.2.2.2.2.2.2.2.2.2.2.2.1, x.2.2.2.2.2.2.2.2.2.2.2.2.2.2.2.1) x.2.2.2.2.2.2.2.2.2.2.2.2.2.2.2.2.1 x.2.2.2.2.2.2.2.2.2.2.2.2.2.2.2.2.2 = some (r, nm', nb', nl', nc', nd', nf', na', nz', no', ns', nv', np', ni', nn', nu', nt')) ?_ (fun x H locs ls h => by have h9 := h.2.2.2.2; rw [fRf_several_L2] at h9; cases h9) 300 (nm, nb, nl, nc, nd, nf, na, nz, no, ns, nv, np, ni, nn, nu, nt, a1, 0) _ _ ls ⟨hP, hD, hS, hl, hf⟩
  intro n ih x H locs ls hI
  obtain ⟨nm, nb, nl, nc, nd, nf, na, nz, no, ns, nv, np, ni, nn, nu, nt, v1, v2⟩ := x
  obtain ⟨hP, hD, hS, hl, hf⟩ := hI
  have hP : va_P (dC, dI) vwCl [(hq, .inr (3, [.ref qm, .ref qf, .ref ql, .int nc, .int nd, .int nf, .int na, .int nz, .int no, .int ns, .int nv, .int np, .ref qi, .int nn, .ref qo, .int nt])), (qm, .inl (cI, 104, .inl nm)), (qf, .inl (cI, 104, .inl nb)), (ql, .inl (cI, 4, .inl nl)), (qi, .inl (cI, 24, .inl ni)), (qo, .inl (cI, 16, .inl nu))] H := hP
  have hD : va_D A [(hq, .inr (3, [.ref qm, .ref qf, .ref ql, .int nc, .int nd, .int nf, .int na, .int nz, .int no, .int ns, .int nv, .int np, .ref qi, .int nn, .ref qo, .int nt])), (qm, .inl (cI, 104, .inl nm)), (qf, .inl (cI, 104, .inl nb)), (ql, .inl (cI, 4, .inl nl)), (qi, .inl (cI, 24, .inl ni)), (qo, .inl (cI, 16, .inl nu))] := hD
  have hl : lv_has ls 3 [(0, .ref hq), (1, .int v1), (2, .int v2)] := hl
  rw [fRf_several_L2] at hf
  refine lv_iload_n hx hb d_Rf_several_2 rfl (lv_at hl 2 rfl) ?_
  refine lv_iload_n hx hb d_Rf_several_3 rfl (lv_at hl 1 rfl) ?_
  refine lv_icmp_ge (tgt := 22) hx hb d_Rf_several_4 rfl (fun hc1 => ?_) (fun hc1 => ?_)
  · have hf := ift hf hc1
    refine lv_iconst (v := 1) hx hb d_Rf_several_22 (by decide) ?_
    obtain ⟨e1_, e2_, e3_, e4_, e5_, e6_, e7_, e8_, e9_, e10_, e11_, e12_, e13_, e14_, e15_, e16_, e17_⟩ := lf17 hf
    subst e1_; subst e2_; subst e3_; subst e4_; subst e5_; subst e6_; subst e7_; subst e8_; subst e9_; subst e10_; subst e11_; subst e12_; subst e13_; subst e14_; subst e15_; subst e16_; subst e17_
    have hP9 := hP.sub (ws' := [(hq, .inr (3, [.ref qm, .ref qf, .ref ql, .int nc, .int nd, .int nf, .int na, .int nz, .int no, .int ns, .int nv, .int np, .ref qi, .int nn, .ref qo, .int nt])), (qm, .inl (cI, 104, .inl nm)), (qf, .inl (cI, 104, .inl nb)), (ql, .inl (cI, 4, .inl nl)), (qi, .inl (cI, 24, .inl ni)), (qo, .inl (cI, 16, .inl nu))]) [0, 1, 2, 3, 4, 5] rfl
    have hD9 := hD.sub (ws' := [(hq, .inr (3, [.ref qm, .ref qf, .ref ql, .int nc, .int nd, .int nf, .int na, .int nz, .int no, .int ns, .int nv, .int np, .ref qi, .int nn, .ref qo, .int nt])), (qm, .inl (cI, 104, .inl nm)), (qf, .inl (cI, 104, .inl nb)), (ql, .inl (cI, 4, .inl nl)), (qi, .inl (cI, 24, .inl ni)), (qo, .inl (cI, 16, .inl nu))]) [0, 1, 2, 3, 4, 5] (by decide) rfl
    exact W.zret (v := 1) (ty := .boolean) hx hb hr rfl (fun t ht hW => ⟨⟨1, (), rfl, ⟨rfl, rfl⟩, by rw [ht]; exact hP9, va_K.moved hW.alike hK, hD9⟩, hS.F ht⟩) hS.2.2 d_Rf_several_23
  have hf := ifn hf hc1
  refine lv_aload_n hx hb d_Rf_several_7 rfl (lv_at hl 0 rfl) ?_
  obtain ⟨r2, nm2, nb2, nl2, nc2, nd2, nf2, na2, nz2, no2, ns2, nv2, np2, ni2, nn2, nu2, nt2, hg, hf⟩ := bd17_some hf
  refine xcz (wr := []) (ctRf_write l dC dI cI hq qm qf ql qi qo nm nb nl nc nd nf na nz no ns nv np ni nn nu nt r2 nm2 nb2 nl2 nc2 nd2 nf2 na2 nz2 no2 ns2 nv2 np2 ni2 nn2 nu2 nt2 hg) ⟨hx, hb, hml, hown, hts⟩ (cwV (C := R_Rf) 0 hts (gV wq475 wq477 wq25 wq46 wq478) rfl rfl rfl (by decide +kernel) ⟨Nat.le_of_ble_eq_true rfl, Nat.le_of_ble_eq_true rfl⟩) hK hP hD hS hA [0, 1, 2, 3, 4, 5] [] rfl rfl rfl rfl (by decide) (ci := 3) (q0 := 0) rfl rfl rfl rfl hl.1 rfl (Nat.le_of_ble_eq_true rfl) d_Rf_several_8 ⟨Nat.zero_le _, Nat.zero_le _⟩ (fun H locs hn2 hP hD hS => ?_)
  have hP : va_P (dC, dI) vwCl [(hq, .inr (3, [.ref qm, .ref qf, .ref ql, .int nc2, .int nd2, .int nf2, .int na2, .int nz2, .int no2, .int ns2, .int nv2, .int np2, .ref qi, .int nn2, .ref qo, .int nt2])), (qm, .inl (cI, 104, .inl nm2)), (qf, .inl (cI, 104, .inl nb2)), (ql, .inl (cI, 4, .inl nl2)), (qi, .inl (cI, 24, .inl ni2)), (qo, .inl (cI, 16, .inl nu2))] H := hP
  have hD : va_D A [(hq, .inr (3, [.ref qm, .ref qf, .ref ql, .int nc2, .int nd2, .int nf2, .int na2, .int nz2, .int no2, .int ns2, .int nv2, .int np2, .ref qi, .int nn2, .ref qo, .int nt2])), (qm, .inl (cI, 104, .inl nm2)), (qf, .inl (cI, 104, .inl nb2)), (ql, .inl (cI, 4, .inl nl2)), (qi, .inl (cI, 24, .inl ni2)), (qo, .inl (cI, 16, .inl nu2))] := hD
  refine lv_if_ne (tgt := 16) hx hb d_Rf_several_11 rfl (fun hc3 => ?_) (fun hc3 => ?_)
  · have hf := ifn hf hc3
    refine lv_iinc (v := v2 + 1) hx hb d_Rf_several_16 hl (k := 2) rfl rfl (by decide) rfl (fun ls hl => ?_)
    have hl : lv_has ls 3 [(2, .int (v2 + 1)), (0, .ref hq), (1, .int v1)] := hl
    refine lv_goto (tgt := 2) hx hb d_Rf_several_19 rfl ?_
    have hl := lv_sub (l' := [(0, .ref hq), (1, .int v1), (2, .int (v2 + 1))]) hl [1, 2, 0] rfl
    exact ih (nm2, nb2, nl2, nc2, nd2, nf2, na2, nz2, no2, ns2, nv2, np2, ni2, nn2, nu2, nt2, v1, v2 + 1) _ _ ls ⟨hP, hD, hS, hl, hf⟩
  have hf := ift hf hc3
  refine lv_iconst (v := 0) hx hb d_Rf_several_14 (by decide) ?_
  obtain ⟨e1_, e2_, e3_, e4_, e5_, e6_, e7_, e8_, e9_, e10_, e11_, e12_, e13_, e14_, e15_, e16_, e17_⟩ := lf17 hf
  subst e1_; subst e2_; subst e3_; subst e4_; subst e5_; subst e6_; subst e7_; subst e8_; subst e9_; subst e10_; subst e11_; subst e12_; subst e13_; subst e14_; subst e15_; subst e16_; subst e17_
  have hP9 := hP.sub (ws' := [(hq, .inr (3, [.ref qm, .ref qf, .ref ql, .int nc2, .int nd2, .int nf2, .int na2, .int nz2, .int no2, .int ns2, .int nv2, .int np2, .ref qi, .int nn2, .ref qo, .int nt2])), (qm, .inl (cI, 104, .inl nm2)), (qf, .inl (cI, 104, .inl nb2)), (ql, .inl (cI, 4, .inl nl2)), (qi, .inl (cI, 24, .inl ni2)), (qo, .inl (cI, 16, .inl nu2))]) [0, 1, 2, 3, 4, 5] rfl
  have hD9 := hD.sub (ws' := [(hq, .inr (3, [.ref qm, .ref qf, .ref ql, .int nc2, .int nd2, .int nf2, .int na2, .int nz2, .int no2, .int ns2, .int nv2, .int np2, .ref qi, .int nn2, .ref qo, .int nt2])), (qm, .inl (cI, 104, .inl nm2)), (qf, .inl (cI, 104, .inl nb2)), (ql, .inl (cI, 4, .inl nl2)), (qi, .inl (cI, 24, .inl ni2)), (qo, .inl (cI, 16, .inl nu2))]) [0, 1, 2, 3, 4, 5] (by decide) rfl
  exact W.zret (v := 0) (ty := .boolean) hx hb hr rfl (fun t ht hW => ⟨⟨0, (), rfl, ⟨rfl, rfl⟩, by rw [ht]; exact hP9, va_K.moved hW.alike hK, hD9⟩, hS.F ht⟩) hS.2.2 d_Rf_several_15
theorem d_Rf_change_0 : decode b_Rf_change 0 = .ok (.aload_n 0, 1) := by decide +kernel
theorem d_Rf_change_1 : decode b_Rf_change 1 = .ok (.getfield 64, 3) := by decide +kernel
theorem d_Rf_change_4 : decode b_Rf_change 4 = .ok (.ifCond .ne 29, 3) := by decide +kernel
theorem d_Rf_change_7 : decode b_Rf_change 7 = .ok (.iconst 0, 1) := by decide +kernel
theorem d_Rf_change_8 : decode b_Rf_change 8 = .ok (.istore_n 3, 1) := by decide +kernel
theorem d_Rf_change_9 : decode b_Rf_change 9 = .ok (.iload_n 3, 1) := by decide +kernel
theorem d_Rf_change_10 : decode b_Rf_change 10 = .ok (.bipush 104, 2) := by decide +kernel
theorem d_Rf_change_12 : decode b_Rf_change 12 = .ok (.if_icmp .ge 21, 3) := by decide +kernel
theorem d_Rf_change_15 : decode b_Rf_change 15 = .ok (.aload_n 0, 1) := by decide +kernel
theorem d_Rf_change_16 : decode b_Rf_change 16 = .ok (.getfield 13, 3) := by decide +kernel
theorem d_Rf_change_19 : decode b_Rf_change 19 = .ok (.iload_n 3, 1) := by decide +kernel
theorem d_Rf_change_20 : decode b_Rf_change 20 = .ok (.aload_n 0, 1) := by decide +kernel
theorem d_Rf_change_21 : decode b_Rf_change 21 = .ok (.getfield 7, 3) := by decide +kernel
theorem d_Rf_change_24 : decode b_Rf_change 24 = .ok (.iload_n 3, 1) := by decide +kernel
theorem d_Rf_change_25 : decode b_Rf_change 25 = .ok (.iaload, 1) := by decide +kernel
theorem d_Rf_change_26 : decode b_Rf_change 26 = .ok (.iastore, 1) := by decide +kernel
theorem d_Rf_change_27 : decode b_Rf_change 27 = .ok (.iinc 3 1, 3) := by decide +kernel
theorem d_Rf_change_30 : decode b_Rf_change 30 = .ok (.goto (-21), 3) := by decide +kernel
theorem d_Rf_change_33 : decode b_Rf_change 33 = .ok (.aload_n 0, 1) := by decide +kernel
theorem d_Rf_change_34 : decode b_Rf_change 34 = .ok (.iconst 3, 1) := by decide +kernel
theorem d_Rf_change_35 : decode b_Rf_change 35 = .ok (.invokevirtual 67, 3) := by decide +kernel
theorem d_Rf_change_38 : decode b_Rf_change 38 = .ok (.ifCond .ne 5, 3) := by decide +kernel
theorem d_Rf_change_41 : decode b_Rf_change 41 = .ok (.iconst 0, 1) := by decide +kernel
theorem d_Rf_change_42 : decode b_Rf_change 42 = .ok (.ireturn, 1) := by decide +kernel
theorem d_Rf_change_43 : decode b_Rf_change 43 = .ok (.aload_n 0, 1) := by decide +kernel
theorem d_Rf_change_44 : decode b_Rf_change 44 = .ok (.dup, 1) := by decide +kernel
theorem d_Rf_change_45 : decode b_Rf_change 45 = .ok (.getfield 64, 3) := by decide +kernel
theorem d_Rf_change_48 : decode b_Rf_change 48 = .ok (.iconst 1, 1) := by decide +kernel
theorem d_Rf_change_49 : decode b_Rf_change 49 = .ok (.iadd, 1) := by decide +kernel
theorem d_Rf_change_50 : decode b_Rf_change 50 = .ok (.putfield 64, 3) := by decide +kernel
theorem d_Rf_change_53 : decode b_Rf_change 53 = .ok (.aload_n 0, 1) := by decide +kernel
theorem d_Rf_change_54 : decode b_Rf_change 54 = .ok (.invokevirtual 60, 3) := by decide +kernel
theorem d_Rf_change_57 : decode b_Rf_change 57 = .ok (.ifCond .ne 5, 3) := by decide +kernel
theorem d_Rf_change_60 : decode b_Rf_change 60 = .ok (.iconst 0, 1) := by decide +kernel
theorem d_Rf_change_61 : decode b_Rf_change 61 = .ok (.ireturn, 1) := by decide +kernel
theorem d_Rf_change_62 : decode b_Rf_change 62 = .ok (.aload_n 0, 1) := by decide +kernel
theorem d_Rf_change_63 : decode b_Rf_change 63 = .ok (.getfield 7, 3) := by decide +kernel
theorem d_Rf_change_66 : decode b_Rf_change 66 = .ok (.iload_n 1, 1) := by decide +kernel
theorem d_Rf_change_67 : decode b_Rf_change 67 = .ok (.iload_n 2, 1) := by decide +kernel
theorem d_Rf_change_68 : decode b_Rf_change 68 = .ok (.iastore, 1) := by decide +kernel
theorem d_Rf_change_69 : decode b_Rf_change 69 = .ok (.iconst 1, 1) := by decide +kernel
theorem d_Rf_change_70 : decode b_Rf_change 70 = .ok (.ireturn, 1) := by decide +kernel
def fRf_change_L9 : Nat → StR → Int32 → Int32 → Int32 → Option (Int32 × StR)
  | 0, _, _, _, _ => none
  | n + 1, (nm, nb, nl, nc, nd, nf, na, nz, no, ns, nv, np, ni, nn, nu, nt), v1, v2, v3 => if 104 ≤ v3 then (bd17 (fRf_several (nm, nb, nl, nc, nd, nf, na, nz, no, ns, nv, np, ni, nn, nu, nt) 3) fun r8 nm8 nb8 nl8 nc8 nd8 nf8 na8 nz8 no8 ns8 nv8 np8 ni8 nn8 nu8 nt8 => if r8 = 0 then (some (0, nm8, nb8, nl8, nc8, nd8, nf8, na8, nz8, no8, ns8, nv8, np8, ni8, nn8, nu8, nt8)) else (bd17 (fRf_write (nm8, nb8, nl8, nc8 + 1, nd8, nf8, na8, nz8, no8, ns8, nv8, np8, ni8, nn8, nu8, nt8)) fun r10 nm10 nb10 nl10 nc10 nd10 nf10 na10 nz10 no10 ns10 nv10 np10 ni10 nn10 nu10 nt10 => if r10 = 0 then (some (0, nm10, nb10, nl10, nc10, nd10, nf10, na10, nz10, no10, ns10, nv10, np10, ni10, nn10, nu10, nt10)) else (ix v1 104 fun j12 => some (1, upd nm10 j12 v2, nb10, nl10, nc10, nd10, nf10, na10, nz10, no10, ns10, nv10, np10, ni10, nn10, nu10, nt10)))) else (ix v3 104 fun j13 => ix v3 104 fun j14 => fRf_change_L9 n (nm, upd nb j14 (nm j13), nl, nc, nd, nf, na, nz, no, ns, nv, np, ni, nn, nu, nt) v1 v2 (v3 + 1))
def fRf_change (σ : StR) (a1 : Int32) (a2 : Int32) : Option (Int32 × StR) := match σ with | (nm, nb, nl, nc, nd, nf, na, nz, no, ns, nv, np, ni, nn, nu, nt) => if nc = 0 then (fRf_change_L9 300 (nm, nb, nl, nc, nd, nf, na, nz, no, ns, nv, np, ni, nn, nu, nt) a1 a2 0) else (bd17 (fRf_several (nm, nb, nl, nc, nd, nf, na, nz, no, ns, nv, np, ni, nn, nu, nt) 3) fun r2 nm2 nb2 nl2 nc2 nd2 nf2 na2 nz2 no2 ns2 nv2 np2 ni2 nn2 nu2 nt2 => if r2 = 0 then (some (0, nm2, nb2, nl2, nc2, nd2, nf2, na2, nz2, no2, ns2, nv2, np2, ni2, nn2, nu2, nt2)) else (bd17 (fRf_write (nm2, nb2, nl2, nc2 + 1, nd2, nf2, na2, nz2, no2, ns2, nv2, np2, ni2, nn2, nu2, nt2)) fun r4 nm4 nb4 nl4 nc4 nd4 nf4 na4 nz4 no4 ns4 nv4 np4 ni4 nn4 nu4 nt4 => if r4 = 0 then (some (0, nm4, nb4, nl4, nc4, nd4, nf4, na4, nz4, no4, ns4, nv4, np4, ni4, nn4, nu4, nt4)) else (ix a1 104 fun j6 => some (1, upd nm4 j6 a2, nb4, nl4, nc4, nd4, nf4, na4, nz4, no4, ns4, nv4, np4, ni4, nn4, nu4, nt4))))
set_option maxHeartbeats 4000000 in
set_option maxRecDepth 100000 in
theorem ctRf_change (l : Launch) (dC : Nat → ClassId) (dI : Nat → Nat → Nat) (cI : ClassId) (hq qm qf ql qi qo : Nat) (nm : Nat → Int32) (nb : Nat → Int32) (nl : Nat → Int32) (nc : Int32) (nd : Int32) (nf : Int32) (na : Int32) (nz : Int32) (no : Int32) (ns : Int32) (nv : Int32) (np : Int32) (ni : Nat → Int32) (nn : Int32) (nu : Nat → Int32) (nt : Int32) (a1 : Int32) (a2 : Int32) (r : Int32) (nm' : Nat → Int32) (nb' : Nat → Int32) (nl' : Nat → Int32) (nc' : Int32) (nd' : Int32) (nf' : Int32) (na' : Int32) (nz' : Int32) (no' : Int32) (ns' : Int32) (nv' : Int32) (np' : Int32) (ni' : Nat → Int32) (nn' : Int32) (nu' : Nat → Int32) (nt' : Int32) (hf : fRf_change (nm, nb, nl, nc, nd, nf, na, nz, no, ns, nv, np, ni, nn, nu, nt) a1 a2 = some (r, nm', nb', nl', nc', nd', nf', na', nz', no', ns', nv', np', ni', nn', nu', nt')) : CtZ l y_Rf_change w_Rf_change ({ frames := 3, cells := 0, slots := 0, locals := 62 }) (dC, dI) [(cI, .int)] [.ref hq, .int a1, .int a2] [(hq, .inr (3, [.ref qm, .ref qf, .ref ql, .int nc, .int nd, .int nf, .int na, .int nz, .int no, .int ns, .int nv, .int np, .ref qi, .int nn, .ref qo, .int nt])), (qm, .inl (cI, 104, .inl nm)), (qf, .inl (cI, 104, .inl nb)), (ql, .inl (cI, 4, .inl nl)), (qi, .inl (cI, 24, .inl ni)), (qo, .inl (cI, 16, .inl nu))] [(hq, .inr (3, [.ref qm, .ref qf, .ref ql, .int nc', .int nd', .int nf', .int na', .int nz', .int no', .int ns', .int nv', .int np', .ref qi, .int nn', .ref qo, .int nt'])), (qm, .inl (cI, 104, .inl nm')), (qf, .inl (cI, 104, .inl nb')), (ql, .inl (cI, 4, .inl nl')), (qi, .inl (cI, 24, .inl ni')), (qo, .inl (cI, 16, .inl nu'))] r := by
  intro sz
  refine Met.ofW (cc := b_Rf_change) (maxL := 4) (ret := some .boolean) (by decide) rfl ?_
  intro p e s m args below meth c s₁ B hml hv
  obtain ⟨rfl, hsz, hP, hK, hD0⟩ := hv
  have hx := B.exec
  have hb := B.bytes
  have hr := B.returns
  have hts := atoms_spec (ws := w_Rf_change) B.pre
  have hown : s.vm.findClass R_Rf = some m.cls := findClass_of_methodNamed B.named
  have hlocks := B.notSynchronized
  subst hsz
  have hD := hD0.self (sz := s.heap.size)
  generalize hAe : va_A [(hq, .inr (3, [.ref qm, .ref qf, .ref ql, .int nc, .int nd, .int nf, .int na, .int nz, .int no, .int ns, .int nv, .int np, .ref qi, .int nn, .ref qo, .int nt])), (qm, .inl (cI, 104, .inl nm)), (qf, .inl (cI, 104, .inl nb)), (ql, .inl (cI, 4, .inl nl)), (qi, .inl (cI, 24, .inl ni)), (qo, .inl (cI, 16, .inl nu))] s.heap.size = A at hD ⊢
  have hA : ∀ q : Nat, s.heap.size ≤ q → A q := fun q h => by rw [← hAe]; exact Or.inr h
  have hS : va_S A s.heap s.heap [] := va_S.rf
  have hP : va_P (dC, dI) vwCl [(hq, .inr (3, [.ref qm, .ref qf, .ref ql, .int nc, .int nd, .int nf, .int na, .int nz, .int no, .int ns, .int nv, .int np, .ref qi, .int nn, .ref qo, .int nt])), (qm, .inl (cI, 104, .inl nm)), (qf, .inl (cI, 104, .inl nb)), (ql, .inl (cI, 4, .inl nl)), (qi, .inl (cI, 24, .inl ni)), (qo, .inl (cI, 16, .inl nu))] s.heap := hP
  have hl := lv_entry ([.ref hq, .int a1, .int a2]) (n := 4) (Nat.le_of_ble_eq_true rfl)
  rw [lg_entry_eq]
  generalize (lg_sl ([.ref hq, .int a1, .int a2]) ++ List.replicate (4 - (lg_sl ([.ref hq, .int a1, .int a2])).length) Slot.unset).toArray = ls at hl ⊢
  have hl : lv_has ls 4 [(0, .ref hq), (1, .int a1), (2, .int a2)] := hl
  have inRf : ∀ w ∈ u_ws R_Rf F_Rf 16, w ∈ w_Rf_change := fun w h => List.mem_cons_of_mem _ (in_Rf w h)
  have kf13 := hts _ (List.mem_cons_of_mem _ wq407)
  have kf64 := hts _ (List.mem_cons_of_mem _ wq409)
  have kf7 := hts _ (List.mem_cons_of_mem _ wq406)
  rw [fRf_change] at hf
  refine lv_aload_n hx hb d_Rf_change_0 rfl (lv_at hl 0 rfl) ?_
  refine va_get (D := (dC, dI)) (ci := 3) (v := .int nc) (C := R_Rf) (T := F_Rf) (N := 16) hx hb hts inRf hown hK hP 0 rfl rfl 3 (by decide) kf64 (fun _ h9 => h9) rfl d_Rf_change_1 ?_
  refine lv_if_ne (tgt := 33) hx hb d_Rf_change_4 rfl (fun hc1 => ?_) (fun hc1 => ?_)
  · have hf := ifn hf hc1
    refine lv_aload_n hx hb d_Rf_change_33 rfl (lv_at hl 0 rfl) ?_
    refine lv_iconst (v := 3) hx hb d_Rf_change_34 (by decide) ?_
    obtain ⟨r2, nm2, nb2, nl2, nc2, nd2, nf2, na2, nz2, no2, ns2, nv2, np2, ni2, nn2, nu2, nt2, hg, hf⟩ := bd17_some hf
    refine xcz (wr := []) (ctRf_several l dC dI cI hq qm qf ql qi qo nm nb nl nc nd nf na nz no ns nv np ni nn nu nt 3 r2 nm2 nb2 nl2 nc2 nd2 nf2 na2 nz2 no2 ns2 nv2 np2 ni2 nn2 nu2 nt2 hg) ⟨hx, hb, hml, hown, hts⟩ (cwV (C := R_Rf) 1 hts (gV wq471 wq473 wq24 wq46 wq474) rfl rfl rfl (by decide +kernel) ⟨Nat.le_of_ble_eq_true rfl, Nat.le_of_ble_eq_true rfl⟩) hK hP hD hS hA [0, 1, 2, 3, 4, 5] [] rfl rfl rfl rfl (by decide) (ci := 3) (q0 := 0) rfl rfl rfl rfl hl.1 rfl (Nat.le_of_ble_eq_true rfl) d_Rf_change_35 ⟨Nat.zero_le _, Nat.zero_le _⟩ (fun H locs hn2 hP hD hS => ?_)
    have hP : va_P (dC, dI) vwCl [(hq, .inr (3, [.ref qm, .ref qf, .ref ql, .int nc2, .int nd2, .int nf2, .int na2, .int nz2, .int no2, .int ns2, .int nv2, .int np2, .ref qi, .int nn2, .ref qo, .int nt2])), (qm, .inl (cI, 104, .inl nm2)), (qf, .inl (cI, 104, .inl nb2)), (ql, .inl (cI, 4, .inl nl2)), (qi, .inl (cI, 24, .inl ni2)), (qo, .inl (cI, 16, .inl nu2))] H := hP
    have hD : va_D A [(hq, .inr (3, [.ref qm, .ref qf, .ref ql, .int nc2, .int nd2, .int nf2, .int na2, .int nz2, .int no2, .int ns2, .int nv2, .int np2, .ref qi, .int nn2, .ref qo, .int nt2])), (qm, .inl (cI, 104, .inl nm2)), (qf, .inl (cI, 104, .inl nb2)), (ql, .inl (cI, 4, .inl nl2)), (qi, .inl (cI, 24, .inl ni2)), (qo, .inl (cI, 16, .inl nu2))] := hD
    refine lv_if_ne (tgt := 43) hx hb d_Rf_change_38 rfl (fun hc3 => ?_) (fun hc3 => ?_)
    · have hf := ifn hf hc3
      refine lv_aload_n hx hb d_Rf_change_43 rfl (lv_at hl 0 rfl) ?_
      refine lv_dup hx hb d_Rf_change_44 rfl ?_
      refine va_get (D := (dC, dI)) (ci := 3) (v := .int nc2) (C := R_Rf) (T := F_Rf) (N := 16) hx hb hts inRf hown hK hP 0 rfl rfl 3 (by decide) kf64 (fun _ h9 => h9) rfl d_Rf_change_45 ?_
      refine lv_iconst (v := 1) hx hb d_Rf_change_48 (by decide) ?_
      refine lv_iadd hx hb d_Rf_change_49 ?_
      refine va_put (D := (dC, dI)) (ci := 3) (v := .int (nc2 + 1)) (ty := .int) (C := R_Rf) (T := F_Rf) (N := 16) hx hb hts inRf t_Rf t_Rf_ok n_Rf hown hK hP hD hS 0 rfl rfl 3 (by decide) kf64 (fun _ h9 => h9) rfl (by decide +kernel) rfl rfl (Nat.le_of_ble_eq_true rfl) d_Rf_change_50 (fun H locs hP hD hS => ?_)
      have hP : va_P (dC, dI) vwCl [(hq, .inr (3, [.ref qm, .ref qf, .ref ql, .int (nc2 + 1), .int nd2, .int nf2, .int na2, .int nz2, .int no2, .int ns2, .int nv2, .int np2, .ref qi, .int nn2, .ref qo, .int nt2])), (qm, .inl (cI, 104, .inl nm2)), (qf, .inl (cI, 104, .inl nb2)), (ql, .inl (cI, 4, .inl nl2)), (qi, .inl (cI, 24, .inl ni2)), (qo, .inl (cI, 16, .inl nu2))] H := hP
      have hD : va_D A [(hq, .inr (3, [.ref qm, .ref qf, .ref ql, .int (nc2 + 1), .int nd2, .int nf2, .int na2, .int nz2, .int no2, .int ns2, .int nv2, .int np2, .ref qi, .int nn2, .ref qo, .int nt2])), (qm, .inl (cI, 104, .inl nm2)), (qf, .inl (cI, 104, .inl nb2)), (ql, .inl (cI, 4, .inl nl2)), (qi, .inl (cI, 24, .inl ni2)), (qo, .inl (cI, 16, .inl nu2))] := hD
      refine lv_aload_n hx hb d_Rf_change_53 rfl (lv_at hl 0 rfl) ?_
      obtain ⟨r4, nm4, nb4, nl4, nc4, nd4, nf4, na4, nz4, no4, ns4, nv4, np4, ni4, nn4, nu4, nt4, hg, hf⟩ := bd17_some hf
      refine xcz (wr := []) (ctRf_write l dC dI cI hq qm qf ql qi qo nm2 nb2 nl2 (nc2 + 1) nd2 nf2 na2 nz2 no2 ns2 nv2 np2 ni2 nn2 nu2 nt2 r4 nm4 nb4 nl4 nc4 nd4 nf4 na4 nz4 no4 ns4 nv4 np4 ni4 nn4 nu4 nt4 hg) ⟨hx, hb, hml, hown, hts⟩ (cwV (C := R_Rf) 0 hts (gV wq475 wq477 wq25 wq46 wq478) rfl rfl rfl (by decide +kernel) ⟨Nat.le_of_ble_eq_true rfl, Nat.le_of_ble_eq_true rfl⟩) hK hP hD hS hA [0, 1, 2, 3, 4, 5] [] rfl rfl rfl rfl (by decide) (ci := 3) (q0 := 0) rfl rfl rfl rfl hl.1 rfl (Nat.le_of_ble_eq_true rfl) d_Rf_change_54 ⟨Nat.zero_le _, Nat.zero_le _⟩ (fun H locs hn4 hP hD hS => ?_)
      have hP : va_P (dC, dI) vwCl [(hq, .inr (3, [.ref qm, .ref qf, .ref ql, .int nc4, .int nd4, .int nf4, .int na4, .int nz4, .int no4, .int ns4, .int nv4, .int np4, .ref qi, .int nn4, .ref qo, .int nt4])), (qm, .inl (cI, 104, .inl nm4)), (qf, .inl (cI, 104, .inl nb4)), (ql, .inl (cI, 4, .inl nl4)), (qi, .inl (cI, 24, .inl ni4)), (qo, .inl (cI, 16, .inl nu4))] H := hP
      have hD : va_D A [(hq, .inr (3, [.ref qm, .ref qf, .ref ql, .int nc4, .int nd4, .int nf4, .int na4, .int nz4, .int no4, .int ns4, .int nv4, .int np4, .ref qi, .int nn4, .ref qo, .int nt4])), (qm, .inl (cI, 104, .inl nm4)), (qf, .inl (cI, 104, .inl nb4)), (ql, .inl (cI, 4, .inl nl4)), (qi, .inl (cI, 24, .inl ni4)), (qo, .inl (cI, 16, .inl nu4))] := hD
      refine lv_if_ne (tgt := 62) hx hb d_Rf_change_57 rfl (fun hc5 => ?_) (fun hc5 => ?_)
      · have hf := ifn hf hc5
        refine lv_aload_n hx hb d_Rf_change_62 rfl (lv_at hl 0 rfl) ?_
        refine va_get (D := (dC, dI)) (ci := 3) (v := .ref qm) (C := R_Rf) (T := F_Rf) (N := 16) hx hb hts inRf hown hK hP 0 rfl rfl 0 (by decide) kf7 (fun _ h9 => h9) rfl d_Rf_change_63 ?_
        refine lv_iload_n hx hb d_Rf_change_66 rfl (lv_at hl 1 rfl) ?_
        refine lv_iload_n hx hb d_Rf_change_67 rfl (lv_at hl 2 rfl) ?_
        obtain ⟨hin_, hf⟩ := ix_some hf
        refine va_iast hx hb hK hP hD hS 1 0 rfl rfl hin_ d_Rf_change_68 (fun H locs hP hD hS => ?_)
        have hP : va_P (dC, dI) vwCl [(hq, .inr (3, [.ref qm, .ref qf, .ref ql, .int nc4, .int nd4, .int nf4, .int na4, .int nz4, .int no4, .int ns4, .int nv4, .int np4, .ref qi, .int nn4, .ref qo, .int nt4])), (qm, .inl (cI, 104, .inl (upd nm4 (a1 : Int32).toNatClampNeg a2))), (qf, .inl (cI, 104, .inl nb4)), (ql, .inl (cI, 4, .inl nl4)), (qi, .inl (cI, 24, .inl ni4)), (qo, .inl (cI, 16, .inl nu4))] H := hP
        have hD : va_D A [(hq, .inr (3, [.ref qm, .ref qf, .ref ql, .int nc4, .int nd4, .int nf4, .int na4, .int nz4, .int no4, .int ns4, .int nv4, .int np4, .ref qi, .int nn4, .ref qo, .int nt4])), (qm, .inl (cI, 104, .inl (upd nm4 (a1 : Int32).toNatClampNeg a2))), (qf, .inl (cI, 104, .inl nb4)), (ql, .inl (cI, 4, .inl nl4)), (qi, .inl (cI, 24, .inl ni4)), (qo, .inl (cI, 16, .inl nu4))] := hD
        refine lv_iconst (v := 1) hx hb d_Rf_change_69 (by decide) ?_
        obtain ⟨e1_, e2_, e3_, e4_, e5_, e6_, e7_, e8_, e9_, e10_, e11_, e12_, e13_, e14_, e15_, e16_, e17_⟩ := lf17 hf
        subst e1_; subst e2_; subst e3_; subst e4_; subst e5_; subst e6_; subst e7_; subst e8_; subst e9_; subst e10_; subst e11_; subst e12_; subst e13_; subst e14_; subst e15_; subst e16_; subst e17_
        have hP9 := hP.sub (ws' := [(hq, .inr (3, [.ref qm, .ref qf, .ref ql, .int nc4, .int nd4, .int nf4, .int na4, .int nz4, .int no4, .int ns4, .int nv4, .int np4, .ref qi, .int nn4, .ref qo, .int nt4])), (qm, .inl (cI, 104, .inl (upd nm4 (a1 : Int32).toNatClampNeg a2))), (qf, .inl (cI, 104, .inl nb4)), (ql, .inl (cI, 4, .inl nl4)), (qi, .inl (cI, 24, .inl ni4)), (qo, .inl (cI, 16, .inl nu4))]) [0, 1, 2, 3, 4, 5] rfl
        have hD9 := hD.sub (ws' := [(hq, .inr (3, [.ref qm, .ref qf, .ref ql, .int nc4, .int nd4, .int nf4, .int na4, .int nz4, .int no4, .int ns4, .int nv4, .int np4, .ref qi, .int nn4, .ref qo, .int nt4])), (qm, .inl (cI, 104, .inl (upd nm4 (a1 : Int32).toNatClampNeg a2))), (qf, .inl (cI, 104, .inl nb4)), (ql, .inl (cI, 4, .inl nl4)), (qi, .inl (cI, 24, .inl ni4)), (qo, .inl (cI, 16, .inl nu4))]) [0, 1, 2, 3, 4, 5] (by decide) rfl
        exact W.zret (v := 1) (ty := .boolean) hx hb hr rfl (fun t ht hW => ⟨⟨1, (), rfl, ⟨rfl, rfl⟩, by rw [ht]; exact hP9, va_K.moved hW.alike hK, hD9⟩, hS.F ht⟩) hS.2.2 d_Rf_change_70
      have hf := ift hf hc5
      refine lv_iconst (v := 0) hx hb d_Rf_change_60 (by decide) ?_
      obtain ⟨e1_, e2_, e3_, e4_, e5_, e6_, e7_, e8_, e9_, e10_, e11_, e12_, e13_, e14_, e15_, e16_, e17_⟩ := lf17 hf
      subst e1_; subst e2_; subst e3_; subst e4_; subst e5_; subst e6_; subst e7_; subst e8_; subst e9_; subst e10_; subst e11_; subst e12_; subst e13_; subst e14_; subst e15_; subst e16_; subst e17_
      have hP9 := hP.sub (ws' := [(hq, .inr (3, [.ref qm, .ref qf, .ref ql, .int nc4, .int nd4, .int nf4, .int na4, .int nz4, .int no4, .int ns4, .int nv4, .int np4, .ref qi, .int nn4, .ref qo, .int nt4])), (qm, .inl (cI, 104, .inl nm4)), (qf, .inl (cI, 104, .inl nb4)), (ql, .inl (cI, 4, .inl nl4)), (qi, .inl (cI, 24, .inl ni4)), (qo, .inl (cI, 16, .inl nu4))]) [0, 1, 2, 3, 4, 5] rfl
      have hD9 := hD.sub (ws' := [(hq, .inr (3, [.ref qm, .ref qf, .ref ql, .int nc4, .int nd4, .int nf4, .int na4, .int nz4, .int no4, .int ns4, .int nv4, .int np4, .ref qi, .int nn4, .ref qo, .int nt4])), (qm, .inl (cI, 104, .inl nm4)), (qf, .inl (cI, 104, .inl nb4)), (ql, .inl (cI, 4, .inl nl4)), (qi, .inl (cI, 24, .inl ni4)), (qo, .inl (cI, 16, .inl nu4))]) [0, 1, 2, 3, 4, 5] (by decide) rfl
      exact W.zret (v := 0) (ty := .boolean) hx hb hr rfl (fun t ht hW => ⟨⟨0, (), rfl, ⟨rfl, rfl⟩, by rw [ht]; exact hP9, va_K.moved hW.alike hK, hD9⟩, hS.F ht⟩) hS.2.2 d_Rf_change_61
    have hf := ift hf hc3
    refine lv_iconst (v := 0) hx hb d_Rf_change_41 (by decide) ?_
    obtain ⟨e1_, e2_, e3_, e4_, e5_, e6_, e7_, e8_, e9_, e10_, e11_, e12_, e13_, e14_, e15_, e16_, e17_⟩ := lf17 hf
    subst e1_; subst e2_; subst e3_; subst e4_; subst e5_; subst e6_; subst e7_; subst e8_; subst e9_; subst e10_; subst e11_; subst e12_; subst e13_; subst e14_; subst e15_; subst e16_; subst e17_
    have hP9 := hP.sub (ws' := [(hq, .inr (3, [.ref qm, .ref qf, .ref ql, .int nc2, .int nd2, .int nf2, .int na2, .int nz2, .int no2, .int ns2, .int nv2, .int np2, .ref qi, .int nn2, .ref qo, .int nt2])), (qm, .inl (cI, 104, .inl nm2)), (qf, .inl (cI, 104, .inl nb2)), (ql, .inl (cI, 4, .inl nl2)), (qi, .inl (cI, 24, .inl ni2)), (qo, .inl (cI, 16, .inl nu2))]) [0, 1, 2, 3, 4, 5] rfl
    have hD9 := hD.sub (ws' := [(hq, .inr (3, [.ref qm, .ref qf, .ref ql, .int nc2, .int nd2, .int nf2, .int na2, .int nz2, .int no2, .int ns2, .int nv2, .int np2, .ref qi, .int nn2, .ref qo, .int nt2])), (qm, .inl (cI, 104, .inl nm2)), (qf, .inl (cI, 104, .inl nb2)), (ql, .inl (cI, 4, .inl nl2)), (qi, .inl (cI, 24, .inl ni2)), (qo, .inl (cI, 16, .inl nu2))]) [0, 1, 2, 3, 4, 5] (by decide) rfl
    exact W.zret (v := 0) (ty := .boolean) hx hb hr rfl (fun t ht hW => ⟨⟨0, (), rfl, ⟨rfl, rfl⟩, by rw [ht]; exact hP9, va_K.moved hW.alike hK, hD9⟩, hS.F ht⟩) hS.2.2 d_Rf_change_42
  have hf := ift hf hc1
  refine lv_iconst (v := 0) hx hb d_Rf_change_7 (by decide) ?_
  refine lv_istore_n hx hb d_Rf_change_8 rfl hl (by decide) rfl (fun ls hl => ?_)
  have hl : lv_has ls 4 [(3, .int 0), (0, .ref hq), (1, .int a1), (2, .int a2)] := hl
  have hl := lv_sub (l' := [(0, .ref hq), (1, .int a1), (2, .int a2), (3, .int 0)]) hl [1, 2, 3, 0] rfl
  refine xloop (σ := (Nat → Int32) × (Nat → Int32) × (Nat → Int32) × (Int32) × (Int32) × (Int32) × (Int32) × (Int32) × (Int32) × (Int32) × (Int32) × (Int32) × (Nat → Int32) × (Int32) × (Nat → Int32) × (Int32) × (Int32) × (Int32) × (Int32)) (pc := 9) (fun n x H locs ls => va_P (dC, dI) vwCl [(hq, .inr (3, [.ref qm, .ref qf, .ref ql, .int (x.2.2.2.1), .int (x.2.2.2.2.1), .int (x.2.2.2.2.2.1), .int (x.2.2.2.2.2.2.1), .int (x.2.2.2.2.2.2.2.1), .int (x.2.2.2.2.2.2.2.2.1), .int (x.2.2.2.2.2.2.2.2.2.1), .int (x.2.2.2.2.2.2.2.2.2.2.1), .int (x.2.2.2.2.2.2.2.2.2.2.2.1), .ref qi, .int (x.2.2.2.2.2.2.2.2.2.2.2.2.2.1), .ref qo, .int (x.2.2.2.2.2.2.2.2.2.2.2.2.2.2.2.1)])), (qm, .inl (cI, 104, .inl (x.1))), (qf, .inl (cI, 104, .inl (x.2.1))), (ql, .inl (cI, 4, .inl (x.2.2.1))), (qi, .inl (cI, 24, .inl (x.2.2.2.2.2.2.2.2.2.2.2.2.1))), (qo, .inl (cI, 16, .inl (x.2.2.2.2.2.2.2.2.2.2.2.2.2.2.1)))] H ∧ va_D A [(hq, .inr (3, [.ref qm, .ref qf, .ref ql, .int (x.2.2.2.1), .int (x.2.2.2.2.1), .int (x.2.2.2.2.2.1), .int (x.2.2.2.2.2.2.1), .int (x.2.2.2.2.2.2.2.1), .int (x.2.2.2.2.2.2.2.2.1), .int (x.2.2.2.2.2.2.2.2.2.1), .int (x.2.2.2.2.2.2.2.2.2.2.1), .int (x.2.2.2.2.2.2.2.2.2.2.2.1), .ref qi, .int (x.2.2.2.2.2.2.2.2.2.2.2.2.2.1), .ref qo, .int (x.2.2.2.2.2.2.2.2.2.2.2.2.2.2.2.1)])), (qm, .inl (cI, 104, .inl (x.1))), (qf, .inl (cI, 104, .inl (x.2.1))), (ql, .inl (cI, 4, .inl (x.2.2.1))), (qi, .inl (cI, 24, .inl (x.2.2.2.2.2.2.2.2.2.2.2.2.1))), (qo, .inl (cI, 16, .inl (x.2.2.2.2.2.2.2.2.2.2.2.2.2.2.1)))] ∧ va_S A s.heap H locs ∧ lv_has ls 4 [(0, .ref hq), (1, .int (x.2.2.2.2.2.2.2.2.2.2.2.2.2.2.2.2.1)), (2, .int (x.2.2.2.2.2.2.2.2.2.2.2.2.2.2.2.2.2.1)), (3, .int (x.2.2.2.2.2.2.2.2.2.2.2.2.2.2.2.2.2.2))] ∧ fRf_change_L9 n (x.1, x.2.1, x.2.2.1, x.2.2.2.1, x.2.2.2.2.1, x.2.2.2.2.2.1, x.2.2.2.2.2.2.1, x.2.2.2.2.2.2.2.1, x.2.2.2.2.2.2.2.2.1, x.2.2.2.2.2.2.2.2.2.1, x.2.2.2.2.2.2.2.2.2.2.1, x.2.2.2.2.2.2.2.2.2.2.2.1, x.2.2.2.2.2.2.2.2.2.2.2.2.1, x.2.2.2.2.2.2.2.2.2.2.2.2.2.1, x.2.2.2.2.2.2.2.2.2.2.2.2.2.2.1, x.2.2.2.2.2.2.2.2.2.2.2.2.2.2.2.1) x.2.2.2.2.2.2.2.2.2.2.2.2.2.2.2.2.1 x.2.2.2.2.2.2.2.2.2.2.2.2.2.2.2.2.2.1 x.2.2.2.2.2.2.2.2.2.2.2.2.2.2.2.2.2.2 = some (r, nm', nb', nl', nc', nd', nf', na', nz', no', ns', nv', np', ni', nn', nu', nt')) ?_ (fun x H locs ls h => by have h9 := h.2.2.2.2; rw [fRf_change_L9] at h9; cases h9) 300 (nm, nb, nl, nc, nd, nf, na, nz, no, ns, nv, np, ni, nn, nu, nt, a1, a2, 0) _ _ ls ⟨hP, hD, hS, hl, hf⟩
  intro n ih x H locs ls hI
  obtain ⟨nm, nb, nl, nc, nd, nf, na, nz, no, ns, nv, np, ni, nn, nu, nt, v1, v2, v3⟩ := x
  obtain ⟨hP, hD, hS, hl, hf⟩ := hI
  have hP : va_P (dC, dI) vwCl [(hq, .inr (3, [.ref qm, .ref qf, .ref ql, .int nc, .int nd, .int nf, .int na, .int nz, .int no, .int ns, .int nv, .int np, .ref qi, .int nn, .ref qo, .int nt])), (qm, .inl (cI, 104, .inl nm)), (qf, .inl (cI, 104, .inl nb)), (ql, .inl (cI, 4, .inl nl)), (qi, .inl (cI, 24, .inl ni)), (qo, .inl (cI, 16, .inl nu))] H := hP
  have hD : va_D A [(hq, .inr (3, [.ref qm, .ref qf, .ref ql, .int nc, .int nd, .int nf, .int na, .int nz, .int no, .int ns, .int nv, .int np, .ref qi, .int nn, .ref qo, .int nt])), (qm, .inl (cI, 104, .inl nm)), (qf, .inl (cI, 104, .inl nb)), (ql, .inl (cI, 4, .inl nl)), (qi, .inl (cI, 24, .inl ni)), (qo, .inl (cI, 16, .inl nu))] := hD
  have hl : lv_has ls 4 [(0, .ref hq), (1, .int v1), (2, .int v2), (3, .int v3)] := hl
  rw [fRf_change_L9] at hf
  refine lv_iload_n hx hb d_Rf_change_9 rfl (lv_at hl 3 rfl) ?_
  refine lv_bipush (v := 104) hx hb d_Rf_change_10 (by decide) ?_
  refine lv_icmp_ge (tgt := 33) hx hb d_Rf_change_12 rfl (fun hc7 => ?_) (fun hc7 => ?_)
  · have hf := ift hf hc7
    refine lv_aload_n hx hb d_Rf_change_33 rfl (lv_at hl 0 rfl) ?_
    refine lv_iconst (v := 3) hx hb d_Rf_change_34 (by decide) ?_
    obtain ⟨r8, nm8, nb8, nl8, nc8, nd8, nf8, na8, nz8, no8, ns8, nv8, np8, ni8, nn8, nu8, nt8, hg, hf⟩ := bd17_some hf
    refine xcz (wr := []) (ctRf_several l dC dI cI hq qm qf ql qi qo nm nb nl nc nd nf na nz no ns nv np ni nn nu nt 3 r8 nm8 nb8 nl8 nc8 nd8 nf8 na8 nz8 no8 ns8 nv8 np8 ni8 nn8 nu8 nt8 hg) ⟨hx, hb, hml, hown, hts⟩ (cwV (C := R_Rf) 1 hts (gV wq471 wq473 wq24 wq46 wq474) rfl rfl rfl (by decide +kernel) ⟨Nat.le_of_ble_eq_true rfl, Nat.le_of_ble_eq_true rfl⟩) hK hP hD hS hA [0, 1, 2, 3, 4, 5] [] rfl rfl rfl rfl (by decide) (ci := 3) (q0 := 0) rfl rfl rfl rfl hl.1 rfl (Nat.le_of_ble_eq_true rfl) d_Rf_change_35 ⟨Nat.zero_le _, Nat.zero_le _⟩ (fun H locs hn8 hP hD hS => ?_)
    have hP : va_P (dC, dI) vwCl [(hq, .inr (3, [.ref qm, .ref qf, .ref ql, .int nc8, .int nd8, .int nf8, .int na8, .int nz8, .int no8, .int ns8, .int nv8, .int np8, .ref qi, .int nn8, .ref qo, .int nt8])), (qm, .inl (cI, 104, .inl nm8)), (qf, .inl (cI, 104, .inl nb8)), (ql, .inl (cI, 4, .inl nl8)), (qi, .inl (cI, 24, .inl ni8)), (qo, .inl (cI, 16, .inl nu8))] H := hP
    have hD : va_D A [(hq, .inr (3, [.ref qm, .ref qf, .ref ql, .int nc8, .int nd8, .int nf8, .int na8, .int nz8, .int no8, .int ns8, .int nv8, .int np8, .ref qi, .int nn8, .ref qo, .int nt8])), (qm, .inl (cI, 104, .inl nm8)), (qf, .inl (cI, 104, .inl nb8)), (ql, .inl (cI, 4, .inl nl8)), (qi, .inl (cI, 24, .inl ni8)), (qo, .inl (cI, 16, .inl nu8))] := hD
    refine lv_if_ne (tgt := 43) hx hb d_Rf_change_38 rfl (fun hc9 => ?_) (fun hc9 => ?_)
    · have hf := ifn hf hc9
      refine lv_aload_n hx hb d_Rf_change_43 rfl (lv_at hl 0 rfl) ?_
      refine lv_dup hx hb d_Rf_change_44 rfl ?_
      refine va_get (D := (dC, dI)) (ci := 3) (v := .int nc8) (C := R_Rf) (T := F_Rf) (N := 16) hx hb hts inRf hown hK hP 0 rfl rfl 3 (by decide) kf64 (fun _ h9 => h9) rfl d_Rf_change_45 ?_
      refine lv_iconst (v := 1) hx hb d_Rf_change_48 (by decide) ?_
      refine lv_iadd hx hb d_Rf_change_49 ?_
      refine va_put (D := (dC, dI)) (ci := 3) (v := .int (nc8 + 1)) (ty := .int) (C := R_Rf) (T := F_Rf) (N := 16) hx hb hts inRf t_Rf t_Rf_ok n_Rf hown hK hP hD hS 0 rfl rfl 3 (by decide) kf64 (fun _ h9 => h9) rfl (by decide +kernel) rfl rfl (Nat.le_of_ble_eq_true rfl) d_Rf_change_50 (fun H locs hP hD hS => ?_)
      have hP : va_P (dC, dI) vwCl [(hq, .inr (3, [.ref qm, .ref qf, .ref ql, .int (nc8 + 1), .int nd8, .int nf8, .int na8, .int nz8, .int no8, .int ns8, .int nv8, .int np8, .ref qi, .int nn8, .ref qo, .int nt8])), (qm, .inl (cI, 104, .inl nm8)), (qf, .inl (cI, 104, .inl nb8)), (ql, .inl (cI, 4, .inl nl8)), (qi, .inl (cI, 24, .inl ni8)), (qo, .inl (cI, 16, .inl nu8))] H := hP
      have hD : va_D A [(hq, .inr (3, [.ref qm, .ref qf, .ref ql, .int (nc8 + 1), .int nd8, .int nf8, .int na8, .int nz8, .int no8, .int ns8, .int nv8, .int np8, .ref qi, .int nn8, .ref qo, .int nt8])), (qm, .inl (cI, 104, .inl nm8)), (qf, .inl (cI, 104, .inl nb8)), (ql, .inl (cI, 4, .inl nl8)), (qi, .inl (cI, 24, .inl ni8)), (qo, .inl (cI, 16, .inl nu8))] := hD
      refine lv_aload_n hx hb d_Rf_change_53 rfl (lv_at hl 0 rfl) ?_
      obtain ⟨r10, nm10, nb10, nl10, nc10, nd10, nf10, na10, nz10, no10, ns10, nv10, np10, ni10, nn10, nu10, nt10, hg, hf⟩ := bd17_some hf
      refine xcz (wr := []) (ctRf_write l dC dI cI hq qm qf ql qi qo nm8 nb8 nl8 (nc8 + 1) nd8 nf8 na8 nz8 no8 ns8 nv8 np8 ni8 nn8 nu8 nt8 r10 nm10 nb10 nl10 nc10 nd10 nf10 na10 nz10 no10 ns10 nv10 np10 ni10 nn10 nu10 nt10 hg) ⟨hx, hb, hml, hown, hts⟩ (cwV (C := R_Rf) 0 hts (gV wq475 wq477 wq25 wq46 wq478) rfl rfl rfl (by decide +kernel) ⟨Nat.le_of_ble_eq_true rfl, Nat.le_of_ble_eq_true rfl⟩) hK hP hD hS hA [0, 1, 2, 3, 4, 5] [] rfl rfl rfl rfl (by decide) (ci := 3) (q0 := 0) rfl rfl rfl rfl hl.1 rfl (Nat.le_of_ble_eq_true rfl) d_Rf_change_54 ⟨Nat.zero_le _, Nat.zero_le _⟩ (fun H locs hn10 hP hD hS => ?_)
      have hP : va_P (dC, dI) vwCl [(hq, .inr (3, [.ref qm, .ref qf, .ref ql, .int nc10, .int nd10, .int nf10, .int na10, .int nz10, .int no10, .int ns10, .int nv10, .int np10, .ref qi, .int nn10, .ref qo, .int nt10])), (qm, .inl (cI, 104, .inl nm10)), (qf, .inl (cI, 104, .inl nb10)), (ql, .inl (cI, 4, .inl nl10)), (qi, .inl (cI, 24, .inl ni10)), (qo, .inl (cI, 16, .inl nu10))] H := hP
      have hD : va_D A [(hq, .inr (3, [.ref qm, .ref qf, .ref ql, .int nc10, .int nd10, .int nf10, .int na10, .int nz10, .int no10, .int ns10, .int nv10, .int np10, .ref qi, .int nn10, .ref qo, .int nt10])), (qm, .inl (cI, 104, .inl nm10)), (qf, .inl (cI, 104, .inl nb10)), (ql, .inl (cI, 4, .inl nl10)), (qi, .inl (cI, 24, .inl ni10)), (qo, .inl (cI, 16, .inl nu10))] := hD
      refine lv_if_ne (tgt := 62) hx hb d_Rf_change_57 rfl (fun hc11 => ?_) (fun hc11 => ?_)
      · have hf := ifn hf hc11
        refine lv_aload_n hx hb d_Rf_change_62 rfl (lv_at hl 0 rfl) ?_
        refine va_get (D := (dC, dI)) (ci := 3) (v := .ref qm) (C := R_Rf) (T := F_Rf) (N := 16) hx hb hts inRf hown hK hP 0 rfl rfl 0 (by decide) kf7 (fun _ h9 => h9) rfl d_Rf_change_63 ?_
        refine lv_iload_n hx hb d_Rf_change_66 rfl (lv_at hl 1 rfl) ?_
        refine lv_iload_n hx hb d_Rf_change_67 rfl (lv_at hl 2 rfl) ?_
        obtain ⟨hin_, hf⟩ := ix_some hf
        refine va_iast hx hb hK hP hD hS 1 0 rfl rfl hin_ d_Rf_change_68 (fun H locs hP hD hS => ?_)
        have hP : va_P (dC, dI) vwCl [(hq, .inr (3, [.ref qm, .ref qf, .ref ql, .int nc10, .int nd10, .int nf10, .int na10, .int nz10, .int no10, .int ns10, .int nv10, .int np10, .ref qi, .int nn10, .ref qo, .int nt10])), (qm, .inl (cI, 104, .inl (upd nm10 (v1 : Int32).toNatClampNeg v2))), (qf, .inl (cI, 104, .inl nb10)), (ql, .inl (cI, 4, .inl nl10)), (qi, .inl (cI, 24, .inl ni10)), (qo, .inl (cI, 16, .inl nu10))] H := hP
        have hD : va_D A [(hq, .inr (3, [.ref qm, .ref qf, .ref ql, .int nc10, .int nd10, .int nf10, .int na10, .int nz10, .int no10, .int ns10, .int nv10, .int np10, .ref qi, .int nn10, .ref qo, .int nt10])), (qm, .inl (cI, 104, .inl (upd nm10 (v1 : Int32).toNatClampNeg v2))), (qf, .inl (cI, 104, .inl nb10)), (ql, .inl (cI, 4, .inl nl10)), (qi, .inl (cI, 24, .inl ni10)), (qo, .inl (cI, 16, .inl nu10))] := hD
        refine lv_iconst (v := 1) hx hb d_Rf_change_69 (by decide) ?_
        obtain ⟨e1_, e2_, e3_, e4_, e5_, e6_, e7_, e8_, e9_, e10_, e11_, e12_, e13_, e14_, e15_, e16_, e17_⟩ := lf17 hf
        subst e1_; subst e2_; subst e3_; subst e4_; subst e5_; subst e6_; subst e7_; subst e8_; subst e9_; subst e10_; subst e11_; subst e12_; subst e13_; subst e14_; subst e15_; subst e16_; subst e17_
        have hP9 := hP.sub (ws' := [(hq, .inr (3, [.ref qm, .ref qf, .ref ql, .int nc10, .int nd10, .int nf10, .int na10, .int nz10, .int no10, .int ns10, .int nv10, .int np10, .ref qi, .int nn10, .ref qo, .int nt10])), (qm, .inl (cI, 104, .inl (upd nm10 (v1 : Int32).toNatClampNeg v2))), (qf, .inl (cI, 104, .inl nb10)), (ql, .inl (cI, 4, .inl nl10)), (qi, .inl (cI, 24, .inl ni10)), (qo, .inl (cI, 16, .inl nu10))]) [0, 1, 2, 3, 4, 5] rfl
        have hD9 := hD.sub (ws' := [(hq, .inr (3, [.ref qm, .ref qf, .ref ql, .int nc10, .int nd10, .int nf10, .int na10, .int nz10, .int no10, .int ns10, .int nv10, .int np10, .ref qi, .int nn10, .ref qo, .int nt10])), (qm, .inl (cI, 104, .inl (upd nm10 (v1 : Int32).toNatClampNeg v2))), (qf, .inl (cI, 104, .inl nb10)), (ql, .inl (cI, 4, .inl nl10)), (qi, .inl (cI, 24, .inl ni10)), (qo, .inl (cI, 16, .inl nu10))]) [0, 1, 2, 3, 4, 5] (by decide) rfl
        exact W.zret (v := 1) (ty := .boolean) hx hb hr rfl (fun t ht hW => ⟨⟨1, (), rfl, ⟨rfl, rfl⟩, by rw [ht]; exact hP9, va_K.moved hW.alike hK, hD9⟩, hS.F ht⟩) hS.2.2 d_Rf_change_70
      have hf := ift hf hc11
      refine lv_iconst (v := 0) hx hb d_Rf_change_60 (by decide) ?_
      obtain ⟨e1_, e2_, e3_, e4_, e5_, e6_, e7_, e8_, e9_, e10_, e11_, e12_, e13_, e14_, e15_, e16_, e17_⟩ := lf17 hf
      subst e1_; subst e2_; subst e3_; subst e4_; subst e5_; subst e6_; subst e7_; subst e8_; subst e9_; subst e10_; subst e11_; subst e12_; subst e13_; subst e14_; subst e15_; subst e16_; subst e17_
      have hP9 := hP.sub (ws' := [(hq, .inr (3, [.ref qm, .ref qf, .ref ql, .int nc10, .int nd10, .int nf10, .int na10, .int nz10, .int no10, .int ns10, .int nv10, .int np10, .ref qi, .int nn10, .ref qo, .int nt10])), (qm, .inl (cI, 104, .inl nm10)), (qf, .inl (cI, 104, .inl nb10)), (ql, .inl (cI, 4, .inl nl10)), (qi, .inl (cI, 24, .inl ni10)), (qo, .inl (cI, 16, .inl nu10))]) [0, 1, 2, 3, 4, 5] rfl
      have hD9 := hD.sub (ws' := [(hq, .inr (3, [.ref qm, .ref qf, .ref ql, .int nc10, .int nd10, .int nf10, .int na10, .int nz10, .int no10, .int ns10, .int nv10, .int np10, .ref qi, .int nn10, .ref qo, .int nt10])), (qm, .inl (cI, 104, .inl nm10)), (qf, .inl (cI, 104, .inl nb10)), (ql, .inl (cI, 4, .inl nl10)), (qi, .inl (cI, 24, .inl ni10)), (qo, .inl (cI, 16, .inl nu10))]) [0, 1, 2, 3, 4, 5] (by decide) rfl
      exact W.zret (v := 0) (ty := .boolean) hx hb hr rfl (fun t ht hW => ⟨⟨0, (), rfl, ⟨rfl, rfl⟩, by rw [ht]; exact hP9, va_K.moved hW.alike hK, hD9⟩, hS.F ht⟩) hS.2.2 d_Rf_change_61
    have hf := ift hf hc9
    refine lv_iconst (v := 0) hx hb d_Rf_change_41 (by decide) ?_
    obtain ⟨e1_, e2_, e3_, e4_, e5_, e6_, e7_, e8_, e9_, e10_, e11_, e12_, e13_, e14_, e15_, e16_, e17_⟩ := lf17 hf
    subst e1_; subst e2_; subst e3_; subst e4_; subst e5_; subst e6_; subst e7_; subst e8_; subst e9_; subst e10_; subst e11_; subst e12_; subst e13_; subst e14_; subst e15_; subst e16_; subst e17_
    have hP9 := hP.sub (ws' := [(hq, .inr (3, [.ref qm, .ref qf, .ref ql, .int nc8, .int nd8, .int nf8, .int na8, .int nz8, .int no8, .int ns8, .int nv8, .int np8, .ref qi, .int nn8, .ref qo, .int nt8])), (qm, .inl (cI, 104, .inl nm8)), (qf, .inl (cI, 104, .inl nb8)), (ql, .inl (cI, 4, .inl nl8)), (qi, .inl (cI, 24, .inl ni8)), (qo, .inl (cI, 16, .inl nu8))]) [0, 1, 2, 3, 4, 5] rfl
    have hD9 := hD.sub (ws' := [(hq, .inr (3, [.ref qm, .ref qf, .ref ql, .int nc8, .int nd8, .int nf8, .int na8, .int nz8, .int no8, .int ns8, .int nv8, .int np8, .ref qi, .int nn8, .ref qo, .int nt8])), (qm, .inl (cI, 104, .inl nm8)), (qf, .inl (cI, 104, .inl nb8)), (ql, .inl (cI, 4, .inl nl8)), (qi, .inl (cI, 24, .inl ni8)), (qo, .inl (cI, 16, .inl nu8))]) [0, 1, 2, 3, 4, 5] (by decide) rfl
    exact W.zret (v := 0) (ty := .boolean) hx hb hr rfl (fun t ht hW => ⟨⟨0, (), rfl, ⟨rfl, rfl⟩, by rw [ht]; exact hP9, va_K.moved hW.alike hK, hD9⟩, hS.F ht⟩) hS.2.2 d_Rf_change_42
  have hf := ifn hf hc7
  refine lv_aload_n hx hb d_Rf_change_15 rfl (lv_at hl 0 rfl) ?_
  refine va_get (D := (dC, dI)) (ci := 3) (v := .ref qf) (C := R_Rf) (T := F_Rf) (N := 16) hx hb hts inRf hown hK hP 0 rfl rfl 1 (by decide) kf13 (fun _ h9 => h9) rfl d_Rf_change_16 ?_
  refine lv_iload_n hx hb d_Rf_change_19 rfl (lv_at hl 3 rfl) ?_
  refine lv_aload_n hx hb d_Rf_change_20 rfl (lv_at hl 0 rfl) ?_
  refine va_get (D := (dC, dI)) (ci := 3) (v := .ref qm) (C := R_Rf) (T := F_Rf) (N := 16) hx hb hts inRf hown hK hP 0 rfl rfl 0 (by decide) kf7 (fun _ h9 => h9) rfl d_Rf_change_21 ?_
  refine lv_iload_n hx hb d_Rf_change_24 rfl (lv_at hl 3 rfl) ?_
  obtain ⟨hin_, hf⟩ := ix_some hf
  refine va_iald hx hb hK hP 1 0 rfl rfl hin_ d_Rf_change_25 ?_
  obtain ⟨hin_, hf⟩ := ix_some hf
  refine va_iast hx hb hK hP hD hS 2 0 rfl rfl hin_ d_Rf_change_26 (fun H locs hP hD hS => ?_)
  have hP : va_P (dC, dI) vwCl [(hq, .inr (3, [.ref qm, .ref qf, .ref ql, .int nc, .int nd, .int nf, .int na, .int nz, .int no, .int ns, .int nv, .int np, .ref qi, .int nn, .ref qo, .int nt])), (qm, .inl (cI, 104, .inl nm)), (qf, .inl (cI, 104, .inl (upd nb (v3 : Int32).toNatClampNeg (nm (v3 : Int32).toNatClampNeg)))), (ql, .inl (cI, 4, .inl nl)), (qi, .inl (cI, 24, .inl ni)), (qo, .inl (cI, 16, .inl nu))] H := hP
  have hD : va_D A [(hq, .inr (3, [.ref qm, .ref qf, .ref ql, .int nc, .int nd, .int nf, .int na, .int nz, .int no, .int ns, .int nv, .int np, .ref qi, .int nn, .ref qo, .int nt])), (qm, .inl (cI, 104, .inl nm)), (qf, .inl (cI, 104, .inl (upd nb (v3 : Int32).toNatClampNeg (nm (v3 : Int32).toNatClampNeg)))), (ql, .inl (cI, 4, .inl nl)), (qi, .inl (cI, 24, .inl ni)), (qo, .inl (cI, 16, .inl nu))] := hD
  refine lv_iinc (v := v3 + 1) hx hb d_Rf_change_27 hl (k := 3) rfl rfl (by decide) rfl (fun ls hl => ?_)
  have hl : lv_has ls 4 [(3, .int (v3 + 1)), (0, .ref hq), (1, .int v1), (2, .int v2)] := hl
  refine lv_goto (tgt := 9) hx hb d_Rf_change_30 rfl ?_
  have hl := lv_sub (l' := [(0, .ref hq), (1, .int v1), (2, .int v2), (3, .int (v3 + 1))]) hl [1, 2, 3, 0] rfl
  exact ih (nm, upd nb (v3 : Int32).toNatClampNeg (nm (v3 : Int32).toNatClampNeg), nl, nc, nd, nf, na, nz, no, ns, nv, np, ni, nn, nu, nt, v1, v2, v3 + 1) _ _ ls ⟨hP, hD, hS, hl, hf⟩
theorem d_Rf_settle_0 : decode b_Rf_settle 0 = .ok (.aload_n 0, 1) := by decide +kernel
theorem d_Rf_settle_1 : decode b_Rf_settle 1 = .ok (.getfield 64, 3) := by decide +kernel
theorem d_Rf_settle_4 : decode b_Rf_settle 4 = .ok (.ifCond .ne 5, 3) := by decide +kernel
theorem d_Rf_settle_7 : decode b_Rf_settle 7 = .ok (.iconst 1, 1) := by decide +kernel
theorem d_Rf_settle_8 : decode b_Rf_settle 8 = .ok (.ireturn, 1) := by decide +kernel
theorem d_Rf_settle_9 : decode b_Rf_settle 9 = .ok (.aload_n 0, 1) := by decide +kernel
theorem d_Rf_settle_10 : decode b_Rf_settle 10 = .ok (.invokevirtual 60, 3) := by decide +kernel
theorem d_Rf_settle_13 : decode b_Rf_settle 13 = .ok (.ifCond .ne 5, 3) := by decide +kernel
theorem d_Rf_settle_16 : decode b_Rf_settle 16 = .ok (.iconst 0, 1) := by decide +kernel
theorem d_Rf_settle_17 : decode b_Rf_settle 17 = .ok (.ireturn, 1) := by decide +kernel
theorem d_Rf_settle_18 : decode b_Rf_settle 18 = .ok (.aload_n 0, 1) := by decide +kernel
theorem d_Rf_settle_19 : decode b_Rf_settle 19 = .ok (.iconst 0, 1) := by decide +kernel
theorem d_Rf_settle_20 : decode b_Rf_settle 20 = .ok (.putfield 64, 3) := by decide +kernel
theorem d_Rf_settle_23 : decode b_Rf_settle 23 = .ok (.iconst 1, 1) := by decide +kernel
theorem d_Rf_settle_24 : decode b_Rf_settle 24 = .ok (.ireturn, 1) := by decide +kernel
def fRf_settle (σ : StR) : Option (Int32 × StR) := match σ with | (nm, nb, nl, nc, nd, nf, na, nz, no, ns, nv, np, ni, nn, nu, nt) => if nc = 0 then (some (1, nm, nb, nl, nc, nd, nf, na, nz, no, ns, nv, np, ni, nn, nu, nt)) else (bd17 (fRf_write (nm, nb, nl, nc, nd, nf, na, nz, no, ns, nv, np, ni, nn, nu, nt)) fun r2 nm2 nb2 nl2 nc2 nd2 nf2 na2 nz2 no2 ns2 nv2 np2 ni2 nn2 nu2 nt2 => if r2 = 0 then (some (0, nm2, nb2, nl2, nc2, nd2, nf2, na2, nz2, no2, ns2, nv2, np2, ni2, nn2, nu2, nt2)) else (some (1, nm2, nb2, nl2, 0, nd2, nf2, na2, nz2, no2, ns2, nv2, np2, ni2, nn2, nu2, nt2)))
set_option maxHeartbeats 4000000 in
set_option maxRecDepth 100000 in
theorem ctRf_settle (l : Launch) (dC : Nat → ClassId) (dI : Nat → Nat → Nat) (cI : ClassId) (hq qm qf ql qi qo : Nat) (nm : Nat → Int32) (nb : Nat → Int32) (nl : Nat → Int32) (nc : Int32) (nd : Int32) (nf : Int32) (na : Int32) (nz : Int32) (no : Int32) (ns : Int32) (nv : Int32) (np : Int32) (ni : Nat → Int32) (nn : Int32) (nu : Nat → Int32) (nt : Int32) (r : Int32) (nm' : Nat → Int32) (nb' : Nat → Int32) (nl' : Nat → Int32) (nc' : Int32) (nd' : Int32) (nf' : Int32) (na' : Int32) (nz' : Int32) (no' : Int32) (ns' : Int32) (nv' : Int32) (np' : Int32) (ni' : Nat → Int32) (nn' : Int32) (nu' : Nat → Int32) (nt' : Int32) (hf : fRf_settle (nm, nb, nl, nc, nd, nf, na, nz, no, ns, nv, np, ni, nn, nu, nt) = some (r, nm', nb', nl', nc', nd', nf', na', nz', no', ns', nv', np', ni', nn', nu', nt')) : CtZ l y_Rf_settle w_Rf_settle ({ frames := 2, cells := 0, slots := 0, locals := 40 }) (dC, dI) [(cI, .int)] [.ref hq] [(hq, .inr (3, [.ref qm, .ref qf, .ref ql, .int nc, .int nd, .int nf, .int na, .int nz, .int no, .int ns, .int nv, .int np, .ref qi, .int nn, .ref qo, .int nt])), (qm, .inl (cI, 104, .inl nm)), (qf, .inl (cI, 104, .inl nb)), (ql, .inl (cI, 4, .inl nl)), (qi, .inl (cI, 24, .inl ni)), (qo, .inl (cI, 16, .inl nu))] [(hq, .inr (3, [.ref qm, .ref qf, .ref ql, .int nc', .int nd', .int nf', .int na', .int nz', .int no', .int ns', .int nv', .int np', .ref qi, .int nn', .ref qo, .int nt'])), (qm, .inl (cI, 104, .inl nm')), (qf, .inl (cI, 104, .inl nb')), (ql, .inl (cI, 4, .inl nl')), (qi, .inl (cI, 24, .inl ni')), (qo, .inl (cI, 16, .inl nu'))] r := by
  intro sz
  refine Met.ofW (cc := b_Rf_settle) (maxL := 1) (ret := some .boolean) (by decide) rfl ?_
  intro p e s m args below meth c s₁ B hml hv
  obtain ⟨rfl, hsz, hP, hK, hD0⟩ := hv
  have hx := B.exec
  have hb := B.bytes
  have hr := B.returns
  have hts := atoms_spec (ws := w_Rf_settle) B.pre
  have hown : s.vm.findClass R_Rf = some m.cls := findClass_of_methodNamed B.named
  have hlocks := B.notSynchronized
  subst hsz
  have hD := hD0.self (sz := s.heap.size)
  generalize hAe : va_A [(hq, .inr (3, [.ref qm, .ref qf, .ref ql, .int nc, .int nd, .int nf, .int na, .int nz, .int no, .int ns, .int nv, .int np, .ref qi, .int nn, .ref qo, .int nt])), (qm, .inl (cI, 104, .inl nm)), (qf, .inl (cI, 104, .inl nb)), (ql, .inl (cI, 4, .inl nl)), (qi, .inl (cI, 24, .inl ni)), (qo, .inl (cI, 16, .inl nu))] s.heap.size = A at hD ⊢
  have hA : ∀ q : Nat, s.heap.size ≤ q → A q := fun q h => by rw [← hAe]; exact Or.inr h
  have hS : va_S A s.heap s.heap [] := va_S.rf
  have hP : va_P (dC, dI) vwCl [(hq, .inr (3, [.ref qm, .ref qf, .ref ql, .int nc, .int nd, .int nf, .int na, .int nz, .int no, .int ns, .int nv, .int np, .ref qi, .int nn, .ref qo, .int nt])), (qm, .inl (cI, 104, .inl nm)), (qf, .inl (cI, 104, .inl nb)), (ql, .inl (cI, 4, .inl nl)), (qi, .inl (cI, 24, .inl ni)), (qo, .inl (cI, 16, .inl nu))] s.heap := hP
  have hl := lv_entry ([.ref hq]) (n := 1) (Nat.le_of_ble_eq_true rfl)
  rw [lg_entry_eq]
  generalize (lg_sl ([.ref hq]) ++ List.replicate (1 - (lg_sl ([.ref hq])).length) Slot.unset).toArray = ls at hl ⊢
  have hl : lv_has ls 1 [(0, .ref hq)] := hl
  have inRf : ∀ w ∈ u_ws R_Rf F_Rf 16, w ∈ w_Rf_settle := fun w h => List.mem_cons_of_mem _ (in_Rf w h)
  have kf64 := hts _ (List.mem_cons_of_mem _ wq409)
  rw [fRf_settle] at hf
  refine lv_aload_n hx hb d_Rf_settle_0 rfl (lv_at hl 0 rfl) ?_
  refine va_get (D := (dC, dI)) (ci := 3) (v := .int nc) (C := R_Rf) (T := F_Rf) (N := 16) hx hb hts inRf hown hK hP 0 rfl rfl 3 (by decide) kf64 (fun _ h9 => h9) rfl d_Rf_settle_1 ?_
  refine lv_if_ne (tgt := 9) hx hb d_Rf_settle_4 rfl (fun hc1 => ?_) (fun hc1 => ?_)
  · have hf := ifn hf hc1
    refine lv_aload_n hx hb d_Rf_settle_9 rfl (lv_at hl 0 rfl) ?_
    obtain ⟨r2, nm2, nb2, nl2, nc2, nd2, nf2, na2, nz2, no2, ns2, nv2, np2, ni2, nn2, nu2, nt2, hg, hf⟩ := bd17_some hf
    refine xcz (wr := []) (ctRf_write l dC dI cI hq qm qf ql qi qo nm nb nl nc nd nf na nz no ns nv np ni nn nu nt r2 nm2 nb2 nl2 nc2 nd2 nf2 na2 nz2 no2 ns2 nv2 np2 ni2 nn2 nu2 nt2 hg) ⟨hx, hb, hml, hown, hts⟩ (cwV (C := R_Rf) 0 hts (gV wq475 wq477 wq25 wq46 wq478) rfl rfl rfl (by decide +kernel) ⟨Nat.le_of_ble_eq_true rfl, Nat.le_of_ble_eq_true rfl⟩) hK hP hD hS hA [0, 1, 2, 3, 4, 5] [] rfl rfl rfl rfl (by decide) (ci := 3) (q0 := 0) rfl rfl rfl rfl hl.1 rfl (Nat.le_of_ble_eq_true rfl) d_Rf_settle_10 ⟨Nat.zero_le _, Nat.zero_le _⟩ (fun H locs hn2 hP hD hS => ?_)
    have hP : va_P (dC, dI) vwCl [(hq, .inr (3, [.ref qm, .ref qf, .ref ql, .int nc2, .int nd2, .int nf2, .int na2, .int nz2, .int no2, .int ns2, .int nv2, .int np2, .ref qi, .int nn2, .ref qo, .int nt2])), (qm, .inl (cI, 104, .inl nm2)), (qf, .inl (cI, 104, .inl nb2)), (ql, .inl (cI, 4, .inl nl2)), (qi, .inl (cI, 24, .inl ni2)), (qo, .inl (cI, 16, .inl nu2))] H := hP
    have hD : va_D A [(hq, .inr (3, [.ref qm, .ref qf, .ref ql, .int nc2, .int nd2, .int nf2, .int na2, .int nz2, .int no2, .int ns2, .int nv2, .int np2, .ref qi, .int nn2, .ref qo, .int nt2])), (qm, .inl (cI, 104, .inl nm2)), (qf, .inl (cI, 104, .inl nb2)), (ql, .inl (cI, 4, .inl nl2)), (qi, .inl (cI, 24, .inl ni2)), (qo, .inl (cI, 16, .inl nu2))] := hD
    refine lv_if_ne (tgt := 18) hx hb d_Rf_settle_13 rfl (fun hc3 => ?_) (fun hc3 => ?_)
    · have hf := ifn hf hc3
      refine lv_aload_n hx hb d_Rf_settle_18 rfl (lv_at hl 0 rfl) ?_
      refine lv_iconst (v := 0) hx hb d_Rf_settle_19 (by decide) ?_
      refine va_put (D := (dC, dI)) (ci := 3) (v := .int 0) (ty := .int) (C := R_Rf) (T := F_Rf) (N := 16) hx hb hts inRf t_Rf t_Rf_ok n_Rf hown hK hP hD hS 0 rfl rfl 3 (by decide) kf64 (fun _ h9 => h9) rfl (by decide +kernel) rfl rfl (Nat.le_of_ble_eq_true rfl) d_Rf_settle_20 (fun H locs hP hD hS => ?_)
      have hP : va_P (dC, dI) vwCl [(hq, .inr (3, [.ref qm, .ref qf, .ref ql, .int 0, .int nd2, .int nf2, .int na2, .int nz2, .int no2, .int ns2, .int nv2, .int np2, .ref qi, .int nn2, .ref qo, .int nt2])), (qm, .inl (cI, 104, .inl nm2)), (qf, .inl (cI, 104, .inl nb2)), (ql, .inl (cI, 4, .inl nl2)), (qi, .inl (cI, 24, .inl ni2)), (qo, .inl (cI, 16, .inl nu2))] H := hP
      have hD : va_D A [(hq, .inr (3, [.ref qm, .ref qf, .ref ql, .int 0, .int nd2, .int nf2, .int na2, .int nz2, .int no2, .int ns2, .int nv2, .int np2, .ref qi, .int nn2, .ref qo, .int nt2])), (qm, .inl (cI, 104, .inl nm2)), (qf, .inl (cI, 104, .inl nb2)), (ql, .inl (cI, 4, .inl nl2)), (qi, .inl (cI, 24, .inl ni2)), (qo, .inl (cI, 16, .inl nu2))] := hD
      refine lv_iconst (v := 1) hx hb d_Rf_settle_23 (by decide) ?_
      obtain ⟨e1_, e2_, e3_, e4_, e5_, e6_, e7_, e8_, e9_, e10_, e11_, e12_, e13_, e14_, e15_, e16_, e17_⟩ := lf17 hf
      subst e1_; subst e2_; subst e3_; subst e4_; subst e5_; subst e6_; subst e7_; subst e8_; subst e9_; subst e10_; subst e11_; subst e12_; subst e13_; subst e14_; subst e15_; subst e16_; subst e17_
      have hP9 := hP.sub (ws' := [(hq, .inr (3, [.ref qm, .ref qf, .ref ql, .int 0, .int nd2, .int nf2, .int na2, .int nz2, .int no2, .int ns2, .int nv2, .int np2, .ref qi, .int nn2, .ref qo, .int nt2])), (qm, .inl (cI, 104, .inl nm2)), (qf, .inl (cI, 104, .inl nb2)), (ql, .inl (cI, 4, .inl nl2)), (qi, .inl (cI, 24, .inl ni2)), (qo, .inl (cI, 16, .inl nu2))]) [0, 1, 2, 3, 4, 5] rfl
      have hD9 := hD.sub (ws' := [(hq, .inr (3, [.ref qm, .ref qf, .ref ql, .int 0, .int nd2, .int nf2, .int na2, .int nz2, .int no2, .int ns2, .int nv2, .int np2, .ref qi, .int nn2, .ref qo, .int nt2])), (qm, .inl (cI, 104, .inl nm2)), (qf, .inl (cI, 104, .inl nb2)), (ql, .inl (cI, 4, .inl nl2)), (qi, .inl (cI, 24, .inl ni2)), (qo, .inl (cI, 16, .inl nu2))]) [0, 1, 2, 3, 4, 5] (by decide) rfl
      exact W.zret (v := 1) (ty := .boolean) hx hb hr rfl (fun t ht hW => ⟨⟨1, (), rfl, ⟨rfl, rfl⟩, by rw [ht]; exact hP9, va_K.moved hW.alike hK, hD9⟩, hS.F ht⟩) hS.2.2 d_Rf_settle_24
    have hf := ift hf hc3
    refine lv_iconst (v := 0) hx hb d_Rf_settle_16 (by decide) ?_
    obtain ⟨e1_, e2_, e3_, e4_, e5_, e6_, e7_, e8_, e9_, e10_, e11_, e12_, e13_, e14_, e15_, e16_, e17_⟩ := lf17 hf
    subst e1_; subst e2_; subst e3_; subst e4_; subst e5_; subst e6_; subst e7_; subst e8_; subst e9_; subst e10_; subst e11_; subst e12_; subst e13_; subst e14_; subst e15_; subst e16_; subst e17_
    have hP9 := hP.sub (ws' := [(hq, .inr (3, [.ref qm, .ref qf, .ref ql, .int nc2, .int nd2, .int nf2, .int na2, .int nz2, .int no2, .int ns2, .int nv2, .int np2, .ref qi, .int nn2, .ref qo, .int nt2])), (qm, .inl (cI, 104, .inl nm2)), (qf, .inl (cI, 104, .inl nb2)), (ql, .inl (cI, 4, .inl nl2)), (qi, .inl (cI, 24, .inl ni2)), (qo, .inl (cI, 16, .inl nu2))]) [0, 1, 2, 3, 4, 5] rfl
    have hD9 := hD.sub (ws' := [(hq, .inr (3, [.ref qm, .ref qf, .ref ql, .int nc2, .int nd2, .int nf2, .int na2, .int nz2, .int no2, .int ns2, .int nv2, .int np2, .ref qi, .int nn2, .ref qo, .int nt2])), (qm, .inl (cI, 104, .inl nm2)), (qf, .inl (cI, 104, .inl nb2)), (ql, .inl (cI, 4, .inl nl2)), (qi, .inl (cI, 24, .inl ni2)), (qo, .inl (cI, 16, .inl nu2))]) [0, 1, 2, 3, 4, 5] (by decide) rfl
    exact W.zret (v := 0) (ty := .boolean) hx hb hr rfl (fun t ht hW => ⟨⟨0, (), rfl, ⟨rfl, rfl⟩, by rw [ht]; exact hP9, va_K.moved hW.alike hK, hD9⟩, hS.F ht⟩) hS.2.2 d_Rf_settle_17
  have hf := ift hf hc1
  refine lv_iconst (v := 1) hx hb d_Rf_settle_7 (by decide) ?_
  obtain ⟨e1_, e2_, e3_, e4_, e5_, e6_, e7_, e8_, e9_, e10_, e11_, e12_, e13_, e14_, e15_, e16_, e17_⟩ := lf17 hf
  subst e1_; subst e2_; subst e3_; subst e4_; subst e5_; subst e6_; subst e7_; subst e8_; subst e9_; subst e10_; subst e11_; subst e12_; subst e13_; subst e14_; subst e15_; subst e16_; subst e17_
  have hP9 := hP.sub (ws' := [(hq, .inr (3, [.ref qm, .ref qf, .ref ql, .int nc, .int nd, .int nf, .int na, .int nz, .int no, .int ns, .int nv, .int np, .ref qi, .int nn, .ref qo, .int nt])), (qm, .inl (cI, 104, .inl nm)), (qf, .inl (cI, 104, .inl nb)), (ql, .inl (cI, 4, .inl nl)), (qi, .inl (cI, 24, .inl ni)), (qo, .inl (cI, 16, .inl nu))]) [0, 1, 2, 3, 4, 5] rfl
  have hD9 := hD.sub (ws' := [(hq, .inr (3, [.ref qm, .ref qf, .ref ql, .int nc, .int nd, .int nf, .int na, .int nz, .int no, .int ns, .int nv, .int np, .ref qi, .int nn, .ref qo, .int nt])), (qm, .inl (cI, 104, .inl nm)), (qf, .inl (cI, 104, .inl nb)), (ql, .inl (cI, 4, .inl nl)), (qi, .inl (cI, 24, .inl ni)), (qo, .inl (cI, 16, .inl nu))]) [0, 1, 2, 3, 4, 5] (by decide) rfl
  exact W.zret (v := 1) (ty := .boolean) hx hb hr rfl (fun t ht hW => ⟨⟨1, (), rfl, ⟨rfl, rfl⟩, by rw [ht]; exact hP9, va_K.moved hW.alike hK, hD9⟩, hS.F ht⟩) hS.2.2 d_Rf_settle_8
theorem d_Rf_undo_0 : decode b_Rf_undo 0 = .ok (.aload_n 0, 1) := by decide +kernel
theorem d_Rf_undo_1 : decode b_Rf_undo 1 = .ok (.getfield 64, 3) := by decide +kernel
theorem d_Rf_undo_4 : decode b_Rf_undo 4 = .ok (.ifCond .ne 5, 3) := by decide +kernel
theorem d_Rf_undo_7 : decode b_Rf_undo 7 = .ok (.iconst 1, 1) := by decide +kernel
theorem d_Rf_undo_8 : decode b_Rf_undo 8 = .ok (.ireturn, 1) := by decide +kernel
theorem d_Rf_undo_9 : decode b_Rf_undo 9 = .ok (.aload_n 0, 1) := by decide +kernel
theorem d_Rf_undo_10 : decode b_Rf_undo 10 = .ok (.aload_n 0, 1) := by decide +kernel
theorem d_Rf_undo_11 : decode b_Rf_undo 11 = .ok (.getfield 64, 3) := by decide +kernel
theorem d_Rf_undo_14 : decode b_Rf_undo 14 = .ok (.iconst 1, 1) := by decide +kernel
theorem d_Rf_undo_15 : decode b_Rf_undo 15 = .ok (.iadd, 1) := by decide +kernel
theorem d_Rf_undo_16 : decode b_Rf_undo 16 = .ok (.invokevirtual 67, 3) := by decide +kernel
theorem d_Rf_undo_19 : decode b_Rf_undo 19 = .ok (.ifCond .ne 5, 3) := by decide +kernel
theorem d_Rf_undo_22 : decode b_Rf_undo 22 = .ok (.iconst 0, 1) := by decide +kernel
theorem d_Rf_undo_23 : decode b_Rf_undo 23 = .ok (.ireturn, 1) := by decide +kernel
theorem d_Rf_undo_24 : decode b_Rf_undo 24 = .ok (.iconst 0, 1) := by decide +kernel
theorem d_Rf_undo_25 : decode b_Rf_undo 25 = .ok (.istore_n 1, 1) := by decide +kernel
theorem d_Rf_undo_26 : decode b_Rf_undo 26 = .ok (.iload_n 1, 1) := by decide +kernel
theorem d_Rf_undo_27 : decode b_Rf_undo 27 = .ok (.bipush 104, 2) := by decide +kernel
theorem d_Rf_undo_29 : decode b_Rf_undo 29 = .ok (.if_icmp .ge 21, 3) := by decide +kernel
theorem d_Rf_undo_32 : decode b_Rf_undo 32 = .ok (.aload_n 0, 1) := by decide +kernel
theorem d_Rf_undo_33 : decode b_Rf_undo 33 = .ok (.getfield 7, 3) := by decide +kernel
theorem d_Rf_undo_36 : decode b_Rf_undo 36 = .ok (.iload_n 1, 1) := by decide +kernel
theorem d_Rf_undo_37 : decode b_Rf_undo 37 = .ok (.aload_n 0, 1) := by decide +kernel
theorem d_Rf_undo_38 : decode b_Rf_undo 38 = .ok (.getfield 13, 3) := by decide +kernel
theorem d_Rf_undo_41 : decode b_Rf_undo 41 = .ok (.iload_n 1, 1) := by decide +kernel
theorem d_Rf_undo_42 : decode b_Rf_undo 42 = .ok (.iaload, 1) := by decide +kernel
theorem d_Rf_undo_43 : decode b_Rf_undo 43 = .ok (.iastore, 1) := by decide +kernel
theorem d_Rf_undo_44 : decode b_Rf_undo 44 = .ok (.iinc 1 1, 3) := by decide +kernel
theorem d_Rf_undo_47 : decode b_Rf_undo 47 = .ok (.goto (-21), 3) := by decide +kernel
theorem d_Rf_undo_50 : decode b_Rf_undo 50 = .ok (.aload_n 0, 1) := by decide +kernel
theorem d_Rf_undo_51 : decode b_Rf_undo 51 = .ok (.iconst 0, 1) := by decide +kernel
theorem d_Rf_undo_52 : decode b_Rf_undo 52 = .ok (.putfield 64, 3) := by decide +kernel
theorem d_Rf_undo_55 : decode b_Rf_undo 55 = .ok (.iconst 1, 1) := by decide +kernel
theorem d_Rf_undo_56 : decode b_Rf_undo 56 = .ok (.ireturn, 1) := by decide +kernel
def fRf_undo_L26 : Nat → StR → Int32 → Option (Int32 × StR)
  | 0, _, _ => none
  | n + 1, (nm, nb, nl, nc, nd, nf, na, nz, no, ns, nv, np, ni, nn, nu, nt), v1 => if 104 ≤ v1 then (some (1, nm, nb, nl, 0, nd, nf, na, nz, no, ns, nv, np, ni, nn, nu, nt)) else (ix v1 104 fun j5 => ix v1 104 fun j6 => fRf_undo_L26 n (upd nm j6 (nb j5), nb, nl, nc, nd, nf, na, nz, no, ns, nv, np, ni, nn, nu, nt) (v1 + 1))
def fRf_undo (σ : StR) : Option (Int32 × StR) := match σ with | (nm, nb, nl, nc, nd, nf, na, nz, no, ns, nv, np, ni, nn, nu, nt) => if nc = 0 then (some (1, nm, nb, nl, nc, nd, nf, na, nz, no, ns, nv, np, ni, nn, nu, nt)) else (bd17 (fRf_several (nm, nb, nl, nc, nd, nf, na, nz, no, ns, nv, np, ni, nn, nu, nt) (nc + 1)) fun r2 nm2 nb2 nl2 nc2 nd2 nf2 na2 nz2 no2 ns2 nv2 np2 ni2 nn2 nu2 nt2 => if r2 = 0 then (some (0, nm2, nb2, nl2, nc2, nd2, nf2, na2, nz2, no2, ns2, nv2, np2, ni2, nn2, nu2, nt2)) else (fRf_undo_L26 300 (nm2, nb2, nl2, nc2, nd2, nf2, na2, nz2, no2, ns2, nv2, np2, ni2, nn2, nu2, nt2) 0))
set_option maxHeartbeats 4000000 in
set_option maxRecDepth 100000 in
theorem ctRf_undo (l : Launch) (dC : Nat → ClassId) (dI : Nat → Nat → Nat) (cI : ClassId) (hq qm qf ql qi qo : Nat) (nm : Nat → Int32) (nb : Nat → Int32) (nl : Nat → Int32) (nc : Int32) (nd : Int32) (nf : Int32) (na : Int32) (nz : Int32) (no : Int32) (ns : Int32) (nv : Int32) (np : Int32) (ni : Nat → Int32) (nn : Int32) (nu : Nat → Int32) (nt : Int32) (r : Int32) (nm' : Nat → Int32) (nb' : Nat → Int32) (nl' : Nat → Int32) (nc' : Int32) (nd' : Int32) (nf' : Int32) (na' : Int32) (nz' : Int32) (no' : Int32) (ns' : Int32) (nv' : Int32) (np' : Int32) (ni' : Nat → Int32) (nn' : Int32) (nu' : Nat → Int32) (nt' : Int32) (hf : fRf_undo (nm, nb, nl, nc, nd, nf, na, nz, no, ns, nv, np, ni, nn, nu, nt) = some (r, nm', nb', nl', nc', nd', nf', na', nz', no', ns', nv', np', ni', nn', nu', nt')) : CtZ l y_Rf_undo w_Rf_undo ({ frames := 3, cells := 0, slots := 0, locals := 62 }) (dC, dI) [(cI, .int)] [.ref hq] [(hq, .inr (3, [.ref qm, .ref qf, .ref ql, .int nc, .int nd, .int nf, .int na, .int nz, .int no, .int ns, .int nv, .int np, .ref qi, .int nn, .ref qo, .int nt])), (qm, .inl (cI, 104, .inl nm)), (qf, .inl (cI, 104, .inl nb)), (ql, .inl (cI, 4, .inl nl)), (qi, .inl (cI, 24, .inl ni)), (qo, .inl (cI, 16, .inl nu))] [(hq, .inr (3, [.ref qm, .ref qf, .ref ql, .int nc', .int nd', .int nf', .int na', .int nz', .int no', .int ns', .int nv', .int np', .ref qi, .int nn', .ref qo, .int nt'])), (qm, .inl (cI, 104, .inl nm')), (qf, .inl (cI, 104, .inl nb')), (ql, .inl (cI, 4, .inl nl')), (qi, .inl (cI, 24, .inl ni')), (qo, .inl (cI, 16, .inl nu'))] r := by
  intro sz
  refine Met.ofW (cc := b_Rf_undo) (maxL := 2) (ret := some .boolean) (by decide) rfl ?_
  intro p e s m args below meth c s₁ B hml hv
  obtain ⟨rfl, hsz, hP, hK, hD0⟩ := hv
  have hx := B.exec
  have hb := B.bytes
  have hr := B.returns
  have hts := atoms_spec (ws := w_Rf_undo) B.pre
  have hown : s.vm.findClass R_Rf = some m.cls := findClass_of_methodNamed B.named
  have hlocks := B.notSynchronized
  subst hsz
  have hD := hD0.self (sz := s.heap.size)
  generalize hAe : va_A [(hq, .inr (3, [.ref qm, .ref qf, .ref ql, .int nc, .int nd, .int nf, .int na, .int nz, .int no, .int ns, .int nv, .int np, .ref qi, .int nn, .ref qo, .int nt])), (qm, .inl (cI, 104, .inl nm)), (qf, .inl (cI, 104, .inl nb)), (ql, .inl (cI, 4, .inl nl)), (qi, .inl (cI, 24, .inl ni)), (qo, .inl (cI, 16, .inl nu))] s.heap.size = A at hD ⊢
  have hA : ∀ q : Nat, s.heap.size ≤ q → A q := fun q h => by rw [← hAe]; exact Or.inr h
  have hS : va_S A s.heap s.heap [] := va_S.rf
  have hP : va_P (dC, dI) vwCl [(hq, .inr (3, [.ref qm, .ref qf, .ref ql, .int nc, .int nd, .int nf, .int na, .int nz, .int no, .int ns, .int nv, .int np, .ref qi, .int nn, .ref qo, .int nt])), (qm, .inl (cI, 104, .inl nm)), (qf, .inl (cI, 104, .inl nb)), (ql, .inl (cI, 4, .inl nl)), (qi, .inl (cI, 24, .inl ni)), (qo, .inl (cI, 16, .inl nu))] s.heap := hP
  have hl := lv_entry ([.ref hq]) (n := 2) (Nat.le_of_ble_eq_true rfl)
  rw [lg_entry_eq]
  generalize (lg_sl ([.ref hq]) ++ List.replicate (2 - (lg_sl ([.ref hq])).length) Slot.unset).toArray = ls at hl ⊢
  have hl : lv_has ls 2 [(0, .ref hq)] := hl
  have inRf : ∀ w ∈ u_ws R_Rf F_Rf 16, w ∈ w_Rf_undo := fun w h => List.mem_cons_of_mem _ (in_Rf w h)
  have kf13 := hts _ (List.mem_cons_of_mem _ wq407)
  have kf64 := hts _ (List.mem_cons_of_mem _ wq409)
  have kf7 := hts _ (List.mem_cons_of_mem _ wq406)
  rw [fRf_undo] at hf
  refine lv_aload_n hx hb d_Rf_undo_0 rfl (lv_at hl 0 rfl) ?_
  refine va_get (D := (dC, dI)) (ci := 3) (v := .int nc) (C := R_Rf) (T := F_Rf) (N := 16) hx hb hts inRf hown hK hP 0 rfl rfl 3 (by decide) kf64 (fun _ h9 => h9) rfl d_Rf_undo_1 ?_
  refine lv_if_ne (tgt := 9) hx hb d_Rf_undo_4 rfl (fun hc1 => ?_) (fun hc1 => ?_)
  · have hf := ifn hf hc1
    refine lv_aload_n hx hb d_Rf_undo_9 rfl (lv_at hl 0 rfl) ?_
    refine lv_aload_n hx hb d_Rf_undo_10 rfl (lv_at hl 0 rfl) ?_
    refine va_get (D := (dC, dI)) (ci := 3) (v := .int nc) (C := R_Rf) (T := F_Rf) (N := 16) hx hb hts inRf hown hK hP 0 rfl rfl 3 (by decide) kf64 (fun _ h9 => h9) rfl d_Rf_undo_11 ?_
    refine lv_iconst (v := 1) hx hb d_Rf_undo_14 (by decide) ?_
    refine lv_iadd hx hb d_Rf_undo_15 ?_
    obtain ⟨r2, nm2, nb2, nl2, nc2, nd2, nf2, na2, nz2, no2, ns2, nv2, np2, ni2, nn2, nu2, nt2, hg, hf⟩ := bd17_some hf
    refine xcz (wr := []) (ctRf_several l dC dI cI hq qm qf ql qi qo nm nb nl nc nd nf na nz no ns nv np ni nn nu nt (nc + 1) r2 nm2 nb2 nl2 nc2 nd2 nf2 na2 nz2 no2 ns2 nv2 np2 ni2 nn2 nu2 nt2 hg) ⟨hx, hb, hml, hown, hts⟩ (cwV (C := R_Rf) 1 hts (gV wq471 wq473 wq24 wq46 wq474) rfl rfl rfl (by decide +kernel) ⟨Nat.le_of_ble_eq_true rfl, Nat.le_of_ble_eq_true rfl⟩) hK hP hD hS hA [0, 1, 2, 3, 4, 5] [] rfl rfl rfl rfl (by decide) (ci := 3) (q0 := 0) rfl rfl rfl rfl hl.1 rfl (Nat.le_of_ble_eq_true rfl) d_Rf_undo_16 ⟨Nat.zero_le _, Nat.zero_le _⟩ (fun H locs hn2 hP hD hS => ?_)
    have hP : va_P (dC, dI) vwCl [(hq, .inr (3, [.ref qm, .ref qf, .ref ql, .int nc2, .int nd2, .int nf2, .int na2, .int nz2, .int no2, .int ns2, .int nv2, .int np2, .ref qi, .int nn2, .ref qo, .int nt2])), (qm, .inl (cI, 104, .inl nm2)), (qf, .inl (cI, 104, .inl nb2)), (ql, .inl (cI, 4, .inl nl2)), (qi, .inl (cI, 24, .inl ni2)), (qo, .inl (cI, 16, .inl nu2))] H := hP
    have hD : va_D A [(hq, .inr (3, [.ref qm, .ref qf, .ref ql, .int nc2, .int nd2, .int nf2, .int na2, .int nz2, .int no2, .int ns2, .int nv2, .int np2, .ref qi, .int nn2, .ref qo, .int nt2])), (qm, .inl (cI, 104, .inl nm2)), (qf, .inl (cI, 104, .inl nb2)), (ql, .inl (cI, 4, .inl nl2)), (qi, .inl (cI, 24, .inl ni2)), (qo, .inl (cI, 16, .inl nu2))] := hD
    refine lv_if_ne (tgt := 24) hx hb d_Rf_undo_19 rfl (fun hc3 => ?_) (fun hc3 => ?_)
    · have hf := ifn hf hc3
      refine lv_iconst (v := 0) hx hb d_Rf_undo_24 (by decide) ?_
      refine lv_istore_n hx hb d_Rf_undo_25 rfl hl (by decide) rfl (fun ls hl => ?_)
      have hl : lv_has ls 2 [(1, .int 0), (0, .ref hq)] := hl
      have hl := lv_sub (l' := [(0, .ref hq), (1, .int 0)]) hl [1, 0] rfl
      refine xloop (σ := (Nat → Int32) × (Nat → Int32) × (Nat → Int32) × (Int32) × (Int32) × (Int32) × (Int32) × (Int32) × (Int32) × (Int32) × (Int32) × (Int32) × (Nat → Int32) × (Int32) × (Nat → Int32) × (Int32) × (Int32)) (pc := 26) (fun n x H locs ls => va_P (dC, dI) vwCl [(hq, .inr (3, [.ref qm, .ref qf, .ref ql, .int (x.2.2.2.1), .int (x.2.2.2.2.1), .int (x.2.2.2.2.2.1), .int (x.2.2.2.2.2.2.1), .int (x.2.2.2.2.2.2.2.1), .int (x.2.2.2.2.2.2.2.2.1), .int (x.2.2.2.2.2.2.2.2.2.1), .int (x.2.2.2.2.2.2.2.2.2.2.1), .int (x.2.2.2.2.2.2.2.2.2.2.2.1), .ref qi, .int (x.2.2.2.2.2.2.2.2.2.2.2.2.2.1), .ref qo, .int (x.2.2.2.2.2.2.2.2.2.2.2.2.2.2.2.1)])), (qm, .inl (cI, 104, .inl (x.1))), (qf, .inl (cI, 104, .inl (x.2.1))), (ql, .inl (cI, 4, .inl (x.2.2.1))), (qi, .inl (cI, 24, .inl (x.2.2.2.2.2.2.2.2.2.2.2.2.1))), (qo, .inl (cI, 16, .inl (x.2.2.2.2.2.2.2.2.2.2.2.2.2.2.1)))] H ∧ va_D A [(hq, .inr (3, [.ref qm, .ref qf, .ref ql, .int (x.2.2.2.1), .int (x.2.2.2.2.1), .int (x.2.2.2.2.2.1), .int (x.2.2.2.2.2.2.1), .int (x.2.2.2.2.2.2.2.1), .int (x.2.2.2.2.2.2.2.2.1), .int (x.2.2.2.2.2.2.2.2.2.1), .int (x.2.2.2.2.2.2.2.2.2.2.1), .int (x.2.2.2.2.2.2.2.2.2.2.2.1), .ref qi, .int (x.2.2.2.2.2.2.2.2.2.2.2.2.2.1), .ref qo, .int (x.2.2.2.2.2.2.2.2.2.2.2.2.2.2.2.1)])), (qm, .inl (cI, 104, .inl (x.1))), (qf, .inl (cI, 104, .inl (x.2.1))), (ql, .inl (cI, 4, .inl (x.2.2.1))), (qi, .inl (cI, 24, .inl (x.2.2.2.2.2.2.2.2.2.2.2.2.1))), (qo, .inl (cI, 16, .inl (x.2.2.2.2.2.2.2.2.2.2.2.2.2.2.1)))] ∧ va_S A s.heap H locs ∧ lv_has ls 2 [(0, .ref hq), (1, .int (x.2.2.2.2.2.2.2.2.2.2.2.2.2.2.2.2))] ∧ fRf_undo_L26 n (x.1, x.2.1, x.2.2.1, x.2.2.2.1, x.2.2.2.2.1, x.2.2.2.2.2.1, x.2.2.2.2.2.2.1, x.2.2.2.2.2.2.2.1, x.2.2.2.2.2.2.2.2.1, x.2.2.2.2.2.2.2.2.2.1, x.2.2.2.2.2.2.2.2.2.2.1, x.2.2.2.2.2.2.2.2.2.2.2.1, x.2.2.2.2.2.2.2.2.2.2.2.2.1, x.2.2.2.2.2.2.2.2.2.2.2.2.2.1, x.2.2.2.2.2.2.2.2.2.2.2.2.2.2.1, x.2.2.2.2.2.2.2.2.2.2.2.2.2.2.2.1) x.2.2.2.2.2.2.2.2.2.2.2.2.2.2.2.2 = some (r, nm', nb', nl', nc', nd', nf', na', nz', no', ns', nv', np', ni', nn', nu', nt')) ?_ (fun x H locs ls h => by have h9 := h.2.2.2.2; rw [fRf_undo_L26] at h9; cases h9) 300 (nm2, nb2, nl2, nc2, nd2, nf2, na2, nz2, no2, ns2, nv2, np2, ni2, nn2, nu2, nt2, 0) _ _ ls ⟨hP, hD, hS, hl, hf⟩
      intro n ih x H locs ls hI
      obtain ⟨nm, nb, nl, nc, nd, nf, na, nz, no, ns, nv, np, ni, nn, nu, nt, v1⟩ := x
      obtain ⟨hP, hD, hS, hl, hf⟩ := hI
      have hP : va_P (dC, dI) vwCl [(hq, .inr (3, [.ref qm, .ref qf, .ref ql, .int nc, .int nd, .int nf, .int na, .int nz, .int no, .int ns, .int nv, .int np, .ref qi, .int nn, .ref qo, .int nt])), (qm, .inl (cI, 104, .inl nm)), (qf, .inl (cI, 104, .inl nb)), (ql, .inl (cI, 4, .inl nl)), (qi, .inl (cI, 24, .inl ni)), (qo, .inl (cI, 16, .inl nu))] H := hP
      have hD : va_D A [(hq, .inr (3, [.ref qm, .ref qf, .ref ql, .int nc, .int nd, .int nf, .int na, .int nz, .int no, .int ns, .int nv, .int np, .ref qi, .int nn, .ref qo, .int nt])), (qm, .inl (cI, 104, .inl nm)), (qf, .inl (cI, 104, .inl nb)), (ql, .inl (cI, 4, .inl nl)), (qi, .inl (cI, 24, .inl ni)), (qo, .inl (cI, 16, .inl nu))] := hD
      have hl : lv_has ls 2 [(0, .ref hq), (1, .int v1)] := hl
      rw [fRf_undo_L26] at hf
      refine lv_iload_n hx hb d_Rf_undo_26 rfl (lv_at hl 1 rfl) ?_
      refine lv_bipush (v := 104) hx hb d_Rf_undo_27 (by decide) ?_
      refine lv_icmp_ge (tgt := 50) hx hb d_Rf_undo_29 rfl (fun hc4 => ?_) (fun hc4 => ?_)
      · have hf := ift hf hc4
        refine lv_aload_n hx hb d_Rf_undo_50 rfl (lv_at hl 0 rfl) ?_
        refine lv_iconst (v := 0) hx hb d_Rf_undo_51 (by decide) ?_
        refine va_put (D := (dC, dI)) (ci := 3) (v := .int 0) (ty := .int) (C := R_Rf) (T := F_Rf) (N := 16) hx hb hts inRf t_Rf t_Rf_ok n_Rf hown hK hP hD hS 0 rfl rfl 3 (by decide) kf64 (fun _ h9 => h9) rfl (by decide +kernel) rfl rfl (Nat.le_of_ble_eq_true rfl) d_Rf_undo_52 (fun H locs hP hD hS => ?_)
        have hP : va_P (dC, dI) vwCl [(hq, .inr (3, [.ref qm, .ref qf, .ref ql, .int 0, .int nd, .int nf, .int na, .int nz, .int no, .int ns, .int nv, .int np, .ref qi, .int nn, .ref qo, .int nt])), (qm, .inl (cI, 104, .inl nm)), (qf, .inl (cI, 104, .inl nb)), (ql, .inl (cI, 4, .inl nl)), (qi, .inl (cI, 24, .inl ni)), (qo, .inl (cI, 16, .inl nu))] H := hP
        have hD : va_D A [(hq, .inr (3, [.ref qm, .ref qf, .ref ql, .int 0, .int nd, .int nf, .int na, .int nz, .int no, .int ns, .int nv, .int np, .ref qi, .int nn, .ref qo, .int nt])), (qm, .inl (cI, 104, .inl nm)), (qf, .inl (cI, 104, .inl nb)), (ql, .inl (cI, 4, .inl nl)), (qi, .inl (cI, 24, .inl ni)), (qo, .inl (cI, 16, .inl nu))] := hD
        refine lv_iconst (v := 1) hx hb d_Rf_undo_55 (by decide) ?_
        obtain ⟨e1_, e2_, e3_, e4_, e5_, e6_, e7_, e8_, e9_, e10_, e11_, e12_, e13_, e14_, e15_, e16_, e17_⟩ := lf17 hf
        subst e1_; subst e2_; subst e3_; subst e4_; subst e5_; subst e6_; subst e7_; subst e8_; subst e9_; subst e10_; subst e11_; subst e12_; subst e13_; subst e14_; subst e15_; subst e16_; subst e17_
        have hP9 := hP.sub (ws' := [(hq, .inr (3, [.ref qm, .ref qf, .ref ql, .int 0, .int nd, .int nf, .int na, .int nz, .int no, .int ns, .int nv, .int np, .ref qi, .int nn, .ref qo, .int nt])), (qm, .inl (cI, 104, .inl nm)), (qf, .inl (cI, 104, .inl nb)), (ql, .inl (cI, 4, .inl nl)), (qi, .inl (cI, 24, .inl ni)), (qo, .inl (cI, 16, .inl nu))]) [0, 1, 2, 3, 4, 5] rfl
        have hD9 := hD.sub (ws' := [(hq, .inr (3, [.ref qm, .ref qf, .ref ql, .int 0, .int nd, .int nf, .int na, .int nz, .int no, .int ns, .int nv, .int np, .ref qi, .int nn, .ref qo, .int nt])), (qm, .inl (cI, 104, .inl nm)), (qf, .inl (cI, 104, .inl nb)), (ql, .inl (cI, 4, .inl nl)), (qi, .inl (cI, 24, .inl ni)), (qo, .inl (cI, 16, .inl nu))]) [0, 1, 2, 3, 4, 5] (by decide) rfl
        exact W.zret (v := 1) (ty := .boolean) hx hb hr rfl (fun t ht hW => ⟨⟨1, (), rfl, ⟨rfl, rfl⟩, by rw [ht]; exact hP9, va_K.moved hW.alike hK, hD9⟩, hS.F ht⟩) hS.2.2 d_Rf_undo_56
      have hf := ifn hf hc4
      refine lv_aload_n hx hb d_Rf_undo_32 rfl (lv_at hl 0 rfl) ?_
      refine va_get (D := (dC, dI)) (ci := 3) (v := .ref qm) (C := R_Rf) (T := F_Rf) (N := 16) hx hb hts inRf hown hK hP 0 rfl rfl 0 (by decide) kf7 (fun _ h9 => h9) rfl d_Rf_undo_33 ?_
      refine lv_iload_n hx hb d_Rf_undo_36 rfl (lv_at hl 1 rfl) ?_
      refine lv_aload_n hx hb d_Rf_undo_37 rfl (lv_at hl 0 rfl) ?_
      refine va_get (D := (dC, dI)) (ci := 3) (v := .ref qf) (C := R_Rf) (T := F_Rf) (N := 16) hx hb hts inRf hown hK hP 0 rfl rfl 1 (by decide) kf13 (fun _ h9 => h9) rfl d_Rf_undo_38 ?_
      refine lv_iload_n hx hb d_Rf_undo_41 rfl (lv_at hl 1 rfl) ?_
      obtain ⟨hin_, hf⟩ := ix_some hf
      refine va_iald hx hb hK hP 2 0 rfl rfl hin_ d_Rf_undo_42 ?_
      obtain ⟨hin_, hf⟩ := ix_some hf
      refine va_iast hx hb hK hP hD hS 1 0 rfl rfl hin_ d_Rf_undo_43 (fun H locs hP hD hS => ?_)
      have hP : va_P (dC, dI) vwCl [(hq, .inr (3, [.ref qm, .ref qf, .ref ql, .int nc, .int nd, .int nf, .int na, .int nz, .int no, .int ns, .int nv, .int np, .ref qi, .int nn, .ref qo, .int nt])), (qm, .inl (cI, 104, .inl (upd nm (v1 : Int32).toNatClampNeg (nb (v1 : Int32).toNatClampNeg)))), (qf, .inl (cI, 104, .inl nb)), (ql, .inl (cI, 4, .inl nl)), (qi, .inl (cI, 24, .inl ni)), (qo, .inl (cI, 16, .inl nu))] H := hP
      have hD : va_D A [(hq, .inr (3, [.ref qm, .ref qf, .ref ql, .int nc, .int nd, .int nf, .int na, .int nz, .int no, .int ns, .int nv, .int np, .ref qi, .int nn, .ref qo, .int nt])), (qm, .inl (cI, 104, .inl (upd nm (v1 : Int32).toNatClampNeg (nb (v1 : Int32).toNatClampNeg)))), (qf, .inl (cI, 104, .inl nb)), (ql, .inl (cI, 4, .inl nl)), (qi, .inl (cI, 24, .inl ni)), (qo, .inl (cI, 16, .inl nu))] := hD
      refine lv_iinc (v := v1 + 1) hx hb d_Rf_undo_44 hl (k := 1) rfl rfl (by decide) rfl (fun ls hl => ?_)
      have hl : lv_has ls 2 [(1, .int (v1 + 1)), (0, .ref hq)] := hl
      refine lv_goto (tgt := 26) hx hb d_Rf_undo_47 rfl ?_
      have hl := lv_sub (l' := [(0, .ref hq), (1, .int (v1 + 1))]) hl [1, 0] rfl
      exact ih (upd nm (v1 : Int32).toNatClampNeg (nb (v1 : Int32).toNatClampNeg), nb, nl, nc, nd, nf, na, nz, no, ns, nv, np, ni, nn, nu, nt, v1 + 1) _ _ ls ⟨hP, hD, hS, hl, hf⟩
    have hf := ift hf hc3
    refine lv_iconst (v := 0) hx hb d_Rf_undo_22 (by decide) ?_
    obtain ⟨e1_, e2_, e3_, e4_, e5_, e6_, e7_, e8_, e9_, e10_, e11_, e12_, e13_, e14_, e15_, e16_, e17_⟩ := lf17 hf
    subst e1_; subst e2_; subst e3_; subst e4_; subst e5_; subst e6_; subst e7_; subst e8_; subst e9_; subst e10_; subst e11_; subst e12_; subst e13_; subst e14_; subst e15_; subst e16_; subst e17_
    have hP9 := hP.sub (ws' := [(hq, .inr (3, [.ref qm, .ref qf, .ref ql, .int nc2, .int nd2, .int nf2, .int na2, .int nz2, .int no2, .int ns2, .int nv2, .int np2, .ref qi, .int nn2, .ref qo, .int nt2])), (qm, .inl (cI, 104, .inl nm2)), (qf, .inl (cI, 104, .inl nb2)), (ql, .inl (cI, 4, .inl nl2)), (qi, .inl (cI, 24, .inl ni2)), (qo, .inl (cI, 16, .inl nu2))]) [0, 1, 2, 3, 4, 5] rfl
    have hD9 := hD.sub (ws' := [(hq, .inr (3, [.ref qm, .ref qf, .ref ql, .int nc2, .int nd2, .int nf2, .int na2, .int nz2, .int no2, .int ns2, .int nv2, .int np2, .ref qi, .int nn2, .ref qo, .int nt2])), (qm, .inl (cI, 104, .inl nm2)), (qf, .inl (cI, 104, .inl nb2)), (ql, .inl (cI, 4, .inl nl2)), (qi, .inl (cI, 24, .inl ni2)), (qo, .inl (cI, 16, .inl nu2))]) [0, 1, 2, 3, 4, 5] (by decide) rfl
    exact W.zret (v := 0) (ty := .boolean) hx hb hr rfl (fun t ht hW => ⟨⟨0, (), rfl, ⟨rfl, rfl⟩, by rw [ht]; exact hP9, va_K.moved hW.alike hK, hD9⟩, hS.F ht⟩) hS.2.2 d_Rf_undo_23
  have hf := ift hf hc1
  refine lv_iconst (v := 1) hx hb d_Rf_undo_7 (by decide) ?_
  obtain ⟨e1_, e2_, e3_, e4_, e5_, e6_, e7_, e8_, e9_, e10_, e11_, e12_, e13_, e14_, e15_, e16_, e17_⟩ := lf17 hf
  subst e1_; subst e2_; subst e3_; subst e4_; subst e5_; subst e6_; subst e7_; subst e8_; subst e9_; subst e10_; subst e11_; subst e12_; subst e13_; subst e14_; subst e15_; subst e16_; subst e17_
  have hP9 := hP.sub (ws' := [(hq, .inr (3, [.ref qm, .ref qf, .ref ql, .int nc, .int nd, .int nf, .int na, .int nz, .int no, .int ns, .int nv, .int np, .ref qi, .int nn, .ref qo, .int nt])), (qm, .inl (cI, 104, .inl nm)), (qf, .inl (cI, 104, .inl nb)), (ql, .inl (cI, 4, .inl nl)), (qi, .inl (cI, 24, .inl ni)), (qo, .inl (cI, 16, .inl nu))]) [0, 1, 2, 3, 4, 5] rfl
  have hD9 := hD.sub (ws' := [(hq, .inr (3, [.ref qm, .ref qf, .ref ql, .int nc, .int nd, .int nf, .int na, .int nz, .int no, .int ns, .int nv, .int np, .ref qi, .int nn, .ref qo, .int nt])), (qm, .inl (cI, 104, .inl nm)), (qf, .inl (cI, 104, .inl nb)), (ql, .inl (cI, 4, .inl nl)), (qi, .inl (cI, 24, .inl ni)), (qo, .inl (cI, 16, .inl nu))]) [0, 1, 2, 3, 4, 5] (by decide) rfl
  exact W.zret (v := 1) (ty := .boolean) hx hb hr rfl (fun t ht hW => ⟨⟨1, (), rfl, ⟨rfl, rfl⟩, by rw [ht]; exact hP9, va_K.moved hW.alike hK, hD9⟩, hS.F ht⟩) hS.2.2 d_Rf_undo_8
theorem d_Rf_tear_0 : decode b_Rf_tear 0 = .ok (.iload_n 1, 1) := by decide +kernel
theorem d_Rf_tear_1 : decode b_Rf_tear 1 = .ok (.ifCond .lt 19, 3) := by decide +kernel
theorem d_Rf_tear_4 : decode b_Rf_tear 4 = .ok (.iload_n 1, 1) := by decide +kernel
theorem d_Rf_tear_5 : decode b_Rf_tear 5 = .ok (.sipush 1000, 3) := by decide +kernel
theorem d_Rf_tear_8 : decode b_Rf_tear 8 = .ok (.if_icmp .gt 12, 3) := by decide +kernel
theorem d_Rf_tear_11 : decode b_Rf_tear 11 = .ok (.aload_n 0, 1) := by decide +kernel
theorem d_Rf_tear_12 : decode b_Rf_tear 12 = .ok (.getfield 51, 3) := by decide +kernel
theorem d_Rf_tear_15 : decode b_Rf_tear 15 = .ok (.bipush 40, 2) := by decide +kernel
theorem d_Rf_tear_17 : decode b_Rf_tear 17 = .ok (.if_icmp .lt 5, 3) := by decide +kernel
theorem d_Rf_tear_20 : decode b_Rf_tear 20 = .ok (.iconst 0, 1) := by decide +kernel
theorem d_Rf_tear_21 : decode b_Rf_tear 21 = .ok (.ireturn, 1) := by decide +kernel
theorem d_Rf_tear_22 : decode b_Rf_tear 22 = .ok (.aload_n 0, 1) := by decide +kernel
theorem d_Rf_tear_23 : decode b_Rf_tear 23 = .ok (.iconst 1, 1) := by decide +kernel
theorem d_Rf_tear_24 : decode b_Rf_tear 24 = .ok (.putfield 45, 3) := by decide +kernel
theorem d_Rf_tear_27 : decode b_Rf_tear 27 = .ok (.aload_n 0, 1) := by decide +kernel
theorem d_Rf_tear_28 : decode b_Rf_tear 28 = .ok (.iload_n 1, 1) := by decide +kernel
theorem d_Rf_tear_29 : decode b_Rf_tear 29 = .ok (.putfield 48, 3) := by decide +kernel
theorem d_Rf_tear_32 : decode b_Rf_tear 32 = .ok (.iconst 1, 1) := by decide +kernel
theorem d_Rf_tear_33 : decode b_Rf_tear 33 = .ok (.ireturn, 1) := by decide +kernel
def fRf_tear (σ : StR) (a1 : Int32) : Option (Int32 × StR) := match σ with | (nm, nb, nl, nc, nd, nf, na, nz, no, ns, nv, np, ni, nn, nu, nt) => if a1 < 0 then (some (0, nm, nb, nl, nc, nd, nf, na, nz, no, ns, nv, np, ni, nn, nu, nt)) else (if 1000 < a1 then (some (0, nm, nb, nl, nc, nd, nf, na, nz, no, ns, nv, np, ni, nn, nu, nt)) else (if nf < 40 then (some (1, nm, nb, nl, nc, nd, nf, 1, a1, no, ns, nv, np, ni, nn, nu, nt)) else (some (0, nm, nb, nl, nc, nd, nf, na, nz, no, ns, nv, np, ni, nn, nu, nt))))
set_option maxHeartbeats 4000000 in
set_option maxRecDepth 100000 in
theorem ctRf_tear (l : Launch) (dC : Nat → ClassId) (dI : Nat → Nat → Nat) (cI : ClassId) (hq qm qf ql qi qo : Nat) (nm : Nat → Int32) (nb : Nat → Int32) (nl : Nat → Int32) (nc : Int32) (nd : Int32) (nf : Int32) (na : Int32) (nz : Int32) (no : Int32) (ns : Int32) (nv : Int32) (np : Int32) (ni : Nat → Int32) (nn : Int32) (nu : Nat → Int32) (nt : Int32) (a1 : Int32) (r : Int32) (nm' : Nat → Int32) (nb' : Nat → Int32) (nl' : Nat → Int32) (nc' : Int32) (nd' : Int32) (nf' : Int32) (na' : Int32) (nz' : Int32) (no' : Int32) (ns' : Int32) (nv' : Int32) (np' : Int32) (ni' : Nat → Int32) (nn' : Int32) (nu' : Nat → Int32) (nt' : Int32) (hf : fRf_tear (nm, nb, nl, nc, nd, nf, na, nz, no, ns, nv, np, ni, nn, nu, nt) a1 = some (r, nm', nb', nl', nc', nd', nf', na', nz', no', ns', nv', np', ni', nn', nu', nt')) : CtZ l y_Rf_tear w_Rf_tear ({ frames := 0, cells := 0, slots := 0, locals := 0 }) (dC, dI) [(cI, .int)] [.ref hq, .int a1] [(hq, .inr (3, [.ref qm, .ref qf, .ref ql, .int nc, .int nd, .int nf, .int na, .int nz, .int no, .int ns, .int nv, .int np, .ref qi, .int nn, .ref qo, .int nt])), (qm, .inl (cI, 104, .inl nm)), (qf, .inl (cI, 104, .inl nb)), (ql, .inl (cI, 4, .inl nl)), (qi, .inl (cI, 24, .inl ni)), (qo, .inl (cI, 16, .inl nu))] [(hq, .inr (3, [.ref qm, .ref qf, .ref ql, .int nc', .int nd', .int nf', .int na', .int nz', .int no', .int ns', .int nv', .int np', .ref qi, .int nn', .ref qo, .int nt'])), (qm, .inl (cI, 104, .inl nm')), (qf, .inl (cI, 104, .inl nb')), (ql, .inl (cI, 4, .inl nl')), (qi, .inl (cI, 24, .inl ni')), (qo, .inl (cI, 16, .inl nu'))] r := by
  intro sz
  refine Met.ofW (cc := b_Rf_tear) (maxL := 2) (ret := some .boolean) (by decide) rfl ?_
  intro p e s m args below meth c s₁ B hml hv
  obtain ⟨rfl, hsz, hP, hK, hD0⟩ := hv
  have hx := B.exec
  have hb := B.bytes
  have hr := B.returns
  have hts := atoms_spec (ws := w_Rf_tear) B.pre
  have hown : s.vm.findClass R_Rf = some m.cls := findClass_of_methodNamed B.named
  have hlocks := B.notSynchronized
  subst hsz
  have hD := hD0.self (sz := s.heap.size)
  generalize hAe : va_A [(hq, .inr (3, [.ref qm, .ref qf, .ref ql, .int nc, .int nd, .int nf, .int na, .int nz, .int no, .int ns, .int nv, .int np, .ref qi, .int nn, .ref qo, .int nt])), (qm, .inl (cI, 104, .inl nm)), (qf, .inl (cI, 104, .inl nb)), (ql, .inl (cI, 4, .inl nl)), (qi, .inl (cI, 24, .inl ni)), (qo, .inl (cI, 16, .inl nu))] s.heap.size = A at hD ⊢
  have hA : ∀ q : Nat, s.heap.size ≤ q → A q := fun q h => by rw [← hAe]; exact Or.inr h
  have hS : va_S A s.heap s.heap [] := va_S.rf
  have hP : va_P (dC, dI) vwCl [(hq, .inr (3, [.ref qm, .ref qf, .ref ql, .int nc, .int nd, .int nf, .int na, .int nz, .int no, .int ns, .int nv, .int np, .ref qi, .int nn, .ref qo, .int nt])), (qm, .inl (cI, 104, .inl nm)), (qf, .inl (cI, 104, .inl nb)), (ql, .inl (cI, 4, .inl nl)), (qi, .inl (cI, 24, .inl ni)), (qo, .inl (cI, 16, .inl nu))] s.heap := hP
  have hl := lv_entry ([.ref hq, .int a1]) (n := 2) (Nat.le_of_ble_eq_true rfl)
  rw [lg_entry_eq]
  generalize (lg_sl ([.ref hq, .int a1]) ++ List.replicate (2 - (lg_sl ([.ref hq, .int a1])).length) Slot.unset).toArray = ls at hl ⊢
  have hl : lv_has ls 2 [(0, .ref hq), (1, .int a1)] := hl
  have inRf : ∀ w ∈ u_ws R_Rf F_Rf 16, w ∈ w_Rf_tear := fun w h => List.mem_cons_of_mem _ (in_Rf w h)
  have kf45 := hts _ (List.mem_cons_of_mem _ wq412)
  have kf48 := hts _ (List.mem_cons_of_mem _ wq413)
  have kf51 := hts _ (List.mem_cons_of_mem _ wq411)
  rw [fRf_tear] at hf
  refine lv_iload_n hx hb d_Rf_tear_0 rfl (lv_at hl 1 rfl) ?_
  refine lv_if_lt (tgt := 20) hx hb d_Rf_tear_1 rfl (fun hc1 => ?_) (fun hc1 => ?_)
  · have hf := ift hf hc1
    refine lv_iconst (v := 0) hx hb d_Rf_tear_20 (by decide) ?_
    obtain ⟨e1_, e2_, e3_, e4_, e5_, e6_, e7_, e8_, e9_, e10_, e11_, e12_, e13_, e14_, e15_, e16_, e17_⟩ := lf17 hf
    subst e1_; subst e2_; subst e3_; subst e4_; subst e5_; subst e6_; subst e7_; subst e8_; subst e9_; subst e10_; subst e11_; subst e12_; subst e13_; subst e14_; subst e15_; subst e16_; subst e17_
    have hP9 := hP.sub (ws' := [(hq, .inr (3, [.ref qm, .ref qf, .ref ql, .int nc, .int nd, .int nf, .int na, .int nz, .int no, .int ns, .int nv, .int np, .ref qi, .int nn, .ref qo, .int nt])), (qm, .inl (cI, 104, .inl nm)), (qf, .inl (cI, 104, .inl nb)), (ql, .inl (cI, 4, .inl nl)), (qi, .inl (cI, 24, .inl ni)), (qo, .inl (cI, 16, .inl nu))]) [0, 1, 2, 3, 4, 5] rfl
    have hD9 := hD.sub (ws' := [(hq, .inr (3, [.ref qm, .ref qf, .ref ql, .int nc, .int nd, .int nf, .int na, .int nz, .int no, .int ns, .int nv, .int np, .ref qi, .int nn, .ref qo, .int nt])), (qm, .inl (cI, 104, .inl nm)), (qf, .inl (cI, 104, .inl nb)), (ql, .inl (cI, 4, .inl nl)), (qi, .inl (cI, 24, .inl ni)), (qo, .inl (cI, 16, .inl nu))]) [0, 1, 2, 3, 4, 5] (by decide) rfl
    exact W.zret (v := 0) (ty := .boolean) hx hb hr rfl (fun t ht hW => ⟨⟨0, (), rfl, ⟨rfl, rfl⟩, by rw [ht]; exact hP9, va_K.moved hW.alike hK, hD9⟩, hS.F ht⟩) hS.2.2 d_Rf_tear_21
  have hf := ifn hf hc1
  refine lv_iload_n hx hb d_Rf_tear_4 rfl (lv_at hl 1 rfl) ?_
  refine lv_sipush (v := 1000) hx hb d_Rf_tear_5 (by decide) ?_
  refine lv_icmp_gt (tgt := 20) hx hb d_Rf_tear_8 rfl (fun hc2 => ?_) (fun hc2 => ?_)
  · have hf := ift hf hc2
    refine lv_iconst (v := 0) hx hb d_Rf_tear_20 (by decide) ?_
    obtain ⟨e1_, e2_, e3_, e4_, e5_, e6_, e7_, e8_, e9_, e10_, e11_, e12_, e13_, e14_, e15_, e16_, e17_⟩ := lf17 hf
    subst e1_; subst e2_; subst e3_; subst e4_; subst e5_; subst e6_; subst e7_; subst e8_; subst e9_; subst e10_; subst e11_; subst e12_; subst e13_; subst e14_; subst e15_; subst e16_; subst e17_
    have hP9 := hP.sub (ws' := [(hq, .inr (3, [.ref qm, .ref qf, .ref ql, .int nc, .int nd, .int nf, .int na, .int nz, .int no, .int ns, .int nv, .int np, .ref qi, .int nn, .ref qo, .int nt])), (qm, .inl (cI, 104, .inl nm)), (qf, .inl (cI, 104, .inl nb)), (ql, .inl (cI, 4, .inl nl)), (qi, .inl (cI, 24, .inl ni)), (qo, .inl (cI, 16, .inl nu))]) [0, 1, 2, 3, 4, 5] rfl
    have hD9 := hD.sub (ws' := [(hq, .inr (3, [.ref qm, .ref qf, .ref ql, .int nc, .int nd, .int nf, .int na, .int nz, .int no, .int ns, .int nv, .int np, .ref qi, .int nn, .ref qo, .int nt])), (qm, .inl (cI, 104, .inl nm)), (qf, .inl (cI, 104, .inl nb)), (ql, .inl (cI, 4, .inl nl)), (qi, .inl (cI, 24, .inl ni)), (qo, .inl (cI, 16, .inl nu))]) [0, 1, 2, 3, 4, 5] (by decide) rfl
    exact W.zret (v := 0) (ty := .boolean) hx hb hr rfl (fun t ht hW => ⟨⟨0, (), rfl, ⟨rfl, rfl⟩, by rw [ht]; exact hP9, va_K.moved hW.alike hK, hD9⟩, hS.F ht⟩) hS.2.2 d_Rf_tear_21
  have hf := ifn hf hc2
  refine lv_aload_n hx hb d_Rf_tear_11 rfl (lv_at hl 0 rfl) ?_
  refine va_get (D := (dC, dI)) (ci := 3) (v := .int nf) (C := R_Rf) (T := F_Rf) (N := 16) hx hb hts inRf hown hK hP 0 rfl rfl 5 (by decide) kf51 (fun _ h9 => h9) rfl d_Rf_tear_12 ?_
  refine lv_bipush (v := 40) hx hb d_Rf_tear_15 (by decide) ?_
  refine lv_icmp_lt (tgt := 22) hx hb d_Rf_tear_17 rfl (fun hc3 => ?_) (fun hc3 => ?_)
  · have hf := ift hf hc3
    refine lv_aload_n hx hb d_Rf_tear_22 rfl (lv_at hl 0 rfl) ?_
    refine lv_iconst (v := 1) hx hb d_Rf_tear_23 (by decide) ?_
    refine va_put (D := (dC, dI)) (ci := 3) (v := .int 1) (ty := .boolean) (C := R_Rf) (T := F_Rf) (N := 16) hx hb hts inRf t_Rf t_Rf_ok n_Rf hown hK hP hD hS 0 rfl rfl 6 (by decide) kf45 (fun _ h9 => h9) rfl (by decide +kernel) rfl rfl (Nat.le_of_ble_eq_true rfl) d_Rf_tear_24 (fun H locs hP hD hS => ?_)
    have hP : va_P (dC, dI) vwCl [(hq, .inr (3, [.ref qm, .ref qf, .ref ql, .int nc, .int nd, .int nf, .int 1, .int nz, .int no, .int ns, .int nv, .int np, .ref qi, .int nn, .ref qo, .int nt])), (qm, .inl (cI, 104, .inl nm)), (qf, .inl (cI, 104, .inl nb)), (ql, .inl (cI, 4, .inl nl)), (qi, .inl (cI, 24, .inl ni)), (qo, .inl (cI, 16, .inl nu))] H := hP
    have hD : va_D A [(hq, .inr (3, [.ref qm, .ref qf, .ref ql, .int nc, .int nd, .int nf, .int 1, .int nz, .int no, .int ns, .int nv, .int np, .ref qi, .int nn, .ref qo, .int nt])), (qm, .inl (cI, 104, .inl nm)), (qf, .inl (cI, 104, .inl nb)), (ql, .inl (cI, 4, .inl nl)), (qi, .inl (cI, 24, .inl ni)), (qo, .inl (cI, 16, .inl nu))] := hD
    refine lv_aload_n hx hb d_Rf_tear_27 rfl (lv_at hl 0 rfl) ?_
    refine lv_iload_n hx hb d_Rf_tear_28 rfl (lv_at hl 1 rfl) ?_
    refine va_put (D := (dC, dI)) (ci := 3) (v := .int a1) (ty := .int) (C := R_Rf) (T := F_Rf) (N := 16) hx hb hts inRf t_Rf t_Rf_ok n_Rf hown hK hP hD hS 0 rfl rfl 7 (by decide) kf48 (fun _ h9 => h9) rfl (by decide +kernel) rfl rfl (Nat.le_of_ble_eq_true rfl) d_Rf_tear_29 (fun H locs hP hD hS => ?_)
    have hP : va_P (dC, dI) vwCl [(hq, .inr (3, [.ref qm, .ref qf, .ref ql, .int nc, .int nd, .int nf, .int 1, .int a1, .int no, .int ns, .int nv, .int np, .ref qi, .int nn, .ref qo, .int nt])), (qm, .inl (cI, 104, .inl nm)), (qf, .inl (cI, 104, .inl nb)), (ql, .inl (cI, 4, .inl nl)), (qi, .inl (cI, 24, .inl ni)), (qo, .inl (cI, 16, .inl nu))] H := hP
    have hD : va_D A [(hq, .inr (3, [.ref qm, .ref qf, .ref ql, .int nc, .int nd, .int nf, .int 1, .int a1, .int no, .int ns, .int nv, .int np, .ref qi, .int nn, .ref qo, .int nt])), (qm, .inl (cI, 104, .inl nm)), (qf, .inl (cI, 104, .inl nb)), (ql, .inl (cI, 4, .inl nl)), (qi, .inl (cI, 24, .inl ni)), (qo, .inl (cI, 16, .inl nu))] := hD
    refine lv_iconst (v := 1) hx hb d_Rf_tear_32 (by decide) ?_
    obtain ⟨e1_, e2_, e3_, e4_, e5_, e6_, e7_, e8_, e9_, e10_, e11_, e12_, e13_, e14_, e15_, e16_, e17_⟩ := lf17 hf
    subst e1_; subst e2_; subst e3_; subst e4_; subst e5_; subst e6_; subst e7_; subst e8_; subst e9_; subst e10_; subst e11_; subst e12_; subst e13_; subst e14_; subst e15_; subst e16_; subst e17_
    have hP9 := hP.sub (ws' := [(hq, .inr (3, [.ref qm, .ref qf, .ref ql, .int nc, .int nd, .int nf, .int 1, .int a1, .int no, .int ns, .int nv, .int np, .ref qi, .int nn, .ref qo, .int nt])), (qm, .inl (cI, 104, .inl nm)), (qf, .inl (cI, 104, .inl nb)), (ql, .inl (cI, 4, .inl nl)), (qi, .inl (cI, 24, .inl ni)), (qo, .inl (cI, 16, .inl nu))]) [0, 1, 2, 3, 4, 5] rfl
    have hD9 := hD.sub (ws' := [(hq, .inr (3, [.ref qm, .ref qf, .ref ql, .int nc, .int nd, .int nf, .int 1, .int a1, .int no, .int ns, .int nv, .int np, .ref qi, .int nn, .ref qo, .int nt])), (qm, .inl (cI, 104, .inl nm)), (qf, .inl (cI, 104, .inl nb)), (ql, .inl (cI, 4, .inl nl)), (qi, .inl (cI, 24, .inl ni)), (qo, .inl (cI, 16, .inl nu))]) [0, 1, 2, 3, 4, 5] (by decide) rfl
    exact W.zret (v := 1) (ty := .boolean) hx hb hr rfl (fun t ht hW => ⟨⟨1, (), rfl, ⟨rfl, rfl⟩, by rw [ht]; exact hP9, va_K.moved hW.alike hK, hD9⟩, hS.F ht⟩) hS.2.2 d_Rf_tear_33
  have hf := ifn hf hc3
  refine lv_iconst (v := 0) hx hb d_Rf_tear_20 (by decide) ?_
  obtain ⟨e1_, e2_, e3_, e4_, e5_, e6_, e7_, e8_, e9_, e10_, e11_, e12_, e13_, e14_, e15_, e16_, e17_⟩ := lf17 hf
  subst e1_; subst e2_; subst e3_; subst e4_; subst e5_; subst e6_; subst e7_; subst e8_; subst e9_; subst e10_; subst e11_; subst e12_; subst e13_; subst e14_; subst e15_; subst e16_; subst e17_
  have hP9 := hP.sub (ws' := [(hq, .inr (3, [.ref qm, .ref qf, .ref ql, .int nc, .int nd, .int nf, .int na, .int nz, .int no, .int ns, .int nv, .int np, .ref qi, .int nn, .ref qo, .int nt])), (qm, .inl (cI, 104, .inl nm)), (qf, .inl (cI, 104, .inl nb)), (ql, .inl (cI, 4, .inl nl)), (qi, .inl (cI, 24, .inl ni)), (qo, .inl (cI, 16, .inl nu))]) [0, 1, 2, 3, 4, 5] rfl
  have hD9 := hD.sub (ws' := [(hq, .inr (3, [.ref qm, .ref qf, .ref ql, .int nc, .int nd, .int nf, .int na, .int nz, .int no, .int ns, .int nv, .int np, .ref qi, .int nn, .ref qo, .int nt])), (qm, .inl (cI, 104, .inl nm)), (qf, .inl (cI, 104, .inl nb)), (ql, .inl (cI, 4, .inl nl)), (qi, .inl (cI, 24, .inl ni)), (qo, .inl (cI, 16, .inl nu))]) [0, 1, 2, 3, 4, 5] (by decide) rfl
  exact W.zret (v := 0) (ty := .boolean) hx hb hr rfl (fun t ht hW => ⟨⟨0, (), rfl, ⟨rfl, rfl⟩, by rw [ht]; exact hP9, va_K.moved hW.alike hK, hD9⟩, hS.F ht⟩) hS.2.2 d_Rf_tear_21
theorem d_Rf_reset_0 : decode b_Rf_reset 0 = .ok (.aload_n 0, 1) := by decide +kernel
theorem d_Rf_reset_1 : decode b_Rf_reset 1 = .ok (.iconst 1, 1) := by decide +kernel
theorem d_Rf_reset_2 : decode b_Rf_reset 2 = .ok (.putfield 19, 3) := by decide +kernel
theorem d_Rf_reset_5 : decode b_Rf_reset 5 = .ok (.aload_n 0, 1) := by decide +kernel
theorem d_Rf_reset_6 : decode b_Rf_reset 6 = .ok (.invokevirtual 54, 3) := by decide +kernel
theorem d_Rf_reset_9 : decode b_Rf_reset 9 = .ok (.aload_n 0, 1) := by decide +kernel
theorem d_Rf_reset_10 : decode b_Rf_reset 10 = .ok (.getfield 64, 3) := by decide +kernel
theorem d_Rf_reset_13 : decode b_Rf_reset 13 = .ok (.istore_n 1, 1) := by decide +kernel
theorem d_Rf_reset_14 : decode b_Rf_reset 14 = .ok (.aload_n 0, 1) := by decide +kernel
theorem d_Rf_reset_15 : decode b_Rf_reset 15 = .ok (.invokevirtual 71, 3) := by decide +kernel
theorem d_Rf_reset_18 : decode b_Rf_reset 18 = .ok (.ifCond .eq 7, 3) := by decide +kernel
theorem d_Rf_reset_21 : decode b_Rf_reset 21 = .ok (.iload_n 1, 1) := by decide +kernel
theorem d_Rf_reset_22 : decode b_Rf_reset 22 = .ok (.goto 4, 3) := by decide +kernel
theorem d_Rf_reset_25 : decode b_Rf_reset 25 = .ok (.iconst (-1), 1) := by decide +kernel
theorem d_Rf_reset_26 : decode b_Rf_reset 26 = .ok (.ireturn, 1) := by decide +kernel
def fRf_reset (σ : StR) : Option (Int32 × StR) := match σ with | (nm, nb, nl, nc, nd, nf, na, nz, no, ns, nv, np, ni, nn, nu, nt) => bd16 (fRf_forget (nm, nb, nl, nc, nd, nf, na, nz, 1, ns, nv, np, ni, nn, nu, nt)) fun nm1 nb1 nl1 nc1 nd1 nf1 na1 nz1 no1 ns1 nv1 np1 ni1 nn1 nu1 nt1 => bd17 (fRf_undo (nm1, nb1, nl1, nc1, nd1, nf1, na1, nz1, no1, ns1, nv1, np1, ni1, nn1, nu1, nt1)) fun r2 nm2 nb2 nl2 nc2 nd2 nf2 na2 nz2 no2 ns2 nv2 np2 ni2 nn2 nu2 nt2 => if r2 = 0 then (some ((-1), nm2, nb2, nl2, nc2, nd2, nf2, na2, nz2, no2, ns2, nv2, np2, ni2, nn2, nu2, nt2)) else (some (nc1, nm2, nb2, nl2, nc2, nd2, nf2, na2, nz2, no2, ns2, nv2, np2, ni2, nn2, nu2, nt2))
set_option maxHeartbeats 4000000 in
set_option maxRecDepth 100000 in
theorem ctRf_reset (l : Launch) (dC : Nat → ClassId) (dI : Nat → Nat → Nat) (cI : ClassId) (hq qm qf ql qi qo : Nat) (nm : Nat → Int32) (nb : Nat → Int32) (nl : Nat → Int32) (nc : Int32) (nd : Int32) (nf : Int32) (na : Int32) (nz : Int32) (no : Int32) (ns : Int32) (nv : Int32) (np : Int32) (ni : Nat → Int32) (nn : Int32) (nu : Nat → Int32) (nt : Int32) (r : Int32) (nm' : Nat → Int32) (nb' : Nat → Int32) (nl' : Nat → Int32) (nc' : Int32) (nd' : Int32) (nf' : Int32) (na' : Int32) (nz' : Int32) (no' : Int32) (ns' : Int32) (nv' : Int32) (np' : Int32) (ni' : Nat → Int32) (nn' : Int32) (nu' : Nat → Int32) (nt' : Int32) (hf : fRf_reset (nm, nb, nl, nc, nd, nf, na, nz, no, ns, nv, np, ni, nn, nu, nt) = some (r, nm', nb', nl', nc', nd', nf', na', nz', no', ns', nv', np', ni', nn', nu', nt')) : CtI l y_Rf_reset w_Rf_reset ({ frames := 4, cells := 0, slots := 0, locals := 83 }) (dC, dI) [(cI, .int)] [.ref hq] [(hq, .inr (3, [.ref qm, .ref qf, .ref ql, .int nc, .int nd, .int nf, .int na, .int nz, .int no, .int ns, .int nv, .int np, .ref qi, .int nn, .ref qo, .int nt])), (qm, .inl (cI, 104, .inl nm)), (qf, .inl (cI, 104, .inl nb)), (ql, .inl (cI, 4, .inl nl)), (qi, .inl (cI, 24, .inl ni)), (qo, .inl (cI, 16, .inl nu))] [(hq, .inr (3, [.ref qm, .ref qf, .ref ql, .int nc', .int nd', .int nf', .int na', .int nz', .int no', .int ns', .int nv', .int np', .ref qi, .int nn', .ref qo, .int nt'])), (qm, .inl (cI, 104, .inl nm')), (qf, .inl (cI, 104, .inl nb')), (ql, .inl (cI, 4, .inl nl')), (qi, .inl (cI, 24, .inl ni')), (qo, .inl (cI, 16, .inl nu'))] r := by
  intro sz
  refine Met.ofW (cc := b_Rf_reset) (maxL := 2) (ret := some .int) (by decide) rfl ?_
  intro p e s m args below meth c s₁ B hml hv
  obtain ⟨rfl, hsz, hP, hK, hD0⟩ := hv
  have hx := B.exec
  have hb := B.bytes
  have hr := B.returns
  have hts := atoms_spec (ws := w_Rf_reset) B.pre
  have hown : s.vm.findClass R_Rf = some m.cls := findClass_of_methodNamed B.named
  have hlocks := B.notSynchronized
  subst hsz
  have hD := hD0.self (sz := s.heap.size)
  generalize hAe : va_A [(hq, .inr (3, [.ref qm, .ref qf, .ref ql, .int nc, .int nd, .int nf, .int na, .int nz, .int no, .int ns, .int nv, .int np, .ref qi, .int nn, .ref qo, .int nt])), (qm, .inl (cI, 104, .inl nm)), (qf, .inl (cI, 104, .inl nb)), (ql, .inl (cI, 4, .inl nl)), (qi, .inl (cI, 24, .inl ni)), (qo, .inl (cI, 16, .inl nu))] s.heap.size = A at hD ⊢
  have hA : ∀ q : Nat, s.heap.size ≤ q → A q := fun q h => by rw [← hAe]; exact Or.inr h
  have hS : va_S A s.heap s.heap [] := va_S.rf
  have hP : va_P (dC, dI) vwCl [(hq, .inr (3, [.ref qm, .ref qf, .ref ql, .int nc, .int nd, .int nf, .int na, .int nz, .int no, .int ns, .int nv, .int np, .ref qi, .int nn, .ref qo, .int nt])), (qm, .inl (cI, 104, .inl nm)), (qf, .inl (cI, 104, .inl nb)), (ql, .inl (cI, 4, .inl nl)), (qi, .inl (cI, 24, .inl ni)), (qo, .inl (cI, 16, .inl nu))] s.heap := hP
  have hl := lv_entry ([.ref hq]) (n := 2) (Nat.le_of_ble_eq_true rfl)
  rw [lg_entry_eq]
  generalize (lg_sl ([.ref hq]) ++ List.replicate (2 - (lg_sl ([.ref hq])).length) Slot.unset).toArray = ls at hl ⊢
  have hl : lv_has ls 2 [(0, .ref hq)] := hl
  have inRf : ∀ w ∈ u_ws R_Rf F_Rf 16, w ∈ w_Rf_reset := fun w h => List.mem_cons_of_mem _ (in_Rf w h)
  have kf19 := hts _ (List.mem_cons_of_mem _ wq414)
  have kf64 := hts _ (List.mem_cons_of_mem _ wq409)
  rw [fRf_reset] at hf
  refine lv_aload_n hx hb d_Rf_reset_0 rfl (lv_at hl 0 rfl) ?_
  refine lv_iconst (v := 1) hx hb d_Rf_reset_1 (by decide) ?_
  refine va_put (D := (dC, dI)) (ci := 3) (v := .int 1) (ty := .boolean) (C := R_Rf) (T := F_Rf) (N := 16) hx hb hts inRf t_Rf t_Rf_ok n_Rf hown hK hP hD hS 0 rfl rfl 8 (by decide) kf19 (fun _ h9 => h9) rfl (by decide +kernel) rfl rfl (Nat.le_of_ble_eq_true rfl) d_Rf_reset_2 (fun H locs hP hD hS => ?_)
  have hP : va_P (dC, dI) vwCl [(hq, .inr (3, [.ref qm, .ref qf, .ref ql, .int nc, .int nd, .int nf, .int na, .int nz, .int 1, .int ns, .int nv, .int np, .ref qi, .int nn, .ref qo, .int nt])), (qm, .inl (cI, 104, .inl nm)), (qf, .inl (cI, 104, .inl nb)), (ql, .inl (cI, 4, .inl nl)), (qi, .inl (cI, 24, .inl ni)), (qo, .inl (cI, 16, .inl nu))] H := hP
  have hD : va_D A [(hq, .inr (3, [.ref qm, .ref qf, .ref ql, .int nc, .int nd, .int nf, .int na, .int nz, .int 1, .int ns, .int nv, .int np, .ref qi, .int nn, .ref qo, .int nt])), (qm, .inl (cI, 104, .inl nm)), (qf, .inl (cI, 104, .inl nb)), (ql, .inl (cI, 4, .inl nl)), (qi, .inl (cI, 24, .inl ni)), (qo, .inl (cI, 16, .inl nu))] := hD
  refine lv_aload_n hx hb d_Rf_reset_5 rfl (lv_at hl 0 rfl) ?_
  obtain ⟨nm1, nb1, nl1, nc1, nd1, nf1, na1, nz1, no1, ns1, nv1, np1, ni1, nn1, nu1, nt1, hg, hf⟩ := bd16_some hf
  refine xcv (wr := []) (ctRf_forget l dC dI cI hq qm qf ql qi qo nm nb nl nc nd nf na nz 1 ns nv np ni nn nu nt nm1 nb1 nl1 nc1 nd1 nf1 na1 nz1 no1 ns1 nv1 np1 ni1 nn1 nu1 nt1 hg) ⟨hx, hb, hml, hown, hts⟩ (cwV (C := R_Rf) 0 hts (gV wq463 wq465 wq22 wq46 wq466) rfl rfl rfl (by decide +kernel) ⟨Nat.le_of_ble_eq_true rfl, Nat.le_of_ble_eq_true rfl⟩) hK hP hD hS hA [0, 1, 2, 3, 4, 5] [] rfl rfl rfl rfl (by decide) (ci := 3) (q0 := 0) rfl rfl rfl rfl hl.1 rfl (Nat.le_of_ble_eq_true rfl) d_Rf_reset_6 ⟨Nat.zero_le _, Nat.zero_le _⟩ (fun H locs hP hD hS => ?_)
  have hP : va_P (dC, dI) vwCl [(hq, .inr (3, [.ref qm, .ref qf, .ref ql, .int nc1, .int nd1, .int nf1, .int na1, .int nz1, .int no1, .int ns1, .int nv1, .int np1, .ref qi, .int nn1, .ref qo, .int nt1])), (qm, .inl (cI, 104, .inl nm1)), (qf, .inl (cI, 104, .inl nb1)), (ql, .inl (cI, 4, .inl nl1)), (qi, .inl (cI, 24, .inl ni1)), (qo, .inl (cI, 16, .inl nu1))] H := hP
  have hD : va_D A [(hq, .inr (3, [.ref qm, .ref qf, .ref ql, .int nc1, .int nd1, .int nf1, .int na1, .int nz1, .int no1, .int ns1, .int nv1, .int np1, .ref qi, .int nn1, .ref qo, .int nt1])), (qm, .inl (cI, 104, .inl nm1)), (qf, .inl (cI, 104, .inl nb1)), (ql, .inl (cI, 4, .inl nl1)), (qi, .inl (cI, 24, .inl ni1)), (qo, .inl (cI, 16, .inl nu1))] := hD
  refine lv_aload_n hx hb d_Rf_reset_9 rfl (lv_at hl 0 rfl) ?_
  refine va_get (D := (dC, dI)) (ci := 3) (v := .int nc1) (C := R_Rf) (T := F_Rf) (N := 16) hx hb hts inRf hown hK hP 0 rfl rfl 3 (by decide) kf64 (fun _ h9 => h9) rfl d_Rf_reset_10 ?_
  refine lv_istore_n hx hb d_Rf_reset_13 rfl hl (by decide) rfl (fun ls hl => ?_)
  have hl : lv_has ls 2 [(1, .int nc1), (0, .ref hq)] := hl
  refine lv_aload_n hx hb d_Rf_reset_14 rfl (lv_at hl 1 rfl) ?_
  obtain ⟨r2, nm2, nb2, nl2, nc2, nd2, nf2, na2, nz2, no2, ns2, nv2, np2, ni2, nn2, nu2, nt2, hg, hf⟩ := bd17_some hf
  refine xcz (wr := []) (ctRf_undo l dC dI cI hq qm qf ql qi qo nm1 nb1 nl1 nc1 nd1 nf1 na1 nz1 no1 ns1 nv1 np1 ni1 nn1 nu1 nt1 r2 nm2 nb2 nl2 nc2 nd2 nf2 na2 nz2 no2 ns2 nv2 np2 ni2 nn2 nu2 nt2 hg) ⟨hx, hb, hml, hown, hts⟩ (cwV (C := R_Rf) 0 hts (gV wq467 wq469 wq23 wq46 wq470) rfl rfl rfl (by decide +kernel) ⟨Nat.le_of_ble_eq_true rfl, Nat.le_of_ble_eq_true rfl⟩) hK hP hD hS hA [0, 1, 2, 3, 4, 5] [] rfl rfl rfl rfl (by decide) (ci := 3) (q0 := 0) rfl rfl rfl rfl hl.1 rfl (Nat.le_of_ble_eq_true rfl) d_Rf_reset_15 ⟨Nat.zero_le _, Nat.zero_le _⟩ (fun H locs hn2 hP hD hS => ?_)
  have hP : va_P (dC, dI) vwCl [(hq, .inr (3, [.ref qm, .ref qf, .ref ql, .int nc2, .int nd2, .int nf2, .int na2, .int nz2, .int no2, .int ns2, .int nv2, .int np2, .ref qi, .int nn2, .ref qo, .int nt2])), (qm, .inl (cI, 104, .inl nm2)), (qf, .inl (cI, 104, .inl nb2)), (ql, .inl (cI, 4, .inl nl2)), (qi, .inl (cI, 24, .inl ni2)), (qo, .inl (cI, 16, .inl nu2))] H := hP
  have hD : va_D A [(hq, .inr (3, [.ref qm, .ref qf, .ref ql, .int nc2, .int nd2, .int nf2, .int na2, .int nz2, .int no2, .int ns2, .int nv2, .int np2, .ref qi, .int nn2, .ref qo, .int nt2])), (qm, .inl (cI, 104, .inl nm2)), (qf, .inl (cI, 104, .inl nb2)), (ql, .inl (cI, 4, .inl nl2)), (qi, .inl (cI, 24, .inl ni2)), (qo, .inl (cI, 16, .inl nu2))] := hD
  refine lv_if_eq (tgt := 25) hx hb d_Rf_reset_18 rfl (fun hc3 => ?_) (fun hc3 => ?_)
  · have hf := ift hf hc3
    refine lv_iconst (v := (-1)) hx hb d_Rf_reset_25 (by decide) ?_
    obtain ⟨e1_, e2_, e3_, e4_, e5_, e6_, e7_, e8_, e9_, e10_, e11_, e12_, e13_, e14_, e15_, e16_, e17_⟩ := lf17 hf
    subst e1_; subst e2_; subst e3_; subst e4_; subst e5_; subst e6_; subst e7_; subst e8_; subst e9_; subst e10_; subst e11_; subst e12_; subst e13_; subst e14_; subst e15_; subst e16_; subst e17_
    have hP9 := hP.sub (ws' := [(hq, .inr (3, [.ref qm, .ref qf, .ref ql, .int nc2, .int nd2, .int nf2, .int na2, .int nz2, .int no2, .int ns2, .int nv2, .int np2, .ref qi, .int nn2, .ref qo, .int nt2])), (qm, .inl (cI, 104, .inl nm2)), (qf, .inl (cI, 104, .inl nb2)), (ql, .inl (cI, 4, .inl nl2)), (qi, .inl (cI, 24, .inl ni2)), (qo, .inl (cI, 16, .inl nu2))]) [0, 1, 2, 3, 4, 5] rfl
    have hD9 := hD.sub (ws' := [(hq, .inr (3, [.ref qm, .ref qf, .ref ql, .int nc2, .int nd2, .int nf2, .int na2, .int nz2, .int no2, .int ns2, .int nv2, .int np2, .ref qi, .int nn2, .ref qo, .int nt2])), (qm, .inl (cI, 104, .inl nm2)), (qf, .inl (cI, 104, .inl nb2)), (ql, .inl (cI, 4, .inl nl2)), (qi, .inl (cI, 24, .inl ni2)), (qo, .inl (cI, 16, .inl nu2))]) [0, 1, 2, 3, 4, 5] (by decide) rfl
    exact W.iret (v := (-1)) hx hb hr (fun t ht hW => ⟨⟨(-1), (), rfl, rfl, by rw [ht]; exact hP9, va_K.moved hW.alike hK, hD9⟩, hS.F ht⟩) hS.2.2 d_Rf_reset_26
  have hf := ifn hf hc3
  refine lv_iload_n hx hb d_Rf_reset_21 rfl (lv_at hl 0 rfl) ?_
  refine lv_goto (tgt := 26) hx hb d_Rf_reset_22 rfl ?_
  obtain ⟨e1_, e2_, e3_, e4_, e5_, e6_, e7_, e8_, e9_, e10_, e11_, e12_, e13_, e14_, e15_, e16_, e17_⟩ := lf17 hf
  subst e1_; subst e2_; subst e3_; subst e4_; subst e5_; subst e6_; subst e7_; subst e8_; subst e9_; subst e10_; subst e11_; subst e12_; subst e13_; subst e14_; subst e15_; subst e16_; subst e17_
  have hP9 := hP.sub (ws' := [(hq, .inr (3, [.ref qm, .ref qf, .ref ql, .int nc2, .int nd2, .int nf2, .int na2, .int nz2, .int no2, .int ns2, .int nv2, .int np2, .ref qi, .int nn2, .ref qo, .int nt2])), (qm, .inl (cI, 104, .inl nm2)), (qf, .inl (cI, 104, .inl nb2)), (ql, .inl (cI, 4, .inl nl2)), (qi, .inl (cI, 24, .inl ni2)), (qo, .inl (cI, 16, .inl nu2))]) [0, 1, 2, 3, 4, 5] rfl
  have hD9 := hD.sub (ws' := [(hq, .inr (3, [.ref qm, .ref qf, .ref ql, .int nc2, .int nd2, .int nf2, .int na2, .int nz2, .int no2, .int ns2, .int nv2, .int np2, .ref qi, .int nn2, .ref qo, .int nt2])), (qm, .inl (cI, 104, .inl nm2)), (qf, .inl (cI, 104, .inl nb2)), (ql, .inl (cI, 4, .inl nl2)), (qi, .inl (cI, 24, .inl ni2)), (qo, .inl (cI, 16, .inl nu2))]) [0, 1, 2, 3, 4, 5] (by decide) rfl
  exact W.iret (v := nc1) hx hb hr (fun t ht hW => ⟨⟨nc1, (), rfl, rfl, by rw [ht]; exact hP9, va_K.moved hW.alike hK, hD9⟩, hS.F ht⟩) hS.2.2 d_Rf_reset_26
theorem d_Rf_put_0 : decode b_Rf_put 0 = .ok (.aload_n 0, 1) := by decide +kernel
theorem d_Rf_put_1 : decode b_Rf_put 1 = .ok (.getfield 19, 3) := by decide +kernel
theorem d_Rf_put_4 : decode b_Rf_put 4 = .ok (.ifCond .eq 25, 3) := by decide +kernel
theorem d_Rf_put_7 : decode b_Rf_put 7 = .ok (.iload_n 3, 1) := by decide +kernel
theorem d_Rf_put_8 : decode b_Rf_put 8 = .ok (.iconst 1, 1) := by decide +kernel
theorem d_Rf_put_9 : decode b_Rf_put 9 = .ok (.if_icmp .lt 20, 3) := by decide +kernel
theorem d_Rf_put_12 : decode b_Rf_put 12 = .ok (.iload_n 3, 1) := by decide +kernel
theorem d_Rf_put_13 : decode b_Rf_put 13 = .ok (.bipush 8, 2) := by decide +kernel
theorem d_Rf_put_15 : decode b_Rf_put 15 = .ok (.if_icmp .gt 14, 3) := by decide +kernel
theorem d_Rf_put_18 : decode b_Rf_put 18 = .ok (.aload_n 0, 1) := by decide +kernel
theorem d_Rf_put_19 : decode b_Rf_put 19 = .ok (.getfield 39, 3) := by decide +kernel
theorem d_Rf_put_22 : decode b_Rf_put 22 = .ok (.iload_n 3, 1) := by decide +kernel
theorem d_Rf_put_23 : decode b_Rf_put 23 = .ok (.iadd, 1) := by decide +kernel
theorem d_Rf_put_24 : decode b_Rf_put 24 = .ok (.bipush 24, 2) := by decide +kernel
theorem d_Rf_put_26 : decode b_Rf_put 26 = .ok (.if_icmp .le 5, 3) := by decide +kernel
theorem d_Rf_put_29 : decode b_Rf_put 29 = .ok (.iconst 0, 1) := by decide +kernel
theorem d_Rf_put_30 : decode b_Rf_put 30 = .ok (.ireturn, 1) := by decide +kernel
theorem d_Rf_put_31 : decode b_Rf_put 31 = .ok (.iload_n 3, 1) := by decide +kernel
theorem d_Rf_put_32 : decode b_Rf_put 32 = .ok (.iconst 1, 1) := by decide +kernel
theorem d_Rf_put_33 : decode b_Rf_put 33 = .ok (.isub, 1) := by decide +kernel
theorem d_Rf_put_34 : decode b_Rf_put 34 = .ok (.istore 4, 2) := by decide +kernel
theorem d_Rf_put_36 : decode b_Rf_put 36 = .ok (.iload 4, 2) := by decide +kernel
theorem d_Rf_put_38 : decode b_Rf_put 38 = .ok (.ifCond .lt 40, 3) := by decide +kernel
theorem d_Rf_put_41 : decode b_Rf_put 41 = .ok (.aload_n 0, 1) := by decide +kernel
theorem d_Rf_put_42 : decode b_Rf_put 42 = .ok (.getfield 27, 3) := by decide +kernel
theorem d_Rf_put_45 : decode b_Rf_put 45 = .ok (.aload_n 0, 1) := by decide +kernel
theorem d_Rf_put_46 : decode b_Rf_put 46 = .ok (.getfield 39, 3) := by decide +kernel
theorem d_Rf_put_49 : decode b_Rf_put 49 = .ok (.lload_n 1, 1) := by decide +kernel
theorem d_Rf_put_50 : decode b_Rf_put 50 = .ok (.bipush 8, 2) := by decide +kernel
theorem d_Rf_put_52 : decode b_Rf_put 52 = .ok (.iload 4, 2) := by decide +kernel
theorem d_Rf_put_54 : decode b_Rf_put 54 = .ok (.imul, 1) := by decide +kernel
theorem d_Rf_put_55 : decode b_Rf_put 55 = .ok (.lshr, 1) := by decide +kernel
theorem d_Rf_put_56 : decode b_Rf_put 56 = .ok (.ldc2_w 74, 3) := by decide +kernel
theorem d_Rf_put_59 : decode b_Rf_put 59 = .ok (.land, 1) := by decide +kernel
theorem d_Rf_put_60 : decode b_Rf_put 60 = .ok (.l2i, 1) := by decide +kernel
theorem d_Rf_put_61 : decode b_Rf_put 61 = .ok (.iastore, 1) := by decide +kernel
theorem d_Rf_put_62 : decode b_Rf_put 62 = .ok (.aload_n 0, 1) := by decide +kernel
theorem d_Rf_put_63 : decode b_Rf_put 63 = .ok (.dup, 1) := by decide +kernel
theorem d_Rf_put_64 : decode b_Rf_put 64 = .ok (.getfield 39, 3) := by decide +kernel
theorem d_Rf_put_67 : decode b_Rf_put 67 = .ok (.iconst 1, 1) := by decide +kernel
theorem d_Rf_put_68 : decode b_Rf_put 68 = .ok (.iadd, 1) := by decide +kernel
theorem d_Rf_put_69 : decode b_Rf_put 69 = .ok (.putfield 39, 3) := by decide +kernel
theorem d_Rf_put_72 : decode b_Rf_put 72 = .ok (.iinc 4 (-1), 3) := by decide +kernel
theorem d_Rf_put_75 : decode b_Rf_put 75 = .ok (.goto (-39), 3) := by decide +kernel
theorem d_Rf_put_78 : decode b_Rf_put 78 = .ok (.iconst 1, 1) := by decide +kernel
theorem d_Rf_put_79 : decode b_Rf_put 79 = .ok (.ireturn, 1) := by decide +kernel
def fRf_put_L36 : Nat → StR → Int64 → Int32 → Int32 → Option (Int32 × StR)
  | 0, _, _, _, _ => none
  | n + 1, (nm, nb, nl, nc, nd, nf, na, nz, no, ns, nv, np, ni, nn, nu, nt), v1, v3, v4 => if v4 < 0 then (some (1, nm, nb, nl, nc, nd, nf, na, nz, no, ns, nv, np, ni, nn, nu, nt)) else (ix nn 24 fun j6 => fRf_put_L36 n (nm, nb, nl, nc, nd, nf, na, nz, no, ns, nv, np, upd ni j6 (((v1 >>> ((8 * v4).toInt64 &&& 63)) &&& 255).toInt32), nn + 1, nu, nt) v1 v3 (v4 + (-1)))
def fRf_put (σ : StR) (a1 : Int64) (a2 : Int32) : Option (Int32 × StR) := match σ with | (nm, nb, nl, nc, nd, nf, na, nz, no, ns, nv, np, ni, nn, nu, nt) => if no = 0 then (some (0, nm, nb, nl, nc, nd, nf, na, nz, no, ns, nv, np, ni, nn, nu, nt)) else (if a2 < 1 then (some (0, nm, nb, nl, nc, nd, nf, na, nz, no, ns, nv, np, ni, nn, nu, nt)) else (if 8 < a2 then (some (0, nm, nb, nl, nc, nd, nf, na, nz, no, ns, nv, np, ni, nn, nu, nt)) else (if (nn + a2) ≤ 24 then (fRf_put_L36 300 (nm, nb, nl, nc, nd, nf, na, nz, no, ns, nv, np, ni, nn, nu, nt) a1 a2 (a2 - 1)) else (some (0, nm, nb, nl, nc, nd, nf, na, nz, no, ns, nv, np, ni, nn, nu, nt)))))
set_option maxHeartbeats 4000000 in
set_option maxRecDepth 100000 in
theorem ctRf_put (l : Launch) (dC : Nat → ClassId) (dI : Nat → Nat → Nat) (cI : ClassId) (hq qm qf ql qi qo : Nat) (nm : Nat → Int32) (nb : Nat → Int32) (nl : Nat → Int32) (nc : Int32) (nd : Int32) (nf : Int32) (na : Int32) (nz : Int32) (no : Int32) (ns : Int32) (nv : Int32) (np : Int32) (ni : Nat → Int32) (nn : Int32) (nu : Nat → Int32) (nt : Int32) (a1 : Int64) (a2 : Int32) (r : Int32) (nm' : Nat → Int32) (nb' : Nat → Int32) (nl' : Nat → Int32) (nc' : Int32) (nd' : Int32) (nf' : Int32) (na' : Int32) (nz' : Int32) (no' : Int32) (ns' : Int32) (nv' : Int32) (np' : Int32) (ni' : Nat → Int32) (nn' : Int32) (nu' : Nat → Int32) (nt' : Int32) (hf : fRf_put (nm, nb, nl, nc, nd, nf, na, nz, no, ns, nv, np, ni, nn, nu, nt) a1 a2 = some (r, nm', nb', nl', nc', nd', nf', na', nz', no', ns', nv', np', ni', nn', nu', nt')) : CtZ l y_Rf_put w_Rf_put ({ frames := 0, cells := 0, slots := 0, locals := 0 }) (dC, dI) [(cI, .int)] [.ref hq, .long a1, .int a2] [(hq, .inr (3, [.ref qm, .ref qf, .ref ql, .int nc, .int nd, .int nf, .int na, .int nz, .int no, .int ns, .int nv, .int np, .ref qi, .int nn, .ref qo, .int nt])), (qm, .inl (cI, 104, .inl nm)), (qf, .inl (cI, 104, .inl nb)), (ql, .inl (cI, 4, .inl nl)), (qi, .inl (cI, 24, .inl ni)), (qo, .inl (cI, 16, .inl nu))] [(hq, .inr (3, [.ref qm, .ref qf, .ref ql, .int nc', .int nd', .int nf', .int na', .int nz', .int no', .int ns', .int nv', .int np', .ref qi, .int nn', .ref qo, .int nt'])), (qm, .inl (cI, 104, .inl nm')), (qf, .inl (cI, 104, .inl nb')), (ql, .inl (cI, 4, .inl nl')), (qi, .inl (cI, 24, .inl ni')), (qo, .inl (cI, 16, .inl nu'))] r := by
  intro sz
  refine Met.ofW (cc := b_Rf_put) (maxL := 5) (ret := some .boolean) (by decide) rfl ?_
  intro p e s m args below meth c s₁ B hml hv
  obtain ⟨rfl, hsz, hP, hK, hD0⟩ := hv
  have hx := B.exec
  have hb := B.bytes
  have hr := B.returns
  have hts := atoms_spec (ws := w_Rf_put) B.pre
  have hown : s.vm.findClass R_Rf = some m.cls := findClass_of_methodNamed B.named
  have hlocks := B.notSynchronized
  subst hsz
  have hD := hD0.self (sz := s.heap.size)
  generalize hAe : va_A [(hq, .inr (3, [.ref qm, .ref qf, .ref ql, .int nc, .int nd, .int nf, .int na, .int nz, .int no, .int ns, .int nv, .int np, .ref qi, .int nn, .ref qo, .int nt])), (qm, .inl (cI, 104, .inl nm)), (qf, .inl (cI, 104, .inl nb)), (ql, .inl (cI, 4, .inl nl)), (qi, .inl (cI, 24, .inl ni)), (qo, .inl (cI, 16, .inl nu))] s.heap.size = A at hD ⊢
  have hA : ∀ q : Nat, s.heap.size ≤ q → A q := fun q h => by rw [← hAe]; exact Or.inr h
  have hS : va_S A s.heap s.heap [] := va_S.rf
  have hP : va_P (dC, dI) vwCl [(hq, .inr (3, [.ref qm, .ref qf, .ref ql, .int nc, .int nd, .int nf, .int na, .int nz, .int no, .int ns, .int nv, .int np, .ref qi, .int nn, .ref qo, .int nt])), (qm, .inl (cI, 104, .inl nm)), (qf, .inl (cI, 104, .inl nb)), (ql, .inl (cI, 4, .inl nl)), (qi, .inl (cI, 24, .inl ni)), (qo, .inl (cI, 16, .inl nu))] s.heap := hP
  have hl := lv_entry ([.ref hq, .long a1, .int a2]) (n := 5) (Nat.le_of_ble_eq_true rfl)
  rw [lg_entry_eq]
  generalize (lg_sl ([.ref hq, .long a1, .int a2]) ++ List.replicate (5 - (lg_sl ([.ref hq, .long a1, .int a2])).length) Slot.unset).toArray = ls at hl ⊢
  have hl : lv_has ls 5 [(0, .ref hq), (1, .long a1), (3, .int a2)] := hl
  have inRf : ∀ w ∈ u_ws R_Rf F_Rf 16, w ∈ w_Rf_put := fun w h => List.mem_cons_of_mem _ (in_Rf w h)
  have kf19 := hts _ (List.mem_cons_of_mem _ wq414)
  have kf27 := hts _ (List.mem_cons_of_mem _ wq418)
  have kf39 := hts _ (List.mem_cons_of_mem _ wq419)
  have kl74 := hts _ (List.mem_cons_of_mem _ wq483)
  rw [fRf_put] at hf
  refine lv_aload_n hx hb d_Rf_put_0 rfl (lv_at hl 0 rfl) ?_
  refine va_get (D := (dC, dI)) (ci := 3) (v := .int no) (C := R_Rf) (T := F_Rf) (N := 16) hx hb hts inRf hown hK hP 0 rfl rfl 8 (by decide) kf19 (fun _ h9 => h9) rfl d_Rf_put_1 ?_
  refine lv_if_eq (tgt := 29) hx hb d_Rf_put_4 rfl (fun hc1 => ?_) (fun hc1 => ?_)
  · have hf := ift hf hc1
    refine lv_iconst (v := 0) hx hb d_Rf_put_29 (by decide) ?_
    obtain ⟨e1_, e2_, e3_, e4_, e5_, e6_, e7_, e8_, e9_, e10_, e11_, e12_, e13_, e14_, e15_, e16_, e17_⟩ := lf17 hf
    subst e1_; subst e2_; subst e3_; subst e4_; subst e5_; subst e6_; subst e7_; subst e8_; subst e9_; subst e10_; subst e11_; subst e12_; subst e13_; subst e14_; subst e15_; subst e16_; subst e17_
    have hP9 := hP.sub (ws' := [(hq, .inr (3, [.ref qm, .ref qf, .ref ql, .int nc, .int nd, .int nf, .int na, .int nz, .int no, .int ns, .int nv, .int np, .ref qi, .int nn, .ref qo, .int nt])), (qm, .inl (cI, 104, .inl nm)), (qf, .inl (cI, 104, .inl nb)), (ql, .inl (cI, 4, .inl nl)), (qi, .inl (cI, 24, .inl ni)), (qo, .inl (cI, 16, .inl nu))]) [0, 1, 2, 3, 4, 5] rfl
    have hD9 := hD.sub (ws' := [(hq, .inr (3, [.ref qm, .ref qf, .ref ql, .int nc, .int nd, .int nf, .int na, .int nz, .int no, .int ns, .int nv, .int np, .ref qi, .int nn, .ref qo, .int nt])), (qm, .inl (cI, 104, .inl nm)), (qf, .inl (cI, 104, .inl nb)), (ql, .inl (cI, 4, .inl nl)), (qi, .inl (cI, 24, .inl ni)), (qo, .inl (cI, 16, .inl nu))]) [0, 1, 2, 3, 4, 5] (by decide) rfl
    exact W.zret (v := 0) (ty := .boolean) hx hb hr rfl (fun t ht hW => ⟨⟨0, (), rfl, ⟨rfl, rfl⟩, by rw [ht]; exact hP9, va_K.moved hW.alike hK, hD9⟩, hS.F ht⟩) hS.2.2 d_Rf_put_30
  have hf := ifn hf hc1
  refine lv_iload_n hx hb d_Rf_put_7 rfl (lv_at hl 2 rfl) ?_
  refine lv_iconst (v := 1) hx hb d_Rf_put_8 (by decide) ?_
  refine lv_icmp_lt (tgt := 29) hx hb d_Rf_put_9 rfl (fun hc2 => ?_) (fun hc2 => ?_)
  · have hf := ift hf hc2
    refine lv_iconst (v := 0) hx hb d_Rf_put_29 (by decide) ?_
    obtain ⟨e1_, e2_, e3_, e4_, e5_, e6_, e7_, e8_, e9_, e10_, e11_, e12_, e13_, e14_, e15_, e16_, e17_⟩ := lf17 hf
    subst e1_; subst e2_; subst e3_; subst e4_; subst e5_; subst e6_; subst e7_; subst e8_; subst e9_; subst e10_; subst e11_; subst e12_; subst e13_; subst e14_; subst e15_; subst e16_; subst e17_
    have hP9 := hP.sub (ws' := [(hq, .inr (3, [.ref qm, .ref qf, .ref ql, .int nc, .int nd, .int nf, .int na, .int nz, .int no, .int ns, .int nv, .int np, .ref qi, .int nn, .ref qo, .int nt])), (qm, .inl (cI, 104, .inl nm)), (qf, .inl (cI, 104, .inl nb)), (ql, .inl (cI, 4, .inl nl)), (qi, .inl (cI, 24, .inl ni)), (qo, .inl (cI, 16, .inl nu))]) [0, 1, 2, 3, 4, 5] rfl
    have hD9 := hD.sub (ws' := [(hq, .inr (3, [.ref qm, .ref qf, .ref ql, .int nc, .int nd, .int nf, .int na, .int nz, .int no, .int ns, .int nv, .int np, .ref qi, .int nn, .ref qo, .int nt])), (qm, .inl (cI, 104, .inl nm)), (qf, .inl (cI, 104, .inl nb)), (ql, .inl (cI, 4, .inl nl)), (qi, .inl (cI, 24, .inl ni)), (qo, .inl (cI, 16, .inl nu))]) [0, 1, 2, 3, 4, 5] (by decide) rfl
    exact W.zret (v := 0) (ty := .boolean) hx hb hr rfl (fun t ht hW => ⟨⟨0, (), rfl, ⟨rfl, rfl⟩, by rw [ht]; exact hP9, va_K.moved hW.alike hK, hD9⟩, hS.F ht⟩) hS.2.2 d_Rf_put_30
  have hf := ifn hf hc2
  refine lv_iload_n hx hb d_Rf_put_12 rfl (lv_at hl 2 rfl) ?_
  refine lv_bipush (v := 8) hx hb d_Rf_put_13 (by decide) ?_
  refine lv_icmp_gt (tgt := 29) hx hb d_Rf_put_15 rfl (fun hc3 => ?_) (fun hc3 => ?_)
  · have hf := ift hf hc3
    refine lv_iconst (v := 0) hx hb d_Rf_put_29 (by decide) ?_
    obtain ⟨e1_, e2_, e3_, e4_, e5_, e6_, e7_, e8_, e9_, e10_, e11_, e12_, e13_, e14_, e15_, e16_, e17_⟩ := lf17 hf
    subst e1_; subst e2_; subst e3_; subst e4_; subst e5_; subst e6_; subst e7_; subst e8_; subst e9_; subst e10_; subst e11_; subst e12_; subst e13_; subst e14_; subst e15_; subst e16_; subst e17_
    have hP9 := hP.sub (ws' := [(hq, .inr (3, [.ref qm, .ref qf, .ref ql, .int nc, .int nd, .int nf, .int na, .int nz, .int no, .int ns, .int nv, .int np, .ref qi, .int nn, .ref qo, .int nt])), (qm, .inl (cI, 104, .inl nm)), (qf, .inl (cI, 104, .inl nb)), (ql, .inl (cI, 4, .inl nl)), (qi, .inl (cI, 24, .inl ni)), (qo, .inl (cI, 16, .inl nu))]) [0, 1, 2, 3, 4, 5] rfl
    have hD9 := hD.sub (ws' := [(hq, .inr (3, [.ref qm, .ref qf, .ref ql, .int nc, .int nd, .int nf, .int na, .int nz, .int no, .int ns, .int nv, .int np, .ref qi, .int nn, .ref qo, .int nt])), (qm, .inl (cI, 104, .inl nm)), (qf, .inl (cI, 104, .inl nb)), (ql, .inl (cI, 4, .inl nl)), (qi, .inl (cI, 24, .inl ni)), (qo, .inl (cI, 16, .inl nu))]) [0, 1, 2, 3, 4, 5] (by decide) rfl
    exact W.zret (v := 0) (ty := .boolean) hx hb hr rfl (fun t ht hW => ⟨⟨0, (), rfl, ⟨rfl, rfl⟩, by rw [ht]; exact hP9, va_K.moved hW.alike hK, hD9⟩, hS.F ht⟩) hS.2.2 d_Rf_put_30
  have hf := ifn hf hc3
  refine lv_aload_n hx hb d_Rf_put_18 rfl (lv_at hl 0 rfl) ?_
  refine va_get (D := (dC, dI)) (ci := 3) (v := .int nn) (C := R_Rf) (T := F_Rf) (N := 16) hx hb hts inRf hown hK hP 0 rfl rfl 13 (by decide) kf39 (fun _ h9 => h9) rfl d_Rf_put_19 ?_
  refine lv_iload_n hx hb d_Rf_put_22 rfl (lv_at hl 2 rfl) ?_
  refine lv_iadd hx hb d_Rf_put_23 ?_
  refine lv_bipush (v := 24) hx hb d_Rf_put_24 (by decide) ?_
  refine lv_icmp_le (tgt := 31) hx hb d_Rf_put_26 rfl (fun hc4 => ?_) (fun hc4 => ?_)
  · have hf := ift hf hc4
    refine lv_iload_n hx hb d_Rf_put_31 rfl (lv_at hl 2 rfl) ?_
    refine lv_iconst (v := 1) hx hb d_Rf_put_32 (by decide) ?_
    refine lv_isub hx hb d_Rf_put_33 ?_
    refine lv_istore hx hb d_Rf_put_34 hl (by decide) rfl (fun ls hl => ?_)
    have hl : lv_has ls 5 [(4, .int (a2 - 1)), (0, .ref hq), (1, .long a1), (3, .int a2)] := hl
    have hl := lv_sub (l' := [(0, .ref hq), (1, .long a1), (3, .int a2), (4, .int (a2 - 1))]) hl [1, 2, 3, 0] rfl
    refine xloop (σ := (Nat → Int32) × (Nat → Int32) × (Nat → Int32) × (Int32) × (Int32) × (Int32) × (Int32) × (Int32) × (Int32) × (Int32) × (Int32) × (Int32) × (Nat → Int32) × (Int32) × (Nat → Int32) × (Int32) × (Int64) × (Int32) × (Int32)) (pc := 36) (fun n x H locs ls => va_P (dC, dI) vwCl [(hq, .inr (3, [.ref qm, .ref qf, .ref ql, .int (x.2.2.2.1), .int (x.2.2.2.2.1), .int (x.2.2.2.2.2.1), .int (x.2.2.2.2.2.2.1), .int (x.2.2.2.2.2.2.2.1), .int (x.2.2.2.2.2.2.2.2.1), .int (x.2.2.2.2.2.2.2.2.2.1), .int (x.2.2.2.2.2.2.2.2.2.2.1), .int (x.2.2.2.2.2.2.2.2.2.2.2.1), .ref qi, .int (x.2.2.2.2.2.2.2.2.2.2.2.2.2.1), .ref qo, .int (x.2.2.2.2.2.2.2.2.2.2.2.2.2.2.2.1)])), (qm, .inl (cI, 104, .inl (x.1))), (qf, .inl (cI, 104, .inl (x.2.1))), (ql, .inl (cI, 4, .inl (x.2.2.1))), (qi, .inl (cI, 24, .inl (x.2.2.2.2.2.2.2.2.2.2.2.2.1))), (qo, .inl (cI, 16, .inl (x.2.2.2.2.2.2.2.2.2.2.2.2.2.2.1)))] H ∧ va_D A [(hq, .inr (3, [.ref qm, .ref qf, .ref ql, .int (x.2.2.2.1), .int (x.2.2.2.2.1), .int (x.2.2.2.2.2.1), .int (x.2.2.2.2.2.2.1), .int (x.2.2.2.2.2.2.2.1), .int (x.2.2.2.2.2.2.2.2.1), .int (x.2.2.2.2.2.2.2.2.2.1), .int (x.2.2.2.2.2.2.2.2.2.2.1), .int (x.2.2.2.2.2.2.2.2.2.2.2.1), .ref qi, .int (x.2.2.2.2.2.2.2.2.2.2.2.2.2.1), .ref qo, .int (x.2.2.2.2.2.2.2.2.2.2.2.2.2.2.2.1)])), (qm, .inl (cI, 104, .inl (x.1))), (qf, .inl (cI, 104, .inl (x.2.1))), (ql, .inl (cI, 4, .inl (x.2.2.1))), (qi, .inl (cI, 24, .inl (x.2.2.2.2.2.2.2.2.2.2.2.2.1))), (qo, .inl (cI, 16, .inl (x.2.2.2.2.2.2.2.2.2.2.2.2.2.2.1)))] ∧ va_S A s.heap H locs ∧ lv_has ls 5 [(0, .ref hq), (1, .long (x.2.2.2.2.2.2.2.2.2.2.2.2.2.2.2.2.1)), (3, .int (x.2.2.2.2.2.2.2.2.2.2.2.2.2.2.2.2.2.1)), (4, .int (x.2.2.2.2.2.2.2.2.2.2.2.2.2.2.2.2.2.2))] ∧ fRf_put_L36 n (x.1, x.2.1, x.2.2.1, x.2.2.2.1, x.2.2.2.2.1, x.2.2.2.2.2.1, x.2.2.2.2.2.2.1, x.2.2.2.2.2.2.2.1, x.2.2.2.2.2.2.2.2.1, x.2.2.2.2.2.2.2.2.2.1, x.2.2.2.2.2.2.2.2.2.2.1, x.2.2.2.2.2.2.2.2.2.2.2.1, x.2.2.2.2.2.2.2.2.2.2.2.2.1, x.2.2.2.2.2.2.2.2.2.2.2.2.2.1, x.2.2.2.2.2.2.2.2.2.2.2.2.2.2.1, x.2.2.2.2.2.2.2.2.2.2.2.2.2.2.2.1) x.2.2.2.2.2.2.2.2.2.2.2.2.2.2.2.2.1 x.2.2.2.2.2.2.2.2.2.2.2.2.2.2.2.2.2.1 x.2.2.2.2.2.2.2.2.2.2.2.2.2.2.2.2.2.2 = some (r, nm', nb', nl', nc', nd', nf', na', nz', no', ns', nv', np', ni', nn', nu', nt')) ?_ (fun x H locs ls h => by have h9 := h.2.2.2.2; rw [fRf_put_L36] at h9; cases h9) 300 (nm, nb, nl, nc, nd, nf, na, nz, no, ns, nv, np, ni, nn, nu, nt, a1, a2, a2 - 1) _ _ ls ⟨hP, hD, hS, hl, hf⟩
    intro n ih x H locs ls hI
    obtain ⟨nm, nb, nl, nc, nd, nf, na, nz, no, ns, nv, np, ni, nn, nu, nt, v1, v3, v4⟩ := x
    obtain ⟨hP, hD, hS, hl, hf⟩ := hI
    have hP : va_P (dC, dI) vwCl [(hq, .inr (3, [.ref qm, .ref qf, .ref ql, .int nc, .int nd, .int nf, .int na, .int nz, .int no, .int ns, .int nv, .int np, .ref qi, .int nn, .ref qo, .int nt])), (qm, .inl (cI, 104, .inl nm)), (qf, .inl (cI, 104, .inl nb)), (ql, .inl (cI, 4, .inl nl)), (qi, .inl (cI, 24, .inl ni)), (qo, .inl (cI, 16, .inl nu))] H := hP
    have hD : va_D A [(hq, .inr (3, [.ref qm, .ref qf, .ref ql, .int nc, .int nd, .int nf, .int na, .int nz, .int no, .int ns, .int nv, .int np, .ref qi, .int nn, .ref qo, .int nt])), (qm, .inl (cI, 104, .inl nm)), (qf, .inl (cI, 104, .inl nb)), (ql, .inl (cI, 4, .inl nl)), (qi, .inl (cI, 24, .inl ni)), (qo, .inl (cI, 16, .inl nu))] := hD
    have hl : lv_has ls 5 [(0, .ref hq), (1, .long v1), (3, .int v3), (4, .int v4)] := hl
    rw [fRf_put_L36] at hf
    refine lv_iload hx hb d_Rf_put_36 (lv_at hl 3 rfl) ?_
    refine lv_if_lt (tgt := 78) hx hb d_Rf_put_38 rfl (fun hc5 => ?_) (fun hc5 => ?_)
    · have hf := ift hf hc5
      refine lv_iconst (v := 1) hx hb d_Rf_put_78 (by decide) ?_
      obtain ⟨e1_, e2_, e3_, e4_, e5_, e6_, e7_, e8_, e9_, e10_, e11_, e12_, e13_, e14_, e15_, e16_, e17_⟩ := lf17 hf
      subst e1_; subst e2_; subst e3_; subst e4_; subst e5_; subst e6_; subst e7_; subst e8_; subst e9_; subst e10_; subst e11_; subst e12_; subst e13_; subst e14_; subst e15_; subst e16_; subst e17_
      have hP9 := hP.sub (ws' := [(hq, .inr (3, [.ref qm, .ref qf, .ref ql, .int nc, .int nd, .int nf, .int na, .int nz, .int no, .int ns, .int nv, .int np, .ref qi, .int nn, .ref qo, .int nt])), (qm, .inl (cI, 104, .inl nm)), (qf, .inl (cI, 104, .inl nb)), (ql, .inl (cI, 4, .inl nl)), (qi, .inl (cI, 24, .inl ni)), (qo, .inl (cI, 16, .inl nu))]) [0, 1, 2, 3, 4, 5] rfl
      have hD9 := hD.sub (ws' := [(hq, .inr (3, [.ref qm, .ref qf, .ref ql, .int nc, .int nd, .int nf, .int na, .int nz, .int no, .int ns, .int nv, .int np, .ref qi, .int nn, .ref qo, .int nt])), (qm, .inl (cI, 104, .inl nm)), (qf, .inl (cI, 104, .inl nb)), (ql, .inl (cI, 4, .inl nl)), (qi, .inl (cI, 24, .inl ni)), (qo, .inl (cI, 16, .inl nu))]) [0, 1, 2, 3, 4, 5] (by decide) rfl
      exact W.zret (v := 1) (ty := .boolean) hx hb hr rfl (fun t ht hW => ⟨⟨1, (), rfl, ⟨rfl, rfl⟩, by rw [ht]; exact hP9, va_K.moved hW.alike hK, hD9⟩, hS.F ht⟩) hS.2.2 d_Rf_put_79
    have hf := ifn hf hc5
    refine lv_aload_n hx hb d_Rf_put_41 rfl (lv_at hl 0 rfl) ?_
    refine va_get (D := (dC, dI)) (ci := 3) (v := .ref qi) (C := R_Rf) (T := F_Rf) (N := 16) hx hb hts inRf hown hK hP 0 rfl rfl 12 (by decide) kf27 (fun _ h9 => h9) rfl d_Rf_put_42 ?_
    refine lv_aload_n hx hb d_Rf_put_45 rfl (lv_at hl 0 rfl) ?_
    refine va_get (D := (dC, dI)) (ci := 3) (v := .int nn) (C := R_Rf) (T := F_Rf) (N := 16) hx hb hts inRf hown hK hP 0 rfl rfl 13 (by decide) kf39 (fun _ h9 => h9) rfl d_Rf_put_46 ?_
    refine lv_lload_n hx hb d_Rf_put_49 rfl (lv_at hl 1 rfl) ?_
    refine lv_bipush (v := 8) hx hb d_Rf_put_50 (by decide) ?_
    refine lv_iload hx hb d_Rf_put_52 (lv_at hl 3 rfl) ?_
    refine lv_imul hx hb d_Rf_put_54 ?_
    refine lv_lshr (v := v1 >>> ((8 * v4).toInt64 &&& 63)) hx hb d_Rf_put_55 rfl ?_
    refine lv_ldc2 (v := 255) hx hb hown kl74 d_Rf_put_56 ?_
    refine lv_land hx hb d_Rf_put_59 ?_
    refine lv_l2i (v := ((v1 >>> ((8 * v4).toInt64 &&& 63)) &&& 255).toInt32) hx hb d_Rf_put_60 rfl ?_
    obtain ⟨hin_, hf⟩ := ix_some hf
    refine va_iast hx hb hK hP hD hS 4 0 rfl rfl hin_ d_Rf_put_61 (fun H locs hP hD hS => ?_)
    have hP : va_P (dC, dI) vwCl [(hq, .inr (3, [.ref qm, .ref qf, .ref ql, .int nc, .int nd, .int nf, .int na, .int nz, .int no, .int ns, .int nv, .int np, .ref qi, .int nn, .ref qo, .int nt])), (qm, .inl (cI, 104, .inl nm)), (qf, .inl (cI, 104, .inl nb)), (ql, .inl (cI, 4, .inl nl)), (qi, .inl (cI, 24, .inl (upd ni (nn : Int32).toNatClampNeg (((v1 >>> ((8 * v4).toInt64 &&& 63)) &&& 255).toInt32)))), (qo, .inl (cI, 16, .inl nu))] H := hP
    have hD : va_D A [(hq, .inr (3, [.ref qm, .ref qf, .ref ql, .int nc, .int nd, .int nf, .int na, .int nz, .int no, .int ns, .int nv, .int np, .ref qi, .int nn, .ref qo, .int nt])), (qm, .inl (cI, 104, .inl nm)), (qf, .inl (cI, 104, .inl nb)), (ql, .inl (cI, 4, .inl nl)), (qi, .inl (cI, 24, .inl (upd ni (nn : Int32).toNatClampNeg (((v1 >>> ((8 * v4).toInt64 &&& 63)) &&& 255).toInt32)))), (qo, .inl (cI, 16, .inl nu))] := hD
    refine lv_aload_n hx hb d_Rf_put_62 rfl (lv_at hl 0 rfl) ?_
    refine lv_dup hx hb d_Rf_put_63 rfl ?_
    refine va_get (D := (dC, dI)) (ci := 3) (v := .int nn) (C := R_Rf) (T := F_Rf) (N := 16) hx hb hts inRf hown hK hP 0 rfl rfl 13 (by decide) kf39 (fun _ h9 => h9) rfl d_Rf_put_64 ?_
    refine lv_iconst (v := 1) hx hb d_Rf_put_67 (by decide) ?_
    refine lv_iadd hx hb d_Rf_put_68 ?_
    refine va_put (D := (dC, dI)) (ci := 3) (v := .int (nn + 1)) (ty := .int) (C := R_Rf) (T := F_Rf) (N := 16) hx hb hts inRf t_Rf t_Rf_ok n_Rf hown hK hP hD hS 0 rfl rfl 13 (by decide) kf39 (fun _ h9 => h9) rfl (by decide +kernel) rfl rfl (Nat.le_of_ble_eq_true rfl) d_Rf_put_69 (fun H locs hP hD hS => ?_)
    have hP : va_P (dC, dI) vwCl [(hq, .inr (3, [.ref qm, .ref qf, .ref ql, .int nc, .int nd, .int nf, .int na, .int nz, .int no, .int ns, .int nv, .int np, .ref qi, .int (nn + 1), .ref qo, .int nt])), (qm, .inl (cI, 104, .inl nm)), (qf, .inl (cI, 104, .inl nb)), (ql, .inl (cI, 4, .inl nl)), (qi, .inl (cI, 24, .inl (upd ni (nn : Int32).toNatClampNeg (((v1 >>> ((8 * v4).toInt64 &&& 63)) &&& 255).toInt32)))), (qo, .inl (cI, 16, .inl nu))] H := hP
    have hD : va_D A [(hq, .inr (3, [.ref qm, .ref qf, .ref ql, .int nc, .int nd, .int nf, .int na, .int nz, .int no, .int ns, .int nv, .int np, .ref qi, .int (nn + 1), .ref qo, .int nt])), (qm, .inl (cI, 104, .inl nm)), (qf, .inl (cI, 104, .inl nb)), (ql, .inl (cI, 4, .inl nl)), (qi, .inl (cI, 24, .inl (upd ni (nn : Int32).toNatClampNeg (((v1 >>> ((8 * v4).toInt64 &&& 63)) &&& 255).toInt32)))), (qo, .inl (cI, 16, .inl nu))] := hD
    refine lv_iinc (v := v4 + (-1)) hx hb d_Rf_put_72 hl (k := 3) rfl rfl (by decide) rfl (fun ls hl => ?_)
    have hl : lv_has ls 5 [(4, .int (v4 + (-1))), (0, .ref hq), (1, .long v1), (3, .int v3)] := hl
    refine lv_goto (tgt := 36) hx hb d_Rf_put_75 rfl ?_
    have hl := lv_sub (l' := [(0, .ref hq), (1, .long v1), (3, .int v3), (4, .int (v4 + (-1)))]) hl [1, 2, 3, 0] rfl
    exact ih (nm, nb, nl, nc, nd, nf, na, nz, no, ns, nv, np, upd ni (nn : Int32).toNatClampNeg (((v1 >>> ((8 * v4).toInt64 &&& 63)) &&& 255).toInt32), nn + 1, nu, nt, v1, v3, v4 + (-1)) _ _ ls ⟨hP, hD, hS, hl, hf⟩
  have hf := ifn hf hc4
  refine lv_iconst (v := 0) hx hb d_Rf_put_29 (by decide) ?_
  obtain ⟨e1_, e2_, e3_, e4_, e5_, e6_, e7_, e8_, e9_, e10_, e11_, e12_, e13_, e14_, e15_, e16_, e17_⟩ := lf17 hf
  subst e1_; subst e2_; subst e3_; subst e4_; subst e5_; subst e6_; subst e7_; subst e8_; subst e9_; subst e10_; subst e11_; subst e12_; subst e13_; subst e14_; subst e15_; subst e16_; subst e17_
  have hP9 := hP.sub (ws' := [(hq, .inr (3, [.ref qm, .ref qf, .ref ql, .int nc, .int nd, .int nf, .int na, .int nz, .int no, .int ns, .int nv, .int np, .ref qi, .int nn, .ref qo, .int nt])), (qm, .inl (cI, 104, .inl nm)), (qf, .inl (cI, 104, .inl nb)), (ql, .inl (cI, 4, .inl nl)), (qi, .inl (cI, 24, .inl ni)), (qo, .inl (cI, 16, .inl nu))]) [0, 1, 2, 3, 4, 5] rfl
  have hD9 := hD.sub (ws' := [(hq, .inr (3, [.ref qm, .ref qf, .ref ql, .int nc, .int nd, .int nf, .int na, .int nz, .int no, .int ns, .int nv, .int np, .ref qi, .int nn, .ref qo, .int nt])), (qm, .inl (cI, 104, .inl nm)), (qf, .inl (cI, 104, .inl nb)), (ql, .inl (cI, 4, .inl nl)), (qi, .inl (cI, 24, .inl ni)), (qo, .inl (cI, 16, .inl nu))]) [0, 1, 2, 3, 4, 5] (by decide) rfl
  exact W.zret (v := 0) (ty := .boolean) hx hb hr rfl (fun t ht hW => ⟨⟨0, (), rfl, ⟨rfl, rfl⟩, by rw [ht]; exact hP9, va_K.moved hW.alike hK, hD9⟩, hS.F ht⟩) hS.2.2 d_Rf_put_30
theorem d_Rf_shape_0 : decode b_Rf_shape 0 = .ok (.aload_n 0, 1) := by decide +kernel
theorem d_Rf_shape_1 : decode b_Rf_shape 1 = .ok (.getfield 39, 3) := by decide +kernel
theorem d_Rf_shape_4 : decode b_Rf_shape 4 = .ok (.bipush 6, 2) := by decide +kernel
theorem d_Rf_shape_6 : decode b_Rf_shape 6 = .ok (.if_icmp .ge 22, 3) := by decide +kernel
theorem d_Rf_shape_9 : decode b_Rf_shape 9 = .ok (.aload_n 0, 1) := by decide +kernel
theorem d_Rf_shape_10 : decode b_Rf_shape 10 = .ok (.getfield 39, 3) := by decide +kernel
theorem d_Rf_shape_13 : decode b_Rf_shape 13 = .ok (.iconst 4, 1) := by decide +kernel
theorem d_Rf_shape_14 : decode b_Rf_shape 14 = .ok (.if_icmp .ge 7, 3) := by decide +kernel
theorem d_Rf_shape_17 : decode b_Rf_shape 17 = .ok (.iconst 0, 1) := by decide +kernel
theorem d_Rf_shape_18 : decode b_Rf_shape 18 = .ok (.goto 9, 3) := by decide +kernel
theorem d_Rf_shape_21 : decode b_Rf_shape 21 = .ok (.aload_n 0, 1) := by decide +kernel
theorem d_Rf_shape_22 : decode b_Rf_shape 22 = .ok (.getfield 39, 3) := by decide +kernel
theorem d_Rf_shape_25 : decode b_Rf_shape 25 = .ok (.iconst 3, 1) := by decide +kernel
theorem d_Rf_shape_26 : decode b_Rf_shape 26 = .ok (.isub, 1) := by decide +kernel
theorem d_Rf_shape_27 : decode b_Rf_shape 27 = .ok (.ireturn, 1) := by decide +kernel
theorem d_Rf_shape_28 : decode b_Rf_shape 28 = .ok (.aload_n 0, 1) := by decide +kernel
theorem d_Rf_shape_29 : decode b_Rf_shape 29 = .ok (.getfield 27, 3) := by decide +kernel
theorem d_Rf_shape_32 : decode b_Rf_shape 32 = .ok (.iconst 4, 1) := by decide +kernel
theorem d_Rf_shape_33 : decode b_Rf_shape 33 = .ok (.iaload, 1) := by decide +kernel
theorem d_Rf_shape_34 : decode b_Rf_shape 34 = .ok (.istore_n 1, 1) := by decide +kernel
theorem d_Rf_shape_35 : decode b_Rf_shape 35 = .ok (.iload_n 1, 1) := by decide +kernel
theorem d_Rf_shape_36 : decode b_Rf_shape 36 = .ok (.ifCond .ne 7, 3) := by decide +kernel
theorem d_Rf_shape_39 : decode b_Rf_shape 39 = .ok (.iconst 0, 1) := by decide +kernel
theorem d_Rf_shape_40 : decode b_Rf_shape 40 = .ok (.goto 33, 3) := by decide +kernel
theorem d_Rf_shape_43 : decode b_Rf_shape 43 = .ok (.aload_n 0, 1) := by decide +kernel
theorem d_Rf_shape_44 : decode b_Rf_shape 44 = .ok (.getfield 39, 3) := by decide +kernel
theorem d_Rf_shape_47 : decode b_Rf_shape 47 = .ok (.iconst 5, 1) := by decide +kernel
theorem d_Rf_shape_48 : decode b_Rf_shape 48 = .ok (.iload_n 1, 1) := by decide +kernel
theorem d_Rf_shape_49 : decode b_Rf_shape 49 = .ok (.iadd, 1) := by decide +kernel
theorem d_Rf_shape_50 : decode b_Rf_shape 50 = .ok (.if_icmp .ne 7, 3) := by decide +kernel
theorem d_Rf_shape_53 : decode b_Rf_shape 53 = .ok (.iconst 3, 1) := by decide +kernel
theorem d_Rf_shape_54 : decode b_Rf_shape 54 = .ok (.goto 19, 3) := by decide +kernel
theorem d_Rf_shape_57 : decode b_Rf_shape 57 = .ok (.aload_n 0, 1) := by decide +kernel
theorem d_Rf_shape_58 : decode b_Rf_shape 58 = .ok (.getfield 39, 3) := by decide +kernel
theorem d_Rf_shape_61 : decode b_Rf_shape 61 = .ok (.bipush 6, 2) := by decide +kernel
theorem d_Rf_shape_63 : decode b_Rf_shape 63 = .ok (.iload_n 1, 1) := by decide +kernel
theorem d_Rf_shape_64 : decode b_Rf_shape 64 = .ok (.iadd, 1) := by decide +kernel
theorem d_Rf_shape_65 : decode b_Rf_shape 65 = .ok (.if_icmp .ne 7, 3) := by decide +kernel
theorem d_Rf_shape_68 : decode b_Rf_shape 68 = .ok (.iconst 4, 1) := by decide +kernel
theorem d_Rf_shape_69 : decode b_Rf_shape 69 = .ok (.goto 4, 3) := by decide +kernel
theorem d_Rf_shape_72 : decode b_Rf_shape 72 = .ok (.iconst 0, 1) := by decide +kernel
theorem d_Rf_shape_73 : decode b_Rf_shape 73 = .ok (.ireturn, 1) := by decide +kernel
def fRf_shape (σ : StR) : Option (Int32) := match σ with | (nm, nb, nl, nc, nd, nf, na, nz, no, ns, nv, np, ni, nn, nu, nt) => if 6 ≤ nn then (ix 4 24 fun j2 => if (ni j2) = 0 then (some 0) else (if nn = (5 + (ni j2)) then (some 3) else (if nn = (6 + (ni j2)) then (some 4) else (some 0)))) else (if 4 ≤ nn then (some (nn - 3)) else (some 0))
set_option maxHeartbeats 4000000 in
set_option maxRecDepth 100000 in
theorem ctRf_shape (l : Launch) (dC : Nat → ClassId) (dI : Nat → Nat → Nat) (cI : ClassId) (hq qm qf ql qi qo : Nat) (nm : Nat → Int32) (nb : Nat → Int32) (nl : Nat → Int32) (nc : Int32) (nd : Int32) (nf : Int32) (na : Int32) (nz : Int32) (no : Int32) (ns : Int32) (nv : Int32) (np : Int32) (ni : Nat → Int32) (nn : Int32) (nu : Nat → Int32) (nt : Int32) (r : Int32) (hf : fRf_shape (nm, nb, nl, nc, nd, nf, na, nz, no, ns, nv, np, ni, nn, nu, nt) = some r) : CtI l y_Rf_shape w_Rf_shape ({ frames := 0, cells := 0, slots := 0, locals := 0 }) (dC, dI) [(cI, .int)] [.ref hq] [(hq, .inr (3, [.ref qm, .ref qf, .ref ql, .int nc, .int nd, .int nf, .int na, .int nz, .int no, .int ns, .int nv, .int np, .ref qi, .int nn, .ref qo, .int nt])), (qm, .inl (cI, 104, .inl nm)), (qf, .inl (cI, 104, .inl nb)), (ql, .inl (cI, 4, .inl nl)), (qi, .inl (cI, 24, .inl ni)), (qo, .inl (cI, 16, .inl nu))] [(hq, .inr (3, [.ref qm, .ref qf, .ref ql, .int nc, .int nd, .int nf, .int na, .int nz, .int no, .int ns, .int nv, .int np, .ref qi, .int nn, .ref qo, .int nt])), (qm, .inl (cI, 104, .inl nm)), (qf, .inl (cI, 104, .inl nb)), (ql, .inl (cI, 4, .inl nl)), (qi, .inl (cI, 24, .inl ni)), (qo, .inl (cI, 16, .inl nu))] r := by
  intro sz
  refine Met.ofW (cc := b_Rf_shape) (maxL := 2) (ret := some .int) (by decide) rfl ?_
  intro p e s m args below meth c s₁ B hml hv
  obtain ⟨rfl, hsz, hP, hK, hD0⟩ := hv
  have hx := B.exec
  have hb := B.bytes
  have hr := B.returns
  have hts := atoms_spec (ws := w_Rf_shape) B.pre
  have hown : s.vm.findClass R_Rf = some m.cls := findClass_of_methodNamed B.named
  have hlocks := B.notSynchronized
  subst hsz
  have hD := hD0.self (sz := s.heap.size)
  generalize hAe : va_A [(hq, .inr (3, [.ref qm, .ref qf, .ref ql, .int nc, .int nd, .int nf, .int na, .int nz, .int no, .int ns, .int nv, .int np, .ref qi, .int nn, .ref qo, .int nt])), (qm, .inl (cI, 104, .inl nm)), (qf, .inl (cI, 104, .inl nb)), (ql, .inl (cI, 4, .inl nl)), (qi, .inl (cI, 24, .inl ni)), (qo, .inl (cI, 16, .inl nu))] s.heap.size = A at hD ⊢
  have hA : ∀ q : Nat, s.heap.size ≤ q → A q := fun q h => by rw [← hAe]; exact Or.inr h
  have hS : va_S A s.heap s.heap [] := va_S.rf
  have hP : va_P (dC, dI) vwCl [(hq, .inr (3, [.ref qm, .ref qf, .ref ql, .int nc, .int nd, .int nf, .int na, .int nz, .int no, .int ns, .int nv, .int np, .ref qi, .int nn, .ref qo, .int nt])), (qm, .inl (cI, 104, .inl nm)), (qf, .inl (cI, 104, .inl nb)), (ql, .inl (cI, 4, .inl nl)), (qi, .inl (cI, 24, .inl ni)), (qo, .inl (cI, 16, .inl nu))] s.heap := hP
  have hl := lv_entry ([.ref hq]) (n := 2) (Nat.le_of_ble_eq_true rfl)
  rw [lg_entry_eq]
  generalize (lg_sl ([.ref hq]) ++ List.replicate (2 - (lg_sl ([.ref hq])).length) Slot.unset).toArray = ls at hl ⊢
  have hl : lv_has ls 2 [(0, .ref hq)] := hl
  have inRf : ∀ w ∈ u_ws R_Rf F_Rf 16, w ∈ w_Rf_shape := fun w h => List.mem_cons_of_mem _ (in_Rf w h)
  have kf27 := hts _ (List.mem_cons_of_mem _ wq418)
  have kf39 := hts _ (List.mem_cons_of_mem _ wq419)
  rw [fRf_shape] at hf
  refine lv_aload_n hx hb d_Rf_shape_0 rfl (lv_at hl 0 rfl) ?_
  refine va_get (D := (dC, dI)) (ci := 3) (v := .int nn) (C := R_Rf) (T := F_Rf) (N := 16) hx hb hts inRf hown hK hP 0 rfl rfl 13 (by decide) kf39 (fun _ h9 => h9) rfl d_Rf_shape_1 ?_
  refine lv_bipush (v := 6) hx hb d_Rf_shape_4 (by decide) ?_
  refine lv_icmp_ge (tgt := 28) hx hb d_Rf_shape_6 rfl (fun hc1 => ?_) (fun hc1 => ?_)
  · have hf := ift hf hc1
    refine lv_aload_n hx hb d_Rf_shape_28 rfl (lv_at hl 0 rfl) ?_
    refine va_get (D := (dC, dI)) (ci := 3) (v := .ref qi) (C := R_Rf) (T := F_Rf) (N := 16) hx hb hts inRf hown hK hP 0 rfl rfl 12 (by decide) kf27 (fun _ h9 => h9) rfl d_Rf_shape_29 ?_
    refine lv_iconst (v := 4) hx hb d_Rf_shape_32 (by decide) ?_
    obtain ⟨hin_, hf⟩ := ix_some hf
    refine va_iald hx hb hK hP 4 0 rfl rfl hin_ d_Rf_shape_33 ?_
    refine lv_istore_n hx hb d_Rf_shape_34 rfl hl (by decide) rfl (fun ls hl => ?_)
    have hl : lv_has ls 2 [(1, .int (ni (4 : Int32).toNatClampNeg)), (0, .ref hq)] := hl
    refine lv_iload_n hx hb d_Rf_shape_35 rfl (lv_at hl 0 rfl) ?_
    refine lv_if_ne (tgt := 43) hx hb d_Rf_shape_36 rfl (fun hc3 => ?_) (fun hc3 => ?_)
    · have hf := ifn hf hc3
      refine lv_aload_n hx hb d_Rf_shape_43 rfl (lv_at hl 1 rfl) ?_
      refine va_get (D := (dC, dI)) (ci := 3) (v := .int nn) (C := R_Rf) (T := F_Rf) (N := 16) hx hb hts inRf hown hK hP 0 rfl rfl 13 (by decide) kf39 (fun _ h9 => h9) rfl d_Rf_shape_44 ?_
      refine lv_iconst (v := 5) hx hb d_Rf_shape_47 (by decide) ?_
      refine lv_iload_n hx hb d_Rf_shape_48 rfl (lv_at hl 0 rfl) ?_
      refine lv_iadd hx hb d_Rf_shape_49 ?_
      refine lv_icmp_ne (tgt := 57) hx hb d_Rf_shape_50 rfl (fun hc4 => ?_) (fun hc4 => ?_)
      · have hf := ifn hf hc4
        refine lv_aload_n hx hb d_Rf_shape_57 rfl (lv_at hl 1 rfl) ?_
        refine va_get (D := (dC, dI)) (ci := 3) (v := .int nn) (C := R_Rf) (T := F_Rf) (N := 16) hx hb hts inRf hown hK hP 0 rfl rfl 13 (by decide) kf39 (fun _ h9 => h9) rfl d_Rf_shape_58 ?_
        refine lv_bipush (v := 6) hx hb d_Rf_shape_61 (by decide) ?_
        refine lv_iload_n hx hb d_Rf_shape_63 rfl (lv_at hl 0 rfl) ?_
        refine lv_iadd hx hb d_Rf_shape_64 ?_
        refine lv_icmp_ne (tgt := 72) hx hb d_Rf_shape_65 rfl (fun hc5 => ?_) (fun hc5 => ?_)
        · have hf := ifn hf hc5
          refine lv_iconst (v := 0) hx hb d_Rf_shape_72 (by decide) ?_
          have e1_ := lf1 hf
          subst e1_
          have hP9 := hP.sub (ws' := [(hq, .inr (3, [.ref qm, .ref qf, .ref ql, .int nc, .int nd, .int nf, .int na, .int nz, .int no, .int ns, .int nv, .int np, .ref qi, .int nn, .ref qo, .int nt])), (qm, .inl (cI, 104, .inl nm)), (qf, .inl (cI, 104, .inl nb)), (ql, .inl (cI, 4, .inl nl)), (qi, .inl (cI, 24, .inl ni)), (qo, .inl (cI, 16, .inl nu))]) [0, 1, 2, 3, 4, 5] rfl
          have hD9 := hD.sub (ws' := [(hq, .inr (3, [.ref qm, .ref qf, .ref ql, .int nc, .int nd, .int nf, .int na, .int nz, .int no, .int ns, .int nv, .int np, .ref qi, .int nn, .ref qo, .int nt])), (qm, .inl (cI, 104, .inl nm)), (qf, .inl (cI, 104, .inl nb)), (ql, .inl (cI, 4, .inl nl)), (qi, .inl (cI, 24, .inl ni)), (qo, .inl (cI, 16, .inl nu))]) [0, 1, 2, 3, 4, 5] (by decide) rfl
          exact W.iret (v := 0) hx hb hr (fun t ht hW => ⟨⟨0, (), rfl, rfl, by rw [ht]; exact hP9, va_K.moved hW.alike hK, hD9⟩, hS.F ht⟩) hS.2.2 d_Rf_shape_73
        have hf := ift hf hc5
        refine lv_iconst (v := 4) hx hb d_Rf_shape_68 (by decide) ?_
        refine lv_goto (tgt := 73) hx hb d_Rf_shape_69 rfl ?_
        have e1_ := lf1 hf
        subst e1_
        have hP9 := hP.sub (ws' := [(hq, .inr (3, [.ref qm, .ref qf, .ref ql, .int nc, .int nd, .int nf, .int na, .int nz, .int no, .int ns, .int nv, .int np, .ref qi, .int nn, .ref qo, .int nt])), (qm, .inl (cI, 104, .inl nm)), (qf, .inl (cI, 104, .inl nb)), (ql, .inl (cI, 4, .inl nl)), (qi, .inl (cI, 24, .inl ni)), (qo, .inl (cI, 16, .inl nu))]) [0, 1, 2, 3, 4, 5] rfl
        have hD9 := hD.sub (ws' := [(hq, .inr (3, [.ref qm, .ref qf, .ref ql, .int nc, .int nd, .int nf, .int na, .int nz, .int no, .int ns, .int nv, .int np, .ref qi, .int nn, .ref qo, .int nt])), (qm, .inl (cI, 104, .inl nm)), (qf, .inl (cI, 104, .inl nb)), (ql, .inl (cI, 4, .inl nl)), (qi, .inl (cI, 24, .inl ni)), (qo, .inl (cI, 16, .inl nu))]) [0, 1, 2, 3, 4, 5] (by decide) rfl
        exact W.iret (v := 4) hx hb hr (fun t ht hW => ⟨⟨4, (), rfl, rfl, by rw [ht]; exact hP9, va_K.moved hW.alike hK, hD9⟩, hS.F ht⟩) hS.2.2 d_Rf_shape_73
      have hf := ift hf hc4
      refine lv_iconst (v := 3) hx hb d_Rf_shape_53 (by decide) ?_
      refine lv_goto (tgt := 73) hx hb d_Rf_shape_54 rfl ?_
      have e1_ := lf1 hf
      subst e1_
      have hP9 := hP.sub (ws' := [(hq, .inr (3, [.ref qm, .ref qf, .ref ql, .int nc, .int nd, .int nf, .int na, .int nz, .int no, .int ns, .int nv, .int np, .ref qi, .int nn, .ref qo, .int nt])), (qm, .inl (cI, 104, .inl nm)), (qf, .inl (cI, 104, .inl nb)), (ql, .inl (cI, 4, .inl nl)), (qi, .inl (cI, 24, .inl ni)), (qo, .inl (cI, 16, .inl nu))]) [0, 1, 2, 3, 4, 5] rfl
      have hD9 := hD.sub (ws' := [(hq, .inr (3, [.ref qm, .ref qf, .ref ql, .int nc, .int nd, .int nf, .int na, .int nz, .int no, .int ns, .int nv, .int np, .ref qi, .int nn, .ref qo, .int nt])), (qm, .inl (cI, 104, .inl nm)), (qf, .inl (cI, 104, .inl nb)), (ql, .inl (cI, 4, .inl nl)), (qi, .inl (cI, 24, .inl ni)), (qo, .inl (cI, 16, .inl nu))]) [0, 1, 2, 3, 4, 5] (by decide) rfl
      exact W.iret (v := 3) hx hb hr (fun t ht hW => ⟨⟨3, (), rfl, rfl, by rw [ht]; exact hP9, va_K.moved hW.alike hK, hD9⟩, hS.F ht⟩) hS.2.2 d_Rf_shape_73
    have hf := ift hf hc3
    refine lv_iconst (v := 0) hx hb d_Rf_shape_39 (by decide) ?_
    refine lv_goto (tgt := 73) hx hb d_Rf_shape_40 rfl ?_
    have e1_ := lf1 hf
    subst e1_
    have hP9 := hP.sub (ws' := [(hq, .inr (3, [.ref qm, .ref qf, .ref ql, .int nc, .int nd, .int nf, .int na, .int nz, .int no, .int ns, .int nv, .int np, .ref qi, .int nn, .ref qo, .int nt])), (qm, .inl (cI, 104, .inl nm)), (qf, .inl (cI, 104, .inl nb)), (ql, .inl (cI, 4, .inl nl)), (qi, .inl (cI, 24, .inl ni)), (qo, .inl (cI, 16, .inl nu))]) [0, 1, 2, 3, 4, 5] rfl
    have hD9 := hD.sub (ws' := [(hq, .inr (3, [.ref qm, .ref qf, .ref ql, .int nc, .int nd, .int nf, .int na, .int nz, .int no, .int ns, .int nv, .int np, .ref qi, .int nn, .ref qo, .int nt])), (qm, .inl (cI, 104, .inl nm)), (qf, .inl (cI, 104, .inl nb)), (ql, .inl (cI, 4, .inl nl)), (qi, .inl (cI, 24, .inl ni)), (qo, .inl (cI, 16, .inl nu))]) [0, 1, 2, 3, 4, 5] (by decide) rfl
    exact W.iret (v := 0) hx hb hr (fun t ht hW => ⟨⟨0, (), rfl, rfl, by rw [ht]; exact hP9, va_K.moved hW.alike hK, hD9⟩, hS.F ht⟩) hS.2.2 d_Rf_shape_73
  have hf := ifn hf hc1
  refine lv_aload_n hx hb d_Rf_shape_9 rfl (lv_at hl 0 rfl) ?_
  refine va_get (D := (dC, dI)) (ci := 3) (v := .int nn) (C := R_Rf) (T := F_Rf) (N := 16) hx hb hts inRf hown hK hP 0 rfl rfl 13 (by decide) kf39 (fun _ h9 => h9) rfl d_Rf_shape_10 ?_
  refine lv_iconst (v := 4) hx hb d_Rf_shape_13 (by decide) ?_
  refine lv_icmp_ge (tgt := 21) hx hb d_Rf_shape_14 rfl (fun hc6 => ?_) (fun hc6 => ?_)
  · have hf := ift hf hc6
    refine lv_aload_n hx hb d_Rf_shape_21 rfl (lv_at hl 0 rfl) ?_
    refine va_get (D := (dC, dI)) (ci := 3) (v := .int nn) (C := R_Rf) (T := F_Rf) (N := 16) hx hb hts inRf hown hK hP 0 rfl rfl 13 (by decide) kf39 (fun _ h9 => h9) rfl d_Rf_shape_22 ?_
    refine lv_iconst (v := 3) hx hb d_Rf_shape_25 (by decide) ?_
    refine lv_isub hx hb d_Rf_shape_26 ?_
    have e1_ := lf1 hf
    subst e1_
    have hP9 := hP.sub (ws' := [(hq, .inr (3, [.ref qm, .ref qf, .ref ql, .int nc, .int nd, .int nf, .int na, .int nz, .int no, .int ns, .int nv, .int np, .ref qi, .int nn, .ref qo, .int nt])), (qm, .inl (cI, 104, .inl nm)), (qf, .inl (cI, 104, .inl nb)), (ql, .inl (cI, 4, .inl nl)), (qi, .inl (cI, 24, .inl ni)), (qo, .inl (cI, 16, .inl nu))]) [0, 1, 2, 3, 4, 5] rfl
    have hD9 := hD.sub (ws' := [(hq, .inr (3, [.ref qm, .ref qf, .ref ql, .int nc, .int nd, .int nf, .int na, .int nz, .int no, .int ns, .int nv, .int np, .ref qi, .int nn, .ref qo, .int nt])), (qm, .inl (cI, 104, .inl nm)), (qf, .inl (cI, 104, .inl nb)), (ql, .inl (cI, 4, .inl nl)), (qi, .inl (cI, 24, .inl ni)), (qo, .inl (cI, 16, .inl nu))]) [0, 1, 2, 3, 4, 5] (by decide) rfl
    exact W.iret (v := nn - 3) hx hb hr (fun t ht hW => ⟨⟨nn - 3, (), rfl, rfl, by rw [ht]; exact hP9, va_K.moved hW.alike hK, hD9⟩, hS.F ht⟩) hS.2.2 d_Rf_shape_27
  have hf := ifn hf hc6
  refine lv_iconst (v := 0) hx hb d_Rf_shape_17 (by decide) ?_
  refine lv_goto (tgt := 27) hx hb d_Rf_shape_18 rfl ?_
  have e1_ := lf1 hf
  subst e1_
  have hP9 := hP.sub (ws' := [(hq, .inr (3, [.ref qm, .ref qf, .ref ql, .int nc, .int nd, .int nf, .int na, .int nz, .int no, .int ns, .int nv, .int np, .ref qi, .int nn, .ref qo, .int nt])), (qm, .inl (cI, 104, .inl nm)), (qf, .inl (cI, 104, .inl nb)), (ql, .inl (cI, 4, .inl nl)), (qi, .inl (cI, 24, .inl ni)), (qo, .inl (cI, 16, .inl nu))]) [0, 1, 2, 3, 4, 5] rfl
  have hD9 := hD.sub (ws' := [(hq, .inr (3, [.ref qm, .ref qf, .ref ql, .int nc, .int nd, .int nf, .int na, .int nz, .int no, .int ns, .int nv, .int np, .ref qi, .int nn, .ref qo, .int nt])), (qm, .inl (cI, 104, .inl nm)), (qf, .inl (cI, 104, .inl nb)), (ql, .inl (cI, 4, .inl nl)), (qi, .inl (cI, 24, .inl ni)), (qo, .inl (cI, 16, .inl nu))]) [0, 1, 2, 3, 4, 5] (by decide) rfl
  exact W.iret (v := 0) hx hb hr (fun t ht hW => ⟨⟨0, (), rfl, rfl, by rw [ht]; exact hP9, va_K.moved hW.alike hK, hD9⟩, hS.F ht⟩) hS.2.2 d_Rf_shape_27
theorem d_Rf_starred_0 : decode b_Rf_starred 0 = .ok (.iload_n 0, 1) := by decide +kernel
theorem d_Rf_starred_1 : decode b_Rf_starred 1 = .ok (.bipush 36, 2) := by decide +kernel
theorem d_Rf_starred_3 : decode b_Rf_starred 3 = .ok (.if_icmp .eq 51, 3) := by decide +kernel
theorem d_Rf_starred_6 : decode b_Rf_starred 6 = .ok (.iload_n 0, 1) := by decide +kernel
theorem d_Rf_starred_7 : decode b_Rf_starred 7 = .ok (.bipush 44, 2) := by decide +kernel
theorem d_Rf_starred_9 : decode b_Rf_starred 9 = .ok (.if_icmp .eq 45, 3) := by decide +kernel
theorem d_Rf_starred_12 : decode b_Rf_starred 12 = .ok (.iload_n 0, 1) := by decide +kernel
theorem d_Rf_starred_13 : decode b_Rf_starred 13 = .ok (.sipush 176, 3) := by decide +kernel
theorem d_Rf_starred_16 : decode b_Rf_starred 16 = .ok (.if_icmp .eq 38, 3) := by decide +kernel
theorem d_Rf_starred_19 : decode b_Rf_starred 19 = .ok (.iload_n 0, 1) := by decide +kernel
theorem d_Rf_starred_20 : decode b_Rf_starred 20 = .ok (.sipush 214, 3) := by decide +kernel
theorem d_Rf_starred_23 : decode b_Rf_starred 23 = .ok (.if_icmp .eq 31, 3) := by decide +kernel
theorem d_Rf_starred_26 : decode b_Rf_starred 26 = .ok (.iload_n 0, 1) := by decide +kernel
theorem d_Rf_starred_27 : decode b_Rf_starred 27 = .ok (.sipush 226, 3) := by decide +kernel
theorem d_Rf_starred_30 : decode b_Rf_starred 30 = .ok (.if_icmp .eq 24, 3) := by decide +kernel
theorem d_Rf_starred_33 : decode b_Rf_starred 33 = .ok (.iload_n 0, 1) := by decide +kernel
theorem d_Rf_starred_34 : decode b_Rf_starred 34 = .ok (.sipush 228, 3) := by decide +kernel
theorem d_Rf_starred_37 : decode b_Rf_starred 37 = .ok (.if_icmp .eq 17, 3) := by decide +kernel
theorem d_Rf_starred_40 : decode b_Rf_starred 40 = .ok (.iload_n 0, 1) := by decide +kernel
theorem d_Rf_starred_41 : decode b_Rf_starred 41 = .ok (.sipush 178, 3) := by decide +kernel
theorem d_Rf_starred_44 : decode b_Rf_starred 44 = .ok (.if_icmp .eq 10, 3) := by decide +kernel
theorem d_Rf_starred_47 : decode b_Rf_starred 47 = .ok (.iload_n 0, 1) := by decide +kernel
theorem d_Rf_starred_48 : decode b_Rf_starred 48 = .ok (.sipush 220, 3) := by decide +kernel
theorem d_Rf_starred_51 : decode b_Rf_starred 51 = .ok (.if_icmp .ne 7, 3) := by decide +kernel
theorem d_Rf_starred_54 : decode b_Rf_starred 54 = .ok (.iconst 1, 1) := by decide +kernel
theorem d_Rf_starred_55 : decode b_Rf_starred 55 = .ok (.goto 4, 3) := by decide +kernel
theorem d_Rf_starred_58 : decode b_Rf_starred 58 = .ok (.iconst 0, 1) := by decide +kernel
theorem d_Rf_starred_59 : decode b_Rf_starred 59 = .ok (.ireturn, 1) := by decide +kernel
def fRf_starred (a1 : Int32) : Option (Int32) := if a1 = 36 then (some 1) else (if a1 = 44 then (some 1) else (if a1 = 176 then (some 1) else (if a1 = 214 then (some 1) else (if a1 = 226 then (some 1) else (if a1 = 228 then (some 1) else (if a1 = 178 then (some 1) else (if a1 = 220 then (some 1) else (some 0))))))))
set_option maxHeartbeats 4000000 in
set_option maxRecDepth 100000 in
theorem ctRf_starred (l : Launch) (dC : Nat → ClassId) (dI : Nat → Nat → Nat) (cI : ClassId) (a1 : Int32) (r : Int32) (hf : fRf_starred a1 = some r) : CtZ l y_Rf_starred w_Rf_starred ({ frames := 0, cells := 0, slots := 0, locals := 0 }) (dC, dI) [(cI, .int)] [.int a1] [] [] r := by
  intro sz
  refine Met.ofW (cc := b_Rf_starred) (maxL := 1) (ret := some .boolean) (by decide) rfl ?_
  intro p e s m args below meth c s₁ B hml hv
  obtain ⟨rfl, hsz, hP, hK, hD0⟩ := hv
  have hx := B.exec
  have hb := B.bytes
  have hr := B.returns
  have hts := atoms_spec (ws := w_Rf_starred) B.pre
  have hown : s.vm.findClass R_Rf = some m.cls := findClass_of_methodNamed B.named
  have hlocks := B.notSynchronized
  subst hsz
  have hD := hD0.self (sz := s.heap.size)
  generalize hAe : va_A [] s.heap.size = A at hD ⊢
  have hA : ∀ q : Nat, s.heap.size ≤ q → A q := fun q h => by rw [← hAe]; exact Or.inr h
  have hS : va_S A s.heap s.heap [] := va_S.rf
  have hP : va_P (dC, dI) vwCl [] s.heap := hP
  have hl := lv_entry ([.int a1]) (n := 1) (Nat.le_of_ble_eq_true rfl)
  rw [lg_entry_eq]
  generalize (lg_sl ([.int a1]) ++ List.replicate (1 - (lg_sl ([.int a1])).length) Slot.unset).toArray = ls at hl ⊢
  have hl : lv_has ls 1 [(0, .int a1)] := hl
  rw [fRf_starred] at hf
  refine lv_iload_n hx hb d_Rf_starred_0 rfl (lv_at hl 0 rfl) ?_
  refine lv_bipush (v := 36) hx hb d_Rf_starred_1 (by decide) ?_
  refine lv_icmp_eq (tgt := 54) hx hb d_Rf_starred_3 rfl (fun hc1 => ?_) (fun hc1 => ?_)
  · have hf := ift hf hc1
    refine lv_iconst (v := 1) hx hb d_Rf_starred_54 (by decide) ?_
    refine lv_goto (tgt := 59) hx hb d_Rf_starred_55 rfl ?_
    have e1_ := lf1 hf
    subst e1_
    have hP9 := hP.sub (ws' := []) [] rfl
    have hD9 := hD.sub (ws' := []) [] (by decide) rfl
    exact W.zret (v := 1) (ty := .boolean) hx hb hr rfl (fun t ht hW => ⟨⟨1, (), rfl, ⟨rfl, rfl⟩, by rw [ht]; exact hP9, va_K.moved hW.alike hK, hD9⟩, hS.F ht⟩) hS.2.2 d_Rf_starred_59
  have hf := ifn hf hc1
  refine lv_iload_n hx hb d_Rf_starred_6 rfl (lv_at hl 0 rfl) ?_
  refine lv_bipush (v := 44) hx hb d_Rf_starred_7 (by decide) ?_
  refine lv_icmp_eq (tgt := 54) hx hb d_Rf_starred_9 rfl (fun hc2 => ?_) (fun hc2 => ?_)
  · have hf := ift hf hc2
    refine lv_iconst (v := 1) hx hb d_Rf_starred_54 (by decide) ?_
    refine lv_goto (tgt := 59) hx hb d_Rf_starred_55 rfl ?_
    have e1_ := lf1 hf
    subst e1_
    have hP9 := hP.sub (ws' := []) [] rfl
    have hD9 := hD.sub (ws' := []) [] (by decide) rfl
    exact W.zret (v := 1) (ty := .boolean) hx hb hr rfl (fun t ht hW => ⟨⟨1, (), rfl, ⟨rfl, rfl⟩, by rw [ht]; exact hP9, va_K.moved hW.alike hK, hD9⟩, hS.F ht⟩) hS.2.2 d_Rf_starred_59
  have hf := ifn hf hc2
  refine lv_iload_n hx hb d_Rf_starred_12 rfl (lv_at hl 0 rfl) ?_
  refine lv_sipush (v := 176) hx hb d_Rf_starred_13 (by decide) ?_
  refine lv_icmp_eq (tgt := 54) hx hb d_Rf_starred_16 rfl (fun hc3 => ?_) (fun hc3 => ?_)
  · have hf := ift hf hc3
    refine lv_iconst (v := 1) hx hb d_Rf_starred_54 (by decide) ?_
    refine lv_goto (tgt := 59) hx hb d_Rf_starred_55 rfl ?_
    have e1_ := lf1 hf
    subst e1_
    have hP9 := hP.sub (ws' := []) [] rfl
    have hD9 := hD.sub (ws' := []) [] (by decide) rfl
    exact W.zret (v := 1) (ty := .boolean) hx hb hr rfl (fun t ht hW => ⟨⟨1, (), rfl, ⟨rfl, rfl⟩, by rw [ht]; exact hP9, va_K.moved hW.alike hK, hD9⟩, hS.F ht⟩) hS.2.2 d_Rf_starred_59
  have hf := ifn hf hc3
  refine lv_iload_n hx hb d_Rf_starred_19 rfl (lv_at hl 0 rfl) ?_
  refine lv_sipush (v := 214) hx hb d_Rf_starred_20 (by decide) ?_
  refine lv_icmp_eq (tgt := 54) hx hb d_Rf_starred_23 rfl (fun hc4 => ?_) (fun hc4 => ?_)
  · have hf := ift hf hc4
    refine lv_iconst (v := 1) hx hb d_Rf_starred_54 (by decide) ?_
    refine lv_goto (tgt := 59) hx hb d_Rf_starred_55 rfl ?_
    have e1_ := lf1 hf
    subst e1_
    have hP9 := hP.sub (ws' := []) [] rfl
    have hD9 := hD.sub (ws' := []) [] (by decide) rfl
    exact W.zret (v := 1) (ty := .boolean) hx hb hr rfl (fun t ht hW => ⟨⟨1, (), rfl, ⟨rfl, rfl⟩, by rw [ht]; exact hP9, va_K.moved hW.alike hK, hD9⟩, hS.F ht⟩) hS.2.2 d_Rf_starred_59
  have hf := ifn hf hc4
  refine lv_iload_n hx hb d_Rf_starred_26 rfl (lv_at hl 0 rfl) ?_
  refine lv_sipush (v := 226) hx hb d_Rf_starred_27 (by decide) ?_
  refine lv_icmp_eq (tgt := 54) hx hb d_Rf_starred_30 rfl (fun hc5 => ?_) (fun hc5 => ?_)
  · have hf := ift hf hc5
    refine lv_iconst (v := 1) hx hb d_Rf_starred_54 (by decide) ?_
    refine lv_goto (tgt := 59) hx hb d_Rf_starred_55 rfl ?_
    have e1_ := lf1 hf
    subst e1_
    have hP9 := hP.sub (ws' := []) [] rfl
    have hD9 := hD.sub (ws' := []) [] (by decide) rfl
    exact W.zret (v := 1) (ty := .boolean) hx hb hr rfl (fun t ht hW => ⟨⟨1, (), rfl, ⟨rfl, rfl⟩, by rw [ht]; exact hP9, va_K.moved hW.alike hK, hD9⟩, hS.F ht⟩) hS.2.2 d_Rf_starred_59
  have hf := ifn hf hc5
  refine lv_iload_n hx hb d_Rf_starred_33 rfl (lv_at hl 0 rfl) ?_
  refine lv_sipush (v := 228) hx hb d_Rf_starred_34 (by decide) ?_
  refine lv_icmp_eq (tgt := 54) hx hb d_Rf_starred_37 rfl (fun hc6 => ?_) (fun hc6 => ?_)
  · have hf := ift hf hc6
    refine lv_iconst (v := 1) hx hb d_Rf_starred_54 (by decide) ?_
    refine lv_goto (tgt := 59) hx hb d_Rf_starred_55 rfl ?_
    have e1_ := lf1 hf
    subst e1_
    have hP9 := hP.sub (ws' := []) [] rfl
    have hD9 := hD.sub (ws' := []) [] (by decide) rfl
    exact W.zret (v := 1) (ty := .boolean) hx hb hr rfl (fun t ht hW => ⟨⟨1, (), rfl, ⟨rfl, rfl⟩, by rw [ht]; exact hP9, va_K.moved hW.alike hK, hD9⟩, hS.F ht⟩) hS.2.2 d_Rf_starred_59
  have hf := ifn hf hc6
  refine lv_iload_n hx hb d_Rf_starred_40 rfl (lv_at hl 0 rfl) ?_
  refine lv_sipush (v := 178) hx hb d_Rf_starred_41 (by decide) ?_
  refine lv_icmp_eq (tgt := 54) hx hb d_Rf_starred_44 rfl (fun hc7 => ?_) (fun hc7 => ?_)
  · have hf := ift hf hc7
    refine lv_iconst (v := 1) hx hb d_Rf_starred_54 (by decide) ?_
    refine lv_goto (tgt := 59) hx hb d_Rf_starred_55 rfl ?_
    have e1_ := lf1 hf
    subst e1_
    have hP9 := hP.sub (ws' := []) [] rfl
    have hD9 := hD.sub (ws' := []) [] (by decide) rfl
    exact W.zret (v := 1) (ty := .boolean) hx hb hr rfl (fun t ht hW => ⟨⟨1, (), rfl, ⟨rfl, rfl⟩, by rw [ht]; exact hP9, va_K.moved hW.alike hK, hD9⟩, hS.F ht⟩) hS.2.2 d_Rf_starred_59
  have hf := ifn hf hc7
  refine lv_iload_n hx hb d_Rf_starred_47 rfl (lv_at hl 0 rfl) ?_
  refine lv_sipush (v := 220) hx hb d_Rf_starred_48 (by decide) ?_
  refine lv_icmp_ne (tgt := 58) hx hb d_Rf_starred_51 rfl (fun hc8 => ?_) (fun hc8 => ?_)
  · have hf := ifn hf hc8
    refine lv_iconst (v := 0) hx hb d_Rf_starred_58 (by decide) ?_
    have e1_ := lf1 hf
    subst e1_
    have hP9 := hP.sub (ws' := []) [] rfl
    have hD9 := hD.sub (ws' := []) [] (by decide) rfl
    exact W.zret (v := 0) (ty := .boolean) hx hb hr rfl (fun t ht hW => ⟨⟨0, (), rfl, ⟨rfl, rfl⟩, by rw [ht]; exact hP9, va_K.moved hW.alike hK, hD9⟩, hS.F ht⟩) hS.2.2 d_Rf_starred_59
  have hf := ift hf hc8
  refine lv_iconst (v := 1) hx hb d_Rf_starred_54 (by decide) ?_
  refine lv_goto (tgt := 59) hx hb d_Rf_starred_55 rfl ?_
  have e1_ := lf1 hf
  subst e1_
  have hP9 := hP.sub (ws' := []) [] rfl
  have hD9 := hD.sub (ws' := []) [] (by decide) rfl
  exact W.zret (v := 1) (ty := .boolean) hx hb hr rfl (fun t ht hW => ⟨⟨1, (), rfl, ⟨rfl, rfl⟩, by rw [ht]; exact hP9, va_K.moved hW.alike hK, hD9⟩, hS.F ht⟩) hS.2.2 d_Rf_starred_59
theorem d_Rf_known_0 : decode b_Rf_known 0 = .ok (.iload_n 0, 1) := by decide +kernel
theorem d_Rf_known_1 : decode b_Rf_known 1 = .ok (.invokestatic 76, 3) := by decide +kernel
theorem d_Rf_known_4 : decode b_Rf_known 4 = .ok (.ifCond .ne 28, 3) := by decide +kernel
theorem d_Rf_known_7 : decode b_Rf_known 7 = .ok (.iload_n 0, 1) := by decide +kernel
theorem d_Rf_known_8 : decode b_Rf_known 8 = .ok (.sipush 164, 3) := by decide +kernel
theorem d_Rf_known_11 : decode b_Rf_known 11 = .ok (.if_icmp .eq 21, 3) := by decide +kernel
theorem d_Rf_known_14 : decode b_Rf_known 14 = .ok (.iload_n 0, 1) := by decide +kernel
theorem d_Rf_known_15 : decode b_Rf_known 15 = .ok (.bipush 32, 2) := by decide +kernel
theorem d_Rf_known_17 : decode b_Rf_known 17 = .ok (.if_icmp .eq 15, 3) := by decide +kernel
theorem d_Rf_known_20 : decode b_Rf_known 20 = .ok (.iload_n 0, 1) := by decide +kernel
theorem d_Rf_known_21 : decode b_Rf_known 21 = .ok (.bipush 112, 2) := by decide +kernel
theorem d_Rf_known_23 : decode b_Rf_known 23 = .ok (.if_icmp .eq 9, 3) := by decide +kernel
theorem d_Rf_known_26 : decode b_Rf_known 26 = .ok (.iload_n 0, 1) := by decide +kernel
theorem d_Rf_known_27 : decode b_Rf_known 27 = .ok (.bipush 114, 2) := by decide +kernel
theorem d_Rf_known_29 : decode b_Rf_known 29 = .ok (.if_icmp .ne 7, 3) := by decide +kernel
theorem d_Rf_known_32 : decode b_Rf_known 32 = .ok (.iconst 1, 1) := by decide +kernel
theorem d_Rf_known_33 : decode b_Rf_known 33 = .ok (.goto 4, 3) := by decide +kernel
theorem d_Rf_known_36 : decode b_Rf_known 36 = .ok (.iconst 0, 1) := by decide +kernel
theorem d_Rf_known_37 : decode b_Rf_known 37 = .ok (.ireturn, 1) := by decide +kernel
def fRf_known (a1 : Int32) : Option (Int32) := bd1 (fRf_starred a1) fun r1 => if r1 = 0 then (if a1 = 164 then (some 1) else (if a1 = 32 then (some 1) else (if a1 = 112 then (some 1) else (if a1 = 114 then (some 1) else (some 0))))) else (some 1)
set_option maxHeartbeats 4000000 in
set_option maxRecDepth 100000 in
theorem ctRf_known (l : Launch) (dC : Nat → ClassId) (dI : Nat → Nat → Nat) (cI : ClassId) (a1 : Int32) (r : Int32) (hf : fRf_known a1 = some r) : CtZ l y_Rf_known w_Rf_known ({ frames := 1, cells := 0, slots := 0, locals := 20 }) (dC, dI) [(cI, .int)] [.int a1] [] [] r := by
  intro sz
  refine Met.ofW (cc := b_Rf_known) (maxL := 1) (ret := some .boolean) (by decide) rfl ?_
  intro p e s m args below meth c s₁ B hml hv
  obtain ⟨rfl, hsz, hP, hK, hD0⟩ := hv
  have hx := B.exec
  have hb := B.bytes
  have hr := B.returns
  have hts := atoms_spec (ws := w_Rf_known) B.pre
  have hown : s.vm.findClass R_Rf = some m.cls := findClass_of_methodNamed B.named
  have hlocks := B.notSynchronized
  subst hsz
  have hD := hD0.self (sz := s.heap.size)
  generalize hAe : va_A [] s.heap.size = A at hD ⊢
  have hA : ∀ q : Nat, s.heap.size ≤ q → A q := fun q h => by rw [← hAe]; exact Or.inr h
  have hS : va_S A s.heap s.heap [] := va_S.rf
  have hP : va_P (dC, dI) vwCl [] s.heap := hP
  have hl := lv_entry ([.int a1]) (n := 1) (Nat.le_of_ble_eq_true rfl)
  rw [lg_entry_eq]
  generalize (lg_sl ([.int a1]) ++ List.replicate (1 - (lg_sl ([.int a1])).length) Slot.unset).toArray = ls at hl ⊢
  have hl : lv_has ls 1 [(0, .int a1)] := hl
  rw [fRf_known] at hf
  refine lv_iload_n hx hb d_Rf_known_0 rfl (lv_at hl 0 rfl) ?_
  obtain ⟨r1, hg, hf⟩ := bd1_some hf
  refine xsz (ctRf_starred l dC dI cI a1 r1 hg) ⟨hx, hb, hml, hown, hts⟩ (va_cwS 1 hts (gS wq499 wq500 wq46 wq501) rfl rfl rfl (by decide +kernel) ⟨Nat.le_of_ble_eq_true rfl, Nat.le_of_ble_eq_true rfl⟩) hK hP hD hS hA rfl hl.1 rfl (Nat.le_of_ble_eq_true rfl) d_Rf_known_1 ⟨Nat.zero_le _, Nat.zero_le _⟩ (fun H locs hn1 hP hD hS => ?_)
  refine lv_if_ne (tgt := 32) hx hb d_Rf_known_4 rfl (fun hc2 => ?_) (fun hc2 => ?_)
  · have hf := ifn hf hc2
    refine lv_iconst (v := 1) hx hb d_Rf_known_32 (by decide) ?_
    refine lv_goto (tgt := 37) hx hb d_Rf_known_33 rfl ?_
    have e1_ := lf1 hf
    subst e1_
    have hP9 := hP.sub (ws' := []) [] rfl
    have hD9 := hD.sub (ws' := []) [] (by decide) rfl
    exact W.zret (v := 1) (ty := .boolean) hx hb hr rfl (fun t ht hW => ⟨⟨1, (), rfl, ⟨rfl, rfl⟩, by rw [ht]; exact hP9, va_K.moved hW.alike hK, hD9⟩, hS.F ht⟩) hS.2.2 d_Rf_known_37
  have hf := ift hf hc2
  refine lv_iload_n hx hb d_Rf_known_7 rfl (lv_at hl 0 rfl) ?_
  refine lv_sipush (v := 164) hx hb d_Rf_known_8 (by decide) ?_
  refine lv_icmp_eq (tgt := 32) hx hb d_Rf_known_11 rfl (fun hc3 => ?_) (fun hc3 => ?_)
  · have hf := ift hf hc3
    refine lv_iconst (v := 1) hx hb d_Rf_known_32 (by decide) ?_
    refine lv_goto (tgt := 37) hx hb d_Rf_known_33 rfl ?_
    have e1_ := lf1 hf
    subst e1_
    have hP9 := hP.sub (ws' := []) [] rfl
    have hD9 := hD.sub (ws' := []) [] (by decide) rfl
    exact W.zret (v := 1) (ty := .boolean) hx hb hr rfl (fun t ht hW => ⟨⟨1, (), rfl, ⟨rfl, rfl⟩, by rw [ht]; exact hP9, va_K.moved hW.alike hK, hD9⟩, hS.F ht⟩) hS.2.2 d_Rf_known_37
  have hf := ifn hf hc3
  refine lv_iload_n hx hb d_Rf_known_14 rfl (lv_at hl 0 rfl) ?_
  refine lv_bipush (v := 32) hx hb d_Rf_known_15 (by decide) ?_
  refine lv_icmp_eq (tgt := 32) hx hb d_Rf_known_17 rfl (fun hc4 => ?_) (fun hc4 => ?_)
  · have hf := ift hf hc4
    refine lv_iconst (v := 1) hx hb d_Rf_known_32 (by decide) ?_
    refine lv_goto (tgt := 37) hx hb d_Rf_known_33 rfl ?_
    have e1_ := lf1 hf
    subst e1_
    have hP9 := hP.sub (ws' := []) [] rfl
    have hD9 := hD.sub (ws' := []) [] (by decide) rfl
    exact W.zret (v := 1) (ty := .boolean) hx hb hr rfl (fun t ht hW => ⟨⟨1, (), rfl, ⟨rfl, rfl⟩, by rw [ht]; exact hP9, va_K.moved hW.alike hK, hD9⟩, hS.F ht⟩) hS.2.2 d_Rf_known_37
  have hf := ifn hf hc4
  refine lv_iload_n hx hb d_Rf_known_20 rfl (lv_at hl 0 rfl) ?_
  refine lv_bipush (v := 112) hx hb d_Rf_known_21 (by decide) ?_
  refine lv_icmp_eq (tgt := 32) hx hb d_Rf_known_23 rfl (fun hc5 => ?_) (fun hc5 => ?_)
  · have hf := ift hf hc5
    refine lv_iconst (v := 1) hx hb d_Rf_known_32 (by decide) ?_
    refine lv_goto (tgt := 37) hx hb d_Rf_known_33 rfl ?_
    have e1_ := lf1 hf
    subst e1_
    have hP9 := hP.sub (ws' := []) [] rfl
    have hD9 := hD.sub (ws' := []) [] (by decide) rfl
    exact W.zret (v := 1) (ty := .boolean) hx hb hr rfl (fun t ht hW => ⟨⟨1, (), rfl, ⟨rfl, rfl⟩, by rw [ht]; exact hP9, va_K.moved hW.alike hK, hD9⟩, hS.F ht⟩) hS.2.2 d_Rf_known_37
  have hf := ifn hf hc5
  refine lv_iload_n hx hb d_Rf_known_26 rfl (lv_at hl 0 rfl) ?_
  refine lv_bipush (v := 114) hx hb d_Rf_known_27 (by decide) ?_
  refine lv_icmp_ne (tgt := 36) hx hb d_Rf_known_29 rfl (fun hc6 => ?_) (fun hc6 => ?_)
  · have hf := ifn hf hc6
    refine lv_iconst (v := 0) hx hb d_Rf_known_36 (by decide) ?_
    have e1_ := lf1 hf
    subst e1_
    have hP9 := hP.sub (ws' := []) [] rfl
    have hD9 := hD.sub (ws' := []) [] (by decide) rfl
    exact W.zret (v := 0) (ty := .boolean) hx hb hr rfl (fun t ht hW => ⟨⟨0, (), rfl, ⟨rfl, rfl⟩, by rw [ht]; exact hP9, va_K.moved hW.alike hK, hD9⟩, hS.F ht⟩) hS.2.2 d_Rf_known_37
  have hf := ift hf hc6
  refine lv_iconst (v := 1) hx hb d_Rf_known_32 (by decide) ?_
  refine lv_goto (tgt := 37) hx hb d_Rf_known_33 rfl ?_
  have e1_ := lf1 hf
  subst e1_
  have hP9 := hP.sub (ws' := []) [] rfl
  have hD9 := hD.sub (ws' := []) [] (by decide) rfl
  exact W.zret (v := 1) (ty := .boolean) hx hb hr rfl (fun t ht hW => ⟨⟨1, (), rfl, ⟨rfl, rfl⟩, by rw [ht]; exact hP9, va_K.moved hW.alike hK, hD9⟩, hS.F ht⟩) hS.2.2 d_Rf_known_37
theorem d_Rf_shapeOf_0 : decode b_Rf_shapeOf 0 = .ok (.iload_n 0, 1) := by decide +kernel
theorem d_Rf_shapeOf_1 : decode b_Rf_shapeOf 1 = .ok (.bipush 44, 2) := by decide +kernel
theorem d_Rf_shapeOf_3 : decode b_Rf_shapeOf 3 = .ok (.if_icmp .eq 22, 3) := by decide +kernel
theorem d_Rf_shapeOf_6 : decode b_Rf_shapeOf 6 = .ok (.iload_n 0, 1) := by decide +kernel
theorem d_Rf_shapeOf_7 : decode b_Rf_shapeOf 7 = .ok (.bipush 112, 2) := by decide +kernel
theorem d_Rf_shapeOf_9 : decode b_Rf_shapeOf 9 = .ok (.if_icmp .eq 16, 3) := by decide +kernel
theorem d_Rf_shapeOf_12 : decode b_Rf_shapeOf 12 = .ok (.iload_n 0, 1) := by decide +kernel
theorem d_Rf_shapeOf_13 : decode b_Rf_shapeOf 13 = .ok (.bipush 114, 2) := by decide +kernel
theorem d_Rf_shapeOf_15 : decode b_Rf_shapeOf 15 = .ok (.if_icmp .eq 10, 3) := by decide +kernel
theorem d_Rf_shapeOf_18 : decode b_Rf_shapeOf 18 = .ok (.iload_n 0, 1) := by decide +kernel
theorem d_Rf_shapeOf_19 : decode b_Rf_shapeOf 19 = .ok (.sipush 228, 3) := by decide +kernel
theorem d_Rf_shapeOf_22 : decode b_Rf_shapeOf 22 = .ok (.if_icmp .ne 7, 3) := by decide +kernel
theorem d_Rf_shapeOf_25 : decode b_Rf_shapeOf 25 = .ok (.iconst 1, 1) := by decide +kernel
theorem d_Rf_shapeOf_26 : decode b_Rf_shapeOf 26 = .ok (.goto 22, 3) := by decide +kernel
theorem d_Rf_shapeOf_29 : decode b_Rf_shapeOf 29 = .ok (.iload_n 0, 1) := by decide +kernel
theorem d_Rf_shapeOf_30 : decode b_Rf_shapeOf 30 = .ok (.sipush 176, 3) := by decide +kernel
theorem d_Rf_shapeOf_33 : decode b_Rf_shapeOf 33 = .ok (.if_icmp .eq 10, 3) := by decide +kernel
theorem d_Rf_shapeOf_36 : decode b_Rf_shapeOf 36 = .ok (.iload_n 0, 1) := by decide +kernel
theorem d_Rf_shapeOf_37 : decode b_Rf_shapeOf 37 = .ok (.sipush 178, 3) := by decide +kernel
theorem d_Rf_shapeOf_40 : decode b_Rf_shapeOf 40 = .ok (.if_icmp .ne 7, 3) := by decide +kernel
theorem d_Rf_shapeOf_43 : decode b_Rf_shapeOf 43 = .ok (.iconst 2, 1) := by decide +kernel
theorem d_Rf_shapeOf_44 : decode b_Rf_shapeOf 44 = .ok (.goto 4, 3) := by decide +kernel
theorem d_Rf_shapeOf_47 : decode b_Rf_shapeOf 47 = .ok (.iconst 3, 1) := by decide +kernel
theorem d_Rf_shapeOf_48 : decode b_Rf_shapeOf 48 = .ok (.ireturn, 1) := by decide +kernel
def fRf_shapeOf (a1 : Int32) : Option (Int32) := if a1 = 44 then (some 1) else (if a1 = 112 then (some 1) else (if a1 = 114 then (some 1) else (if a1 = 228 then (some 1) else (if a1 = 176 then (some 2) else (if a1 = 178 then (some 2) else (some 3))))))
set_option maxHeartbeats 4000000 in
set_option maxRecDepth 100000 in
theorem ctRf_shapeOf (l : Launch) (dC : Nat → ClassId) (dI : Nat → Nat → Nat) (cI : ClassId) (a1 : Int32) (r : Int32) (hf : fRf_shapeOf a1 = some r) : CtI l y_Rf_shapeOf w_Rf_shapeOf ({ frames := 0, cells := 0, slots := 0, locals := 0 }) (dC, dI) [(cI, .int)] [.int a1] [] [] r := by
  intro sz
  refine Met.ofW (cc := b_Rf_shapeOf) (maxL := 1) (ret := some .int) (by decide) rfl ?_
  intro p e s m args below meth c s₁ B hml hv
  obtain ⟨rfl, hsz, hP, hK, hD0⟩ := hv
  have hx := B.exec
  have hb := B.bytes
  have hr := B.returns
  have hts := atoms_spec (ws := w_Rf_shapeOf) B.pre
  have hown : s.vm.findClass R_Rf = some m.cls := findClass_of_methodNamed B.named
  have hlocks := B.notSynchronized
  subst hsz
  have hD := hD0.self (sz := s.heap.size)
  generalize hAe : va_A [] s.heap.size = A at hD ⊢
  have hA : ∀ q : Nat, s.heap.size ≤ q → A q := fun q h => by rw [← hAe]; exact Or.inr h
  have hS : va_S A s.heap s.heap [] := va_S.rf
  have hP : va_P (dC, dI) vwCl [] s.heap := hP
  have hl := lv_entry ([.int a1]) (n := 1) (Nat.le_of_ble_eq_true rfl)
  rw [lg_entry_eq]
  generalize (lg_sl ([.int a1]) ++ List.replicate (1 - (lg_sl ([.int a1])).length) Slot.unset).toArray = ls at hl ⊢
  have hl : lv_has ls 1 [(0, .int a1)] := hl
  rw [fRf_shapeOf] at hf
  refine lv_iload_n hx hb d_Rf_shapeOf_0 rfl (lv_at hl 0 rfl) ?_
  refine lv_bipush (v := 44) hx hb d_Rf_shapeOf_1 (by decide) ?_
  refine lv_icmp_eq (tgt := 25) hx hb d_Rf_shapeOf_3 rfl (fun hc1 => ?_) (fun hc1 => ?_)
  · have hf := ift hf hc1
    refine lv_iconst (v := 1) hx hb d_Rf_shapeOf_25 (by decide) ?_
    refine lv_goto (tgt := 48) hx hb d_Rf_shapeOf_26 rfl ?_
    have e1_ := lf1 hf
    subst e1_
    have hP9 := hP.sub (ws' := []) [] rfl
    have hD9 := hD.sub (ws' := []) [] (by decide) rfl
    exact W.iret (v := 1) hx hb hr (fun t ht hW => ⟨⟨1, (), rfl, rfl, by rw [ht]; exact hP9, va_K.moved hW.alike hK, hD9⟩, hS.F ht⟩) hS.2.2 d_Rf_shapeOf_48
  have hf := ifn hf hc1
  refine lv_iload_n hx hb d_Rf_shapeOf_6 rfl (lv_at hl 0 rfl) ?_
  refine lv_bipush (v := 112) hx hb d_Rf_shapeOf_7 (by decide) ?_
  refine lv_icmp_eq (tgt := 25) hx hb d_Rf_shapeOf_9 rfl (fun hc2 => ?_) (fun hc2 => ?_)
  · have hf := ift hf hc2
    refine lv_iconst (v := 1) hx hb d_Rf_shapeOf_25 (by decide) ?_
    refine lv_goto (tgt := 48) hx hb d_Rf_shapeOf_26 rfl ?_
    have e1_ := lf1 hf
    subst e1_
    have hP9 := hP.sub (ws' := []) [] rfl
    have hD9 := hD.sub (ws' := []) [] (by decide) rfl
    exact W.iret (v := 1) hx hb hr (fun t ht hW => ⟨⟨1, (), rfl, rfl, by rw [ht]; exact hP9, va_K.moved hW.alike hK, hD9⟩, hS.F ht⟩) hS.2.2 d_Rf_shapeOf_48
  have hf := ifn hf hc2
  refine lv_iload_n hx hb d_Rf_shapeOf_12 rfl (lv_at hl 0 rfl) ?_
  refine lv_bipush (v := 114) hx hb d_Rf_shapeOf_13 (by decide) ?_
  refine lv_icmp_eq (tgt := 25) hx hb d_Rf_shapeOf_15 rfl (fun hc3 => ?_) (fun hc3 => ?_)
  · have hf := ift hf hc3
    refine lv_iconst (v := 1) hx hb d_Rf_shapeOf_25 (by decide) ?_
    refine lv_goto (tgt := 48) hx hb d_Rf_shapeOf_26 rfl ?_
    have e1_ := lf1 hf
    subst e1_
    have hP9 := hP.sub (ws' := []) [] rfl
    have hD9 := hD.sub (ws' := []) [] (by decide) rfl
    exact W.iret (v := 1) hx hb hr (fun t ht hW => ⟨⟨1, (), rfl, rfl, by rw [ht]; exact hP9, va_K.moved hW.alike hK, hD9⟩, hS.F ht⟩) hS.2.2 d_Rf_shapeOf_48
  have hf := ifn hf hc3
  refine lv_iload_n hx hb d_Rf_shapeOf_18 rfl (lv_at hl 0 rfl) ?_
  refine lv_sipush (v := 228) hx hb d_Rf_shapeOf_19 (by decide) ?_
  refine lv_icmp_ne (tgt := 29) hx hb d_Rf_shapeOf_22 rfl (fun hc4 => ?_) (fun hc4 => ?_)
  · have hf := ifn hf hc4
    refine lv_iload_n hx hb d_Rf_shapeOf_29 rfl (lv_at hl 0 rfl) ?_
    refine lv_sipush (v := 176) hx hb d_Rf_shapeOf_30 (by decide) ?_
    refine lv_icmp_eq (tgt := 43) hx hb d_Rf_shapeOf_33 rfl (fun hc5 => ?_) (fun hc5 => ?_)
    · have hf := ift hf hc5
      refine lv_iconst (v := 2) hx hb d_Rf_shapeOf_43 (by decide) ?_
      refine lv_goto (tgt := 48) hx hb d_Rf_shapeOf_44 rfl ?_
      have e1_ := lf1 hf
      subst e1_
      have hP9 := hP.sub (ws' := []) [] rfl
      have hD9 := hD.sub (ws' := []) [] (by decide) rfl
      exact W.iret (v := 2) hx hb hr (fun t ht hW => ⟨⟨2, (), rfl, rfl, by rw [ht]; exact hP9, va_K.moved hW.alike hK, hD9⟩, hS.F ht⟩) hS.2.2 d_Rf_shapeOf_48
    have hf := ifn hf hc5
    refine lv_iload_n hx hb d_Rf_shapeOf_36 rfl (lv_at hl 0 rfl) ?_
    refine lv_sipush (v := 178) hx hb d_Rf_shapeOf_37 (by decide) ?_
    refine lv_icmp_ne (tgt := 47) hx hb d_Rf_shapeOf_40 rfl (fun hc6 => ?_) (fun hc6 => ?_)
    · have hf := ifn hf hc6
      refine lv_iconst (v := 3) hx hb d_Rf_shapeOf_47 (by decide) ?_
      have e1_ := lf1 hf
      subst e1_
      have hP9 := hP.sub (ws' := []) [] rfl
      have hD9 := hD.sub (ws' := []) [] (by decide) rfl
      exact W.iret (v := 3) hx hb hr (fun t ht hW => ⟨⟨3, (), rfl, rfl, by rw [ht]; exact hP9, va_K.moved hW.alike hK, hD9⟩, hS.F ht⟩) hS.2.2 d_Rf_shapeOf_48
    have hf := ift hf hc6
    refine lv_iconst (v := 2) hx hb d_Rf_shapeOf_43 (by decide) ?_
    refine lv_goto (tgt := 48) hx hb d_Rf_shapeOf_44 rfl ?_
    have e1_ := lf1 hf
    subst e1_
    have hP9 := hP.sub (ws' := []) [] rfl
    have hD9 := hD.sub (ws' := []) [] (by decide) rfl
    exact W.iret (v := 2) hx hb hr (fun t ht hW => ⟨⟨2, (), rfl, rfl, by rw [ht]; exact hP9, va_K.moved hW.alike hK, hD9⟩, hS.F ht⟩) hS.2.2 d_Rf_shapeOf_48
  have hf := ift hf hc4
  refine lv_iconst (v := 1) hx hb d_Rf_shapeOf_25 (by decide) ?_
  refine lv_goto (tgt := 48) hx hb d_Rf_shapeOf_26 rfl ?_
  have e1_ := lf1 hf
  subst e1_
  have hP9 := hP.sub (ws' := []) [] rfl
  have hD9 := hD.sub (ws' := []) [] (by decide) rfl
  exact W.iret (v := 1) hx hb hr (fun t ht hW => ⟨⟨1, (), rfl, rfl, by rw [ht]; exact hP9, va_K.moved hW.alike hK, hD9⟩, hS.F ht⟩) hS.2.2 d_Rf_shapeOf_48
theorem d_Rf_lengthWrong_0 : decode b_Rf_lengthWrong 0 = .ok (.iload_n 1, 1) := by decide +kernel
theorem d_Rf_lengthWrong_1 : decode b_Rf_lengthWrong 1 = .ok (.sipush 164, 3) := by decide +kernel
theorem d_Rf_lengthWrong_4 : decode b_Rf_lengthWrong 4 = .ok (.if_icmp .ne 7, 3) := by decide +kernel
theorem d_Rf_lengthWrong_7 : decode b_Rf_lengthWrong 7 = .ok (.iconst 1, 1) := by decide +kernel
theorem d_Rf_lengthWrong_8 : decode b_Rf_lengthWrong 8 = .ok (.goto 31, 3) := by decide +kernel
theorem d_Rf_lengthWrong_11 : decode b_Rf_lengthWrong 11 = .ok (.iload_n 1, 1) := by decide +kernel
theorem d_Rf_lengthWrong_12 : decode b_Rf_lengthWrong 12 = .ok (.bipush 32, 2) := by decide +kernel
theorem d_Rf_lengthWrong_14 : decode b_Rf_lengthWrong 14 = .ok (.if_icmp .eq 9, 3) := by decide +kernel
theorem d_Rf_lengthWrong_17 : decode b_Rf_lengthWrong 17 = .ok (.iload_n 1, 1) := by decide +kernel
theorem d_Rf_lengthWrong_18 : decode b_Rf_lengthWrong 18 = .ok (.bipush 36, 2) := by decide +kernel
theorem d_Rf_lengthWrong_20 : decode b_Rf_lengthWrong 20 = .ok (.if_icmp .ne 7, 3) := by decide +kernel
theorem d_Rf_lengthWrong_23 : decode b_Rf_lengthWrong 23 = .ok (.iconst 2, 1) := by decide +kernel
theorem d_Rf_lengthWrong_24 : decode b_Rf_lengthWrong 24 = .ok (.goto 15, 3) := by decide +kernel
theorem d_Rf_lengthWrong_27 : decode b_Rf_lengthWrong 27 = .ok (.iload_n 1, 1) := by decide +kernel
theorem d_Rf_lengthWrong_28 : decode b_Rf_lengthWrong 28 = .ok (.sipush 226, 3) := by decide +kernel
theorem d_Rf_lengthWrong_31 : decode b_Rf_lengthWrong 31 = .ok (.if_icmp .ne 7, 3) := by decide +kernel
theorem d_Rf_lengthWrong_34 : decode b_Rf_lengthWrong 34 = .ok (.iconst 4, 1) := by decide +kernel
theorem d_Rf_lengthWrong_35 : decode b_Rf_lengthWrong 35 = .ok (.goto 4, 3) := by decide +kernel
theorem d_Rf_lengthWrong_38 : decode b_Rf_lengthWrong 38 = .ok (.iconst 0, 1) := by decide +kernel
theorem d_Rf_lengthWrong_39 : decode b_Rf_lengthWrong 39 = .ok (.istore_n 2, 1) := by decide +kernel
theorem d_Rf_lengthWrong_40 : decode b_Rf_lengthWrong 40 = .ok (.iload_n 2, 1) := by decide +kernel
theorem d_Rf_lengthWrong_41 : decode b_Rf_lengthWrong 41 = .ok (.ifCond .le 17, 3) := by decide +kernel
theorem d_Rf_lengthWrong_44 : decode b_Rf_lengthWrong 44 = .ok (.aload_n 0, 1) := by decide +kernel
theorem d_Rf_lengthWrong_45 : decode b_Rf_lengthWrong 45 = .ok (.getfield 27, 3) := by decide +kernel
theorem d_Rf_lengthWrong_48 : decode b_Rf_lengthWrong 48 = .ok (.iconst 4, 1) := by decide +kernel
theorem d_Rf_lengthWrong_49 : decode b_Rf_lengthWrong 49 = .ok (.iaload, 1) := by decide +kernel
theorem d_Rf_lengthWrong_50 : decode b_Rf_lengthWrong 50 = .ok (.iload_n 2, 1) := by decide +kernel
theorem d_Rf_lengthWrong_51 : decode b_Rf_lengthWrong 51 = .ok (.if_icmp .eq 7, 3) := by decide +kernel
theorem d_Rf_lengthWrong_54 : decode b_Rf_lengthWrong 54 = .ok (.iconst 1, 1) := by decide +kernel
theorem d_Rf_lengthWrong_55 : decode b_Rf_lengthWrong 55 = .ok (.goto 4, 3) := by decide +kernel
theorem d_Rf_lengthWrong_58 : decode b_Rf_lengthWrong 58 = .ok (.iconst 0, 1) := by decide +kernel
theorem d_Rf_lengthWrong_59 : decode b_Rf_lengthWrong 59 = .ok (.ireturn, 1) := by decide +kernel
def fRf_lengthWrong (σ : StR) (a1 : Int32) : Option (Int32) := match σ with | (nm, nb, nl, nc, nd, nf, na, nz, no, ns, nv, np, ni, nn, nu, nt) => if a1 = 164 then (if (1 : Int32) ≤ 0 then (some 0) else (ix 4 24 fun j18 => if (ni j18) = 1 then (some 0) else (some 1))) else (if a1 = 32 then (if (2 : Int32) ≤ 0 then (some 0) else (ix 4 24 fun j4 => if (ni j4) = 2 then (some 0) else (some 1))) else (if a1 = 36 then (if (2 : Int32) ≤ 0 then (some 0) else (ix 4 24 fun j15 => if (ni j15) = 2 then (some 0) else (some 1))) else (if a1 = 226 then (if (4 : Int32) ≤ 0 then (some 0) else (ix 4 24 fun j12 => if (ni j12) = 4 then (some 0) else (some 1))) else (if (0 : Int32) ≤ 0 then (some 0) else (ix 4 24 fun j9 => if (ni j9) = 0 then (some 0) else (some 1))))))
set_option maxHeartbeats 4000000 in
set_option maxRecDepth 100000 in
theorem ctRf_lengthWrong (l : Launch) (dC : Nat → ClassId) (dI : Nat → Nat → Nat) (cI : ClassId) (hq qm qf ql qi qo : Nat) (nm : Nat → Int32) (nb : Nat → Int32) (nl : Nat → Int32) (nc : Int32) (nd : Int32) (nf : Int32) (na : Int32) (nz : Int32) (no : Int32) (ns : Int32) (nv : Int32) (np : Int32) (ni : Nat → Int32) (nn : Int32) (nu : Nat → Int32) (nt : Int32) (a1 : Int32) (r : Int32) (hf : fRf_lengthWrong (nm, nb, nl, nc, nd, nf, na, nz, no, ns, nv, np, ni, nn, nu, nt) a1 = some r) : CtZ l y_Rf_lengthWrong w_Rf_lengthWrong ({ frames := 0, cells := 0, slots := 0, locals := 0 }) (dC, dI) [(cI, .int)] [.ref hq, .int a1] [(hq, .inr (3, [.ref qm, .ref qf, .ref ql, .int nc, .int nd, .int nf, .int na, .int nz, .int no, .int ns, .int nv, .int np, .ref qi, .int nn, .ref qo, .int nt])), (qm, .inl (cI, 104, .inl nm)), (qf, .inl (cI, 104, .inl nb)), (ql, .inl (cI, 4, .inl nl)), (qi, .inl (cI, 24, .inl ni)), (qo, .inl (cI, 16, .inl nu))] [(hq, .inr (3, [.ref qm, .ref qf, .ref ql, .int nc, .int nd, .int nf, .int na, .int nz, .int no, .int ns, .int nv, .int np, .ref qi, .int nn, .ref qo, .int nt])), (qm, .inl (cI, 104, .inl nm)), (qf, .inl (cI, 104, .inl nb)), (ql, .inl (cI, 4, .inl nl)), (qi, .inl (cI, 24, .inl ni)), (qo, .inl (cI, 16, .inl nu))] r := by
  intro sz
  refine Met.ofW (cc := b_Rf_lengthWrong) (maxL := 3) (ret := some .boolean) (by decide) rfl ?_
  intro p e s m args below meth c s₁ B hml hv
  obtain ⟨rfl, hsz, hP, hK, hD0⟩ := hv
  have hx := B.exec
  have hb := B.bytes
  have hr := B.returns
  have hts := atoms_spec (ws := w_Rf_lengthWrong) B.pre
  have hown : s.vm.findClass R_Rf = some m.cls := findClass_of_methodNamed B.named
  have hlocks := B.notSynchronized
  subst hsz
  have hD := hD0.self (sz := s.heap.size)
  generalize hAe : va_A [(hq, .inr (3, [.ref qm, .ref qf, .ref ql, .int nc, .int nd, .int nf, .int na, .int nz, .int no, .int ns, .int nv, .int np, .ref qi, .int nn, .ref qo, .int nt])), (qm, .inl (cI, 104, .inl nm)), (qf, .inl (cI, 104, .inl nb)), (ql, .inl (cI, 4, .inl nl)), (qi, .inl (cI, 24, .inl ni)), (qo, .inl (cI, 16, .inl nu))] s.heap.size = A at hD ⊢
  have hA : ∀ q : Nat, s.heap.size ≤ q → A q := fun q h => by rw [← hAe]; exact Or.inr h
  have hS : va_S A s.heap s.heap [] := va_S.rf
  have hP : va_P (dC, dI) vwCl [(hq, .inr (3, [.ref qm, .ref qf, .ref ql, .int nc, .int nd, .int nf, .int na, .int nz, .int no, .int ns, .int nv, .int np, .ref qi, .int nn, .ref qo, .int nt])), (qm, .inl (cI, 104, .inl nm)), (qf, .inl (cI, 104, .inl nb)), (ql, .inl (cI, 4, .inl nl)), (qi, .inl (cI, 24, .inl ni)), (qo, .inl (cI, 16, .inl nu))] s.heap := hP
  have hl := lv_entry ([.ref hq, .int a1]) (n := 3) (Nat.le_of_ble_eq_true rfl)
  rw [lg_entry_eq]
  generalize (lg_sl ([.ref hq, .int a1]) ++ List.replicate (3 - (lg_sl ([.ref hq, .int a1])).length) Slot.unset).toArray = ls at hl ⊢
  have hl : lv_has ls 3 [(0, .ref hq), (1, .int a1)] := hl
  have inRf : ∀ w ∈ u_ws R_Rf F_Rf 16, w ∈ w_Rf_lengthWrong := fun w h => List.mem_cons_of_mem _ (in_Rf w h)
  have kf27 := hts _ (List.mem_cons_of_mem _ wq418)
  rw [fRf_lengthWrong] at hf
  refine lv_iload_n hx hb d_Rf_lengthWrong_0 rfl (lv_at hl 1 rfl) ?_
  refine lv_sipush (v := 164) hx hb d_Rf_lengthWrong_1 (by decide) ?_
  refine lv_icmp_ne (tgt := 11) hx hb d_Rf_lengthWrong_4 rfl (fun hc1 => ?_) (fun hc1 => ?_)
  · have hf := ifn hf hc1
    refine lv_iload_n hx hb d_Rf_lengthWrong_11 rfl (lv_at hl 1 rfl) ?_
    refine lv_bipush (v := 32) hx hb d_Rf_lengthWrong_12 (by decide) ?_
    refine lv_icmp_eq (tgt := 23) hx hb d_Rf_lengthWrong_14 rfl (fun hc2 => ?_) (fun hc2 => ?_)
    · have hf := ift hf hc2
      refine lv_iconst (v := 2) hx hb d_Rf_lengthWrong_23 (by decide) ?_
      refine lv_goto (tgt := 39) hx hb d_Rf_lengthWrong_24 rfl ?_
      refine lv_istore_n hx hb d_Rf_lengthWrong_39 rfl hl (by decide) rfl (fun ls hl => ?_)
      have hl : lv_has ls 3 [(2, .int 2), (0, .ref hq), (1, .int a1)] := hl
      refine lv_iload_n hx hb d_Rf_lengthWrong_40 rfl (lv_at hl 0 rfl) ?_
      refine lv_if_le (tgt := 58) hx hb d_Rf_lengthWrong_41 rfl (fun hc3 => ?_) (fun hc3 => ?_)
      · have hf := ift hf hc3
        refine lv_iconst (v := 0) hx hb d_Rf_lengthWrong_58 (by decide) ?_
        have e1_ := lf1 hf
        subst e1_
        have hP9 := hP.sub (ws' := [(hq, .inr (3, [.ref qm, .ref qf, .ref ql, .int nc, .int nd, .int nf, .int na, .int nz, .int no, .int ns, .int nv, .int np, .ref qi, .int nn, .ref qo, .int nt])), (qm, .inl (cI, 104, .inl nm)), (qf, .inl (cI, 104, .inl nb)), (ql, .inl (cI, 4, .inl nl)), (qi, .inl (cI, 24, .inl ni)), (qo, .inl (cI, 16, .inl nu))]) [0, 1, 2, 3, 4, 5] rfl
        have hD9 := hD.sub (ws' := [(hq, .inr (3, [.ref qm, .ref qf, .ref ql, .int nc, .int nd, .int nf, .int na, .int nz, .int no, .int ns, .int nv, .int np, .ref qi, .int nn, .ref qo, .int nt])), (qm, .inl (cI, 104, .inl nm)), (qf, .inl (cI, 104, .inl nb)), (ql, .inl (cI, 4, .inl nl)), (qi, .inl (cI, 24, .inl ni)), (qo, .inl (cI, 16, .inl nu))]) [0, 1, 2, 3, 4, 5] (by decide) rfl
        exact W.zret (v := 0) (ty := .boolean) hx hb hr rfl (fun t ht hW => ⟨⟨0, (), rfl, ⟨rfl, rfl⟩, by rw [ht]; exact hP9, va_K.moved hW.alike hK, hD9⟩, hS.F ht⟩) hS.2.2 d_Rf_lengthWrong_59
      have hf := ifn hf hc3
      refine lv_aload_n hx hb d_Rf_lengthWrong_44 rfl (lv_at hl 1 rfl) ?_
      refine va_get (D := (dC, dI)) (ci := 3) (v := .ref qi) (C := R_Rf) (T := F_Rf) (N := 16) hx hb hts inRf hown hK hP 0 rfl rfl 12 (by decide) kf27 (fun _ h9 => h9) rfl d_Rf_lengthWrong_45 ?_
      refine lv_iconst (v := 4) hx hb d_Rf_lengthWrong_48 (by decide) ?_
      obtain ⟨hin_, hf⟩ := ix_some hf
      refine va_iald hx hb hK hP 4 0 rfl rfl hin_ d_Rf_lengthWrong_49 ?_
      refine lv_iload_n hx hb d_Rf_lengthWrong_50 rfl (lv_at hl 0 rfl) ?_
      refine lv_icmp_eq (tgt := 58) hx hb d_Rf_lengthWrong_51 rfl (fun hc5 => ?_) (fun hc5 => ?_)
      · have hf := ift hf hc5
        refine lv_iconst (v := 0) hx hb d_Rf_lengthWrong_58 (by decide) ?_
        have e1_ := lf1 hf
        subst e1_
        have hP9 := hP.sub (ws' := [(hq, .inr (3, [.ref qm, .ref qf, .ref ql, .int nc, .int nd, .int nf, .int na, .int nz, .int no, .int ns, .int nv, .int np, .ref qi, .int nn, .ref qo, .int nt])), (qm, .inl (cI, 104, .inl nm)), (qf, .inl (cI, 104, .inl nb)), (ql, .inl (cI, 4, .inl nl)), (qi, .inl (cI, 24, .inl ni)), (qo, .inl (cI, 16, .inl nu))]) [0, 1, 2, 3, 4, 5] rfl
        have hD9 := hD.sub (ws' := [(hq, .inr (3, [.ref qm, .ref qf, .ref ql, .int nc, .int nd, .int nf, .int na, .int nz, .int no, .int ns, .int nv, .int np, .ref qi, .int nn, .ref qo, .int nt])), (qm, .inl (cI, 104, .inl nm)), (qf, .inl (cI, 104, .inl nb)), (ql, .inl (cI, 4, .inl nl)), (qi, .inl (cI, 24, .inl ni)), (qo, .inl (cI, 16, .inl nu))]) [0, 1, 2, 3, 4, 5] (by decide) rfl
        exact W.zret (v := 0) (ty := .boolean) hx hb hr rfl (fun t ht hW => ⟨⟨0, (), rfl, ⟨rfl, rfl⟩, by rw [ht]; exact hP9, va_K.moved hW.alike hK, hD9⟩, hS.F ht⟩) hS.2.2 d_Rf_lengthWrong_59
      have hf := ifn hf hc5
      refine lv_iconst (v := 1) hx hb d_Rf_lengthWrong_54 (by decide) ?_
      refine lv_goto (tgt := 59) hx hb d_Rf_lengthWrong_55 rfl ?_
      have e1_ := lf1 hf
      subst e1_
      have hP9 := hP.sub (ws' := [(hq, .inr (3, [.ref qm, .ref qf, .ref ql, .int nc, .int nd, .int nf, .int na, .int nz, .int no, .int ns, .int nv, .int np, .ref qi, .int nn, .ref qo, .int nt])), (qm, .inl (cI, 104, .inl nm)), (qf, .inl (cI, 104, .inl nb)), (ql, .inl (cI, 4, .inl nl)), (qi, .inl (cI, 24, .inl ni)), (qo, .inl (cI, 16, .inl nu))]) [0, 1, 2, 3, 4, 5] rfl
      have hD9 := hD.sub (ws' := [(hq, .inr (3, [.ref qm, .ref qf, .ref ql, .int nc, .int nd, .int nf, .int na, .int nz, .int no, .int ns, .int nv, .int np, .ref qi, .int nn, .ref qo, .int nt])), (qm, .inl (cI, 104, .inl nm)), (qf, .inl (cI, 104, .inl nb)), (ql, .inl (cI, 4, .inl nl)), (qi, .inl (cI, 24, .inl ni)), (qo, .inl (cI, 16, .inl nu))]) [0, 1, 2, 3, 4, 5] (by decide) rfl
      exact W.zret (v := 1) (ty := .boolean) hx hb hr rfl (fun t ht hW => ⟨⟨1, (), rfl, ⟨rfl, rfl⟩, by rw [ht]; exact hP9, va_K.moved hW.alike hK, hD9⟩, hS.F ht⟩) hS.2.2 d_Rf_lengthWrong_59
    have hf := ifn hf hc2
    refine lv_iload_n hx hb d_Rf_lengthWrong_17 rfl (lv_at hl 1 rfl) ?_
    refine lv_bipush (v := 36) hx hb d_Rf_lengthWrong_18 (by decide) ?_
    refine lv_icmp_ne (tgt := 27) hx hb d_Rf_lengthWrong_20 rfl (fun hc6 => ?_) (fun hc6 => ?_)
    · have hf := ifn hf hc6
      refine lv_iload_n hx hb d_Rf_lengthWrong_27 rfl (lv_at hl 1 rfl) ?_
      refine lv_sipush (v := 226) hx hb d_Rf_lengthWrong_28 (by decide) ?_
      refine lv_icmp_ne (tgt := 38) hx hb d_Rf_lengthWrong_31 rfl (fun hc7 => ?_) (fun hc7 => ?_)
      · have hf := ifn hf hc7
        refine lv_iconst (v := 0) hx hb d_Rf_lengthWrong_38 (by decide) ?_
        refine lv_istore_n hx hb d_Rf_lengthWrong_39 rfl hl (by decide) rfl (fun ls hl => ?_)
        have hl : lv_has ls 3 [(2, .int 0), (0, .ref hq), (1, .int a1)] := hl
        refine lv_iload_n hx hb d_Rf_lengthWrong_40 rfl (lv_at hl 0 rfl) ?_
        refine lv_if_le (tgt := 58) hx hb d_Rf_lengthWrong_41 rfl (fun hc8 => ?_) (fun hc8 => ?_)
        · have hf := ift hf hc8
          refine lv_iconst (v := 0) hx hb d_Rf_lengthWrong_58 (by decide) ?_
          have e1_ := lf1 hf
          subst e1_
          have hP9 := hP.sub (ws' := [(hq, .inr (3, [.ref qm, .ref qf, .ref ql, .int nc, .int nd, .int nf, .int na, .int nz, .int no, .int ns, .int nv, .int np, .ref qi, .int nn, .ref qo, .int nt])), (qm, .inl (cI, 104, .inl nm)), (qf, .inl (cI, 104, .inl nb)), (ql, .inl (cI, 4, .inl nl)), (qi, .inl (cI, 24, .inl ni)), (qo, .inl (cI, 16, .inl nu))]) [0, 1, 2, 3, 4, 5] rfl
          have hD9 := hD.sub (ws' := [(hq, .inr (3, [.ref qm, .ref qf, .ref ql, .int nc, .int nd, .int nf, .int na, .int nz, .int no, .int ns, .int nv, .int np, .ref qi, .int nn, .ref qo, .int nt])), (qm, .inl (cI, 104, .inl nm)), (qf, .inl (cI, 104, .inl nb)), (ql, .inl (cI, 4, .inl nl)), (qi, .inl (cI, 24, .inl ni)), (qo, .inl (cI, 16, .inl nu))]) [0, 1, 2, 3, 4, 5] (by decide) rfl
          exact W.zret (v := 0) (ty := .boolean) hx hb hr rfl (fun t ht hW => ⟨⟨0, (), rfl, ⟨rfl, rfl⟩, by rw [ht]; exact hP9, va_K.moved hW.alike hK, hD9⟩, hS.F ht⟩) hS.2.2 d_Rf_lengthWrong_59
        have hf := ifn hf hc8
        refine lv_aload_n hx hb d_Rf_lengthWrong_44 rfl (lv_at hl 1 rfl) ?_
        refine va_get (D := (dC, dI)) (ci := 3) (v := .ref qi) (C := R_Rf) (T := F_Rf) (N := 16) hx hb hts inRf hown hK hP 0 rfl rfl 12 (by decide) kf27 (fun _ h9 => h9) rfl d_Rf_lengthWrong_45 ?_
        refine lv_iconst (v := 4) hx hb d_Rf_lengthWrong_48 (by decide) ?_
        obtain ⟨hin_, hf⟩ := ix_some hf
        refine va_iald hx hb hK hP 4 0 rfl rfl hin_ d_Rf_lengthWrong_49 ?_
        refine lv_iload_n hx hb d_Rf_lengthWrong_50 rfl (lv_at hl 0 rfl) ?_
        refine lv_icmp_eq (tgt := 58) hx hb d_Rf_lengthWrong_51 rfl (fun hc10 => ?_) (fun hc10 => ?_)
        · have hf := ift hf hc10
          refine lv_iconst (v := 0) hx hb d_Rf_lengthWrong_58 (by decide) ?_
          have e1_ := lf1 hf
          subst e1_
          have hP9 := hP.sub (ws' := [(hq, .inr (3, [.ref qm, .ref qf, .ref ql, .int nc, .int nd, .int nf, .int na, .int nz, .int no, .int ns, .int nv, .int np, .ref qi, .int nn, .ref qo, .int nt])), (qm, .inl (cI, 104, .inl nm)), (qf, .inl (cI, 104, .inl nb)), (ql, .inl (cI, 4, .inl nl)), (qi, .inl (cI, 24, .inl ni)), (qo, .inl (cI, 16, .inl nu))]) [0, 1, 2, 3, 4, 5] rfl
          have hD9 := hD.sub (ws' := [(hq, .inr (3, [.ref qm, .ref qf, .ref ql, .int nc, .int nd, .int nf, .int na, .int nz, .int no, .int ns, .int nv, .int np, .ref qi, .int nn, .ref qo, .int nt])), (qm, .inl (cI, 104, .inl nm)), (qf, .inl (cI, 104, .inl nb)), (ql, .inl (cI, 4, .inl nl)), (qi, .inl (cI, 24, .inl ni)), (qo, .inl (cI, 16, .inl nu))]) [0, 1, 2, 3, 4, 5] (by decide) rfl
          exact W.zret (v := 0) (ty := .boolean) hx hb hr rfl (fun t ht hW => ⟨⟨0, (), rfl, ⟨rfl, rfl⟩, by rw [ht]; exact hP9, va_K.moved hW.alike hK, hD9⟩, hS.F ht⟩) hS.2.2 d_Rf_lengthWrong_59
        have hf := ifn hf hc10
        refine lv_iconst (v := 1) hx hb d_Rf_lengthWrong_54 (by decide) ?_
        refine lv_goto (tgt := 59) hx hb d_Rf_lengthWrong_55 rfl ?_
        have e1_ := lf1 hf
        subst e1_
        have hP9 := hP.sub (ws' := [(hq, .inr (3, [.ref qm, .ref qf, .ref ql, .int nc, .int nd, .int nf, .int na, .int nz, .int no, .int ns, .int nv, .int np, .ref qi, .int nn, .ref qo, .int nt])), (qm, .inl (cI, 104, .inl nm)), (qf, .inl (cI, 104, .inl nb)), (ql, .inl (cI, 4, .inl nl)), (qi, .inl (cI, 24, .inl ni)), (qo, .inl (cI, 16, .inl nu))]) [0, 1, 2, 3, 4, 5] rfl
        have hD9 := hD.sub (ws' := [(hq, .inr (3, [.ref qm, .ref qf, .ref ql, .int nc, .int nd, .int nf, .int na, .int nz, .int no, .int ns, .int nv, .int np, .ref qi, .int nn, .ref qo, .int nt])), (qm, .inl (cI, 104, .inl nm)), (qf, .inl (cI, 104, .inl nb)), (ql, .inl (cI, 4, .inl nl)), (qi, .inl (cI, 24, .inl ni)), (qo, .inl (cI, 16, .inl nu))]) [0, 1, 2, 3, 4, 5] (by decide) rfl
        exact W.zret (v := 1) (ty := .boolean) hx hb hr rfl (fun t ht hW => ⟨⟨1, (), rfl, ⟨rfl, rfl⟩, by rw [ht]; exact hP9, va_K.moved hW.alike hK, hD9⟩, hS.F ht⟩) hS.2.2 d_Rf_lengthWrong_59
      have hf := ift hf hc7
      refine lv_iconst (v := 4) hx hb d_Rf_lengthWrong_34 (by decide) ?_
      refine lv_goto (tgt := 39) hx hb d_Rf_lengthWrong_35 rfl ?_
      refine lv_istore_n hx hb d_Rf_lengthWrong_39 rfl hl (by decide) rfl (fun ls hl => ?_)
      have hl : lv_has ls 3 [(2, .int 4), (0, .ref hq), (1, .int a1)] := hl
      refine lv_iload_n hx hb d_Rf_lengthWrong_40 rfl (lv_at hl 0 rfl) ?_
      refine lv_if_le (tgt := 58) hx hb d_Rf_lengthWrong_41 rfl (fun hc11 => ?_) (fun hc11 => ?_)
      · have hf := ift hf hc11
        refine lv_iconst (v := 0) hx hb d_Rf_lengthWrong_58 (by decide) ?_
        have e1_ := lf1 hf
        subst e1_
        have hP9 := hP.sub (ws' := [(hq, .inr (3, [.ref qm, .ref qf, .ref ql, .int nc, .int nd, .int nf, .int na, .int nz, .int no, .int ns, .int nv, .int np, .ref qi, .int nn, .ref qo, .int nt])), (qm, .inl (cI, 104, .inl nm)), (qf, .inl (cI, 104, .inl nb)), (ql, .inl (cI, 4, .inl nl)), (qi, .inl (cI, 24, .inl ni)), (qo, .inl (cI, 16, .inl nu))]) [0, 1, 2, 3, 4, 5] rfl
        have hD9 := hD.sub (ws' := [(hq, .inr (3, [.ref qm, .ref qf, .ref ql, .int nc, .int nd, .int nf, .int na, .int nz, .int no, .int ns, .int nv, .int np, .ref qi, .int nn, .ref qo, .int nt])), (qm, .inl (cI, 104, .inl nm)), (qf, .inl (cI, 104, .inl nb)), (ql, .inl (cI, 4, .inl nl)), (qi, .inl (cI, 24, .inl ni)), (qo, .inl (cI, 16, .inl nu))]) [0, 1, 2, 3, 4, 5] (by decide) rfl
        exact W.zret (v := 0) (ty := .boolean) hx hb hr rfl (fun t ht hW => ⟨⟨0, (), rfl, ⟨rfl, rfl⟩, by rw [ht]; exact hP9, va_K.moved hW.alike hK, hD9⟩, hS.F ht⟩) hS.2.2 d_Rf_lengthWrong_59
      have hf := ifn hf hc11
      refine lv_aload_n hx hb d_Rf_lengthWrong_44 rfl (lv_at hl 1 rfl) ?_
      refine va_get (D := (dC, dI)) (ci := 3) (v := .ref qi) (C := R_Rf) (T := F_Rf) (N := 16) hx hb hts inRf hown hK hP 0 rfl rfl 12 (by decide) kf27 (fun _ h9 => h9) rfl d_Rf_lengthWrong_45 ?_
      refine lv_iconst (v := 4) hx hb d_Rf_lengthWrong_48 (by decide) ?_
      obtain ⟨hin_, hf⟩ := ix_some hf
      refine va_iald hx hb hK hP 4 0 rfl rfl hin_ d_Rf_lengthWrong_49 ?_
      refine lv_iload_n hx hb d_Rf_lengthWrong_50 rfl (lv_at hl 0 rfl) ?_
      refine lv_icmp_eq (tgt := 58) hx hb d_Rf_lengthWrong_51 rfl (fun hc13 => ?_) (fun hc13 => ?_)
      · have hf := ift hf hc13
        refine lv_iconst (v := 0) hx hb d_Rf_lengthWrong_58 (by decide) ?_
        have e1_ := lf1 hf
        subst e1_
        have hP9 := hP.sub (ws' := [(hq, .inr (3, [.ref qm, .ref qf, .ref ql, .int nc, .int nd, .int nf, .int na, .int nz, .int no, .int ns, .int nv, .int np, .ref qi, .int nn, .ref qo, .int nt])), (qm, .inl (cI, 104, .inl nm)), (qf, .inl (cI, 104, .inl nb)), (ql, .inl (cI, 4, .inl nl)), (qi, .inl (cI, 24, .inl ni)), (qo, .inl (cI, 16, .inl nu))]) [0, 1, 2, 3, 4, 5] rfl
        have hD9 := hD.sub (ws' := [(hq, .inr (3, [.ref qm, .ref qf, .ref ql, .int nc, .int nd, .int nf, .int na, .int nz, .int no, .int ns, .int nv, .int np, .ref qi, .int nn, .ref qo, .int nt])), (qm, .inl (cI, 104, .inl nm)), (qf, .inl (cI, 104, .inl nb)), (ql, .inl (cI, 4, .inl nl)), (qi, .inl (cI, 24, .inl ni)), (qo, .inl (cI, 16, .inl nu))]) [0, 1, 2, 3, 4, 5] (by decide) rfl
        exact W.zret (v := 0) (ty := .boolean) hx hb hr rfl (fun t ht hW => ⟨⟨0, (), rfl, ⟨rfl, rfl⟩, by rw [ht]; exact hP9, va_K.moved hW.alike hK, hD9⟩, hS.F ht⟩) hS.2.2 d_Rf_lengthWrong_59
      have hf := ifn hf hc13
      refine lv_iconst (v := 1) hx hb d_Rf_lengthWrong_54 (by decide) ?_
      refine lv_goto (tgt := 59) hx hb d_Rf_lengthWrong_55 rfl ?_
      have e1_ := lf1 hf
      subst e1_
      have hP9 := hP.sub (ws' := [(hq, .inr (3, [.ref qm, .ref qf, .ref ql, .int nc, .int nd, .int nf, .int na, .int nz, .int no, .int ns, .int nv, .int np, .ref qi, .int nn, .ref qo, .int nt])), (qm, .inl (cI, 104, .inl nm)), (qf, .inl (cI, 104, .inl nb)), (ql, .inl (cI, 4, .inl nl)), (qi, .inl (cI, 24, .inl ni)), (qo, .inl (cI, 16, .inl nu))]) [0, 1, 2, 3, 4, 5] rfl
      have hD9 := hD.sub (ws' := [(hq, .inr (3, [.ref qm, .ref qf, .ref ql, .int nc, .int nd, .int nf, .int na, .int nz, .int no, .int ns, .int nv, .int np, .ref qi, .int nn, .ref qo, .int nt])), (qm, .inl (cI, 104, .inl nm)), (qf, .inl (cI, 104, .inl nb)), (ql, .inl (cI, 4, .inl nl)), (qi, .inl (cI, 24, .inl ni)), (qo, .inl (cI, 16, .inl nu))]) [0, 1, 2, 3, 4, 5] (by decide) rfl
      exact W.zret (v := 1) (ty := .boolean) hx hb hr rfl (fun t ht hW => ⟨⟨1, (), rfl, ⟨rfl, rfl⟩, by rw [ht]; exact hP9, va_K.moved hW.alike hK, hD9⟩, hS.F ht⟩) hS.2.2 d_Rf_lengthWrong_59
    have hf := ift hf hc6
    refine lv_iconst (v := 2) hx hb d_Rf_lengthWrong_23 (by decide) ?_
    refine lv_goto (tgt := 39) hx hb d_Rf_lengthWrong_24 rfl ?_
    refine lv_istore_n hx hb d_Rf_lengthWrong_39 rfl hl (by decide) rfl (fun ls hl => ?_)
    have hl : lv_has ls 3 [(2, .int 2), (0, .ref hq), (1, .int a1)] := hl
    refine lv_iload_n hx hb d_Rf_lengthWrong_40 rfl (lv_at hl 0 rfl) ?_
    refine lv_if_le (tgt := 58) hx hb d_Rf_lengthWrong_41 rfl (fun hc14 => ?_) (fun hc14 => ?_)
    · have hf := ift hf hc14
      refine lv_iconst (v := 0) hx hb d_Rf_lengthWrong_58 (by decide) ?_
      have e1_ := lf1 hf
      subst e1_
      have hP9 := hP.sub (ws' := [(hq, .inr (3, [.ref qm, .ref qf, .ref ql, .int nc, .int nd, .int nf, .int na, .int nz, .int no, .int ns, .int nv, .int np, .ref qi, .int nn, .ref qo, .int nt])), (qm, .inl (cI, 104, .inl nm)), (qf, .inl (cI, 104, .inl nb)), (ql, .inl (cI, 4, .inl nl)), (qi, .inl (cI, 24, .inl ni)), (qo, .inl (cI, 16, .inl nu))]) [0, 1, 2, 3, 4, 5] rfl
      have hD9 := hD.sub (ws' := [(hq, .inr (3, [.ref qm, .ref qf, .ref ql, .int nc, .int nd, .int nf, .int na, .int nz, .int no, .int ns, .int nv, .int np, .ref qi, .int nn, .ref qo, .int nt])), (qm, .inl (cI, 104, .inl nm)), (qf, .inl (cI, 104, .inl nb)), (ql, .inl (cI, 4, .inl nl)), (qi, .inl (cI, 24, .inl ni)), (qo, .inl (cI, 16, .inl nu))]) [0, 1, 2, 3, 4, 5] (by decide) rfl
      exact W.zret (v := 0) (ty := .boolean) hx hb hr rfl (fun t ht hW => ⟨⟨0, (), rfl, ⟨rfl, rfl⟩, by rw [ht]; exact hP9, va_K.moved hW.alike hK, hD9⟩, hS.F ht⟩) hS.2.2 d_Rf_lengthWrong_59
    have hf := ifn hf hc14
    refine lv_aload_n hx hb d_Rf_lengthWrong_44 rfl (lv_at hl 1 rfl) ?_
    refine va_get (D := (dC, dI)) (ci := 3) (v := .ref qi) (C := R_Rf) (T := F_Rf) (N := 16) hx hb hts inRf hown hK hP 0 rfl rfl 12 (by decide) kf27 (fun _ h9 => h9) rfl d_Rf_lengthWrong_45 ?_
    refine lv_iconst (v := 4) hx hb d_Rf_lengthWrong_48 (by decide) ?_
    obtain ⟨hin_, hf⟩ := ix_some hf
    refine va_iald hx hb hK hP 4 0 rfl rfl hin_ d_Rf_lengthWrong_49 ?_
    refine lv_iload_n hx hb d_Rf_lengthWrong_50 rfl (lv_at hl 0 rfl) ?_
    refine lv_icmp_eq (tgt := 58) hx hb d_Rf_lengthWrong_51 rfl (fun hc16 => ?_) (fun hc16 => ?_)
    · have hf := ift hf hc16
      refine lv_iconst (v := 0) hx hb d_Rf_lengthWrong_58 (by decide) ?_
      have e1_ := lf1 hf
      subst e1_
      have hP9 := hP.sub (ws' := [(hq, .inr (3, [.ref qm, .ref qf, .ref ql, .int nc, .int nd, .int nf, .int na, .int nz, .int no, .int ns, .int nv, .int np, .ref qi, .int nn, .ref qo, .int nt])), (qm, .inl (cI, 104, .inl nm)), (qf, .inl (cI, 104, .inl nb)), (ql, .inl (cI, 4, .inl nl)), (qi, .inl (cI, 24, .inl ni)), (qo, .inl (cI, 16, .inl nu))]) [0, 1, 2, 3, 4, 5] rfl
      have hD9 := hD.sub (ws' := [(hq, .inr (3, [.ref qm, .ref qf, .ref ql, .int nc, .int nd, .int nf, .int na, .int nz, .int no, .int ns, .int nv, .int np, .ref qi, .int nn, .ref qo, .int nt])), (qm, .inl (cI, 104, .inl nm)), (qf, .inl (cI, 104, .inl nb)), (ql, .inl (cI, 4, .inl nl)), (qi, .inl (cI, 24, .inl ni)), (qo, .inl (cI, 16, .inl nu))]) [0, 1, 2, 3, 4, 5] (by decide) rfl
      exact W.zret (v := 0) (ty := .boolean) hx hb hr rfl (fun t ht hW => ⟨⟨0, (), rfl, ⟨rfl, rfl⟩, by rw [ht]; exact hP9, va_K.moved hW.alike hK, hD9⟩, hS.F ht⟩) hS.2.2 d_Rf_lengthWrong_59
    have hf := ifn hf hc16
    refine lv_iconst (v := 1) hx hb d_Rf_lengthWrong_54 (by decide) ?_
    refine lv_goto (tgt := 59) hx hb d_Rf_lengthWrong_55 rfl ?_
    have e1_ := lf1 hf
    subst e1_
    have hP9 := hP.sub (ws' := [(hq, .inr (3, [.ref qm, .ref qf, .ref ql, .int nc, .int nd, .int nf, .int na, .int nz, .int no, .int ns, .int nv, .int np, .ref qi, .int nn, .ref qo, .int nt])), (qm, .inl (cI, 104, .inl nm)), (qf, .inl (cI, 104, .inl nb)), (ql, .inl (cI, 4, .inl nl)), (qi, .inl (cI, 24, .inl ni)), (qo, .inl (cI, 16, .inl nu))]) [0, 1, 2, 3, 4, 5] rfl
    have hD9 := hD.sub (ws' := [(hq, .inr (3, [.ref qm, .ref qf, .ref ql, .int nc, .int nd, .int nf, .int na, .int nz, .int no, .int ns, .int nv, .int np, .ref qi, .int nn, .ref qo, .int nt])), (qm, .inl (cI, 104, .inl nm)), (qf, .inl (cI, 104, .inl nb)), (ql, .inl (cI, 4, .inl nl)), (qi, .inl (cI, 24, .inl ni)), (qo, .inl (cI, 16, .inl nu))]) [0, 1, 2, 3, 4, 5] (by decide) rfl
    exact W.zret (v := 1) (ty := .boolean) hx hb hr rfl (fun t ht hW => ⟨⟨1, (), rfl, ⟨rfl, rfl⟩, by rw [ht]; exact hP9, va_K.moved hW.alike hK, hD9⟩, hS.F ht⟩) hS.2.2 d_Rf_lengthWrong_59
  have hf := ift hf hc1
  refine lv_iconst (v := 1) hx hb d_Rf_lengthWrong_7 (by decide) ?_
  refine lv_goto (tgt := 39) hx hb d_Rf_lengthWrong_8 rfl ?_
  refine lv_istore_n hx hb d_Rf_lengthWrong_39 rfl hl (by decide) rfl (fun ls hl => ?_)
  have hl : lv_has ls 3 [(2, .int 1), (0, .ref hq), (1, .int a1)] := hl
  refine lv_iload_n hx hb d_Rf_lengthWrong_40 rfl (lv_at hl 0 rfl) ?_
  refine lv_if_le (tgt := 58) hx hb d_Rf_lengthWrong_41 rfl (fun hc17 => ?_) (fun hc17 => ?_)
  · have hf := ift hf hc17
    refine lv_iconst (v := 0) hx hb d_Rf_lengthWrong_58 (by decide) ?_
    have e1_ := lf1 hf
    subst e1_
    have hP9 := hP.sub (ws' := [(hq, .inr (3, [.ref qm, .ref qf, .ref ql, .int nc, .int nd, .int nf, .int na, .int nz, .int no, .int ns, .int nv, .int np, .ref qi, .int nn, .ref qo, .int nt])), (qm, .inl (cI, 104, .inl nm)), (qf, .inl (cI, 104, .inl nb)), (ql, .inl (cI, 4, .inl nl)), (qi, .inl (cI, 24, .inl ni)), (qo, .inl (cI, 16, .inl nu))]) [0, 1, 2, 3, 4, 5] rfl
    have hD9 := hD.sub (ws' := [(hq, .inr (3, [.ref qm, .ref qf, .ref ql, .int nc, .int nd, .int nf, .int na, .int nz, .int no, .int ns, .int nv, .int np, .ref qi, .int nn, .ref qo, .int nt])), (qm, .inl (cI, 104, .inl nm)), (qf, .inl (cI, 104, .inl nb)), (ql, .inl (cI, 4, .inl nl)), (qi, .inl (cI, 24, .inl ni)), (qo, .inl (cI, 16, .inl nu))]) [0, 1, 2, 3, 4, 5] (by decide) rfl
    exact W.zret (v := 0) (ty := .boolean) hx hb hr rfl (fun t ht hW => ⟨⟨0, (), rfl, ⟨rfl, rfl⟩, by rw [ht]; exact hP9, va_K.moved hW.alike hK, hD9⟩, hS.F ht⟩) hS.2.2 d_Rf_lengthWrong_59
  have hf := ifn hf hc17
  refine lv_aload_n hx hb d_Rf_lengthWrong_44 rfl (lv_at hl 1 rfl) ?_
  refine va_get (D := (dC, dI)) (ci := 3) (v := .ref qi) (C := R_Rf) (T := F_Rf) (N := 16) hx hb hts inRf hown hK hP 0 rfl rfl 12 (by decide) kf27 (fun _ h9 => h9) rfl d_Rf_lengthWrong_45 ?_
  refine lv_iconst (v := 4) hx hb d_Rf_lengthWrong_48 (by decide) ?_
  obtain ⟨hin_, hf⟩ := ix_some hf
  refine va_iald hx hb hK hP 4 0 rfl rfl hin_ d_Rf_lengthWrong_49 ?_
  refine lv_iload_n hx hb d_Rf_lengthWrong_50 rfl (lv_at hl 0 rfl) ?_
  refine lv_icmp_eq (tgt := 58) hx hb d_Rf_lengthWrong_51 rfl (fun hc19 => ?_) (fun hc19 => ?_)
  · have hf := ift hf hc19
    refine lv_iconst (v := 0) hx hb d_Rf_lengthWrong_58 (by decide) ?_
    have e1_ := lf1 hf
    subst e1_
    have hP9 := hP.sub (ws' := [(hq, .inr (3, [.ref qm, .ref qf, .ref ql, .int nc, .int nd, .int nf, .int na, .int nz, .int no, .int ns, .int nv, .int np, .ref qi, .int nn, .ref qo, .int nt])), (qm, .inl (cI, 104, .inl nm)), (qf, .inl (cI, 104, .inl nb)), (ql, .inl (cI, 4, .inl nl)), (qi, .inl (cI, 24, .inl ni)), (qo, .inl (cI, 16, .inl nu))]) [0, 1, 2, 3, 4, 5] rfl
    have hD9 := hD.sub (ws' := [(hq, .inr (3, [.ref qm, .ref qf, .ref ql, .int nc, .int nd, .int nf, .int na, .int nz, .int no, .int ns, .int nv, .int np, .ref qi, .int nn, .ref qo, .int nt])), (qm, .inl (cI, 104, .inl nm)), (qf, .inl (cI, 104, .inl nb)), (ql, .inl (cI, 4, .inl nl)), (qi, .inl (cI, 24, .inl ni)), (qo, .inl (cI, 16, .inl nu))]) [0, 1, 2, 3, 4, 5] (by decide) rfl
    exact W.zret (v := 0) (ty := .boolean) hx hb hr rfl (fun t ht hW => ⟨⟨0, (), rfl, ⟨rfl, rfl⟩, by rw [ht]; exact hP9, va_K.moved hW.alike hK, hD9⟩, hS.F ht⟩) hS.2.2 d_Rf_lengthWrong_59
  have hf := ifn hf hc19
  refine lv_iconst (v := 1) hx hb d_Rf_lengthWrong_54 (by decide) ?_
  refine lv_goto (tgt := 59) hx hb d_Rf_lengthWrong_55 rfl ?_
  have e1_ := lf1 hf
  subst e1_
  have hP9 := hP.sub (ws' := [(hq, .inr (3, [.ref qm, .ref qf, .ref ql, .int nc, .int nd, .int nf, .int na, .int nz, .int no, .int ns, .int nv, .int np, .ref qi, .int nn, .ref qo, .int nt])), (qm, .inl (cI, 104, .inl nm)), (qf, .inl (cI, 104, .inl nb)), (ql, .inl (cI, 4, .inl nl)), (qi, .inl (cI, 24, .inl ni)), (qo, .inl (cI, 16, .inl nu))]) [0, 1, 2, 3, 4, 5] rfl
  have hD9 := hD.sub (ws' := [(hq, .inr (3, [.ref qm, .ref qf, .ref ql, .int nc, .int nd, .int nf, .int na, .int nz, .int no, .int ns, .int nv, .int np, .ref qi, .int nn, .ref qo, .int nt])), (qm, .inl (cI, 104, .inl nm)), (qf, .inl (cI, 104, .inl nb)), (ql, .inl (cI, 4, .inl nl)), (qi, .inl (cI, 24, .inl ni)), (qo, .inl (cI, 16, .inl nu))]) [0, 1, 2, 3, 4, 5] (by decide) rfl
  exact W.zret (v := 1) (ty := .boolean) hx hb hr rfl (fun t ht hW => ⟨⟨1, (), rfl, ⟨rfl, rfl⟩, by rw [ht]; exact hP9, va_K.moved hW.alike hK, hD9⟩, hS.F ht⟩) hS.2.2 d_Rf_lengthWrong_59
