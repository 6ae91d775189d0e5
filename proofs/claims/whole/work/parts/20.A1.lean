theorem d_A_init_0 : decode b_A_init 0 = .ok (.aload_n 0, 1) := by decide +kernel
theorem d_A_init_1 : decode b_A_init 1 = .ok (.invokespecial 1, 3) := by decide +kernel
theorem d_A_init_4 : decode b_A_init 4 = .ok (.aload_n 0, 1) := by decide +kernel
theorem d_A_init_5 : decode b_A_init 5 = .ok (.new 7, 3) := by decide +kernel
theorem d_A_init_8 : decode b_A_init 8 = .ok (.dup, 1) := by decide +kernel
theorem d_A_init_9 : decode b_A_init 9 = .ok (.invokespecial 9, 3) := by decide +kernel
theorem d_A_init_12 : decode b_A_init 12 = .ok (.putfield 10, 3) := by decide +kernel
theorem d_A_init_15 : decode b_A_init 15 = .ok (.aload_n 0, 1) := by decide +kernel
theorem d_A_init_16 : decode b_A_init 16 = .ok (.new 16, 3) := by decide +kernel
theorem d_A_init_19 : decode b_A_init 19 = .ok (.dup, 1) := by decide +kernel
theorem d_A_init_20 : decode b_A_init 20 = .ok (.invokespecial 18, 3) := by decide +kernel
theorem d_A_init_23 : decode b_A_init 23 = .ok (.putfield 19, 3) := by decide +kernel
theorem d_A_init_26 : decode b_A_init 26 = .ok (.aload_n 0, 1) := by decide +kernel
theorem d_A_init_27 : decode b_A_init 27 = .ok (.bipush 16, 2) := by decide +kernel
theorem d_A_init_29 : decode b_A_init 29 = .ok (.newarray .int, 2) := by decide +kernel
theorem d_A_init_31 : decode b_A_init 31 = .ok (.putfield 23, 3) := by decide +kernel
theorem d_A_init_34 : decode b_A_init 34 = .ok (.aload_n 0, 1) := by decide +kernel
theorem d_A_init_35 : decode b_A_init 35 = .ok (.iconst 4, 1) := by decide +kernel
theorem d_A_init_36 : decode b_A_init 36 = .ok (.newarray .int, 2) := by decide +kernel
theorem d_A_init_38 : decode b_A_init 38 = .ok (.putfield 27, 3) := by decide +kernel
theorem d_A_init_41 : decode b_A_init 41 = .ok (.aload_n 0, 1) := by decide +kernel
theorem d_A_init_42 : decode b_A_init 42 = .ok (.bipush (-2), 2) := by decide +kernel
theorem d_A_init_44 : decode b_A_init 44 = .ok (.putfield 30, 3) := by decide +kernel
theorem d_A_init_47 : decode b_A_init 47 = .ok (.aload_n 0, 1) := by decide +kernel
theorem d_A_init_48 : decode b_A_init 48 = .ok (.iconst 1, 1) := by decide +kernel
theorem d_A_init_49 : decode b_A_init 49 = .ok (.putfield 34, 3) := by decide +kernel
theorem d_A_init_52 : decode b_A_init 52 = .ok (.return_, 1) := by decide +kernel
def fA_init : Option (StX) := bd4 fM_init fun mc1 mw1 mf1 mz1 => bd2 fI_init fun ib2 ic2 => some (mc1, mw1, mf1, mz1, ib2, ic2, fun _ => 0, fun _ => 0, 0, 1, (-2), 0, 0)
set_option maxHeartbeats 4000000 in
set_option maxRecDepth 100000 in
theorem ctA_init (l : Launch) (dC : Nat → ClassId) (dI : Nat → Nat → Nat) (cI : ClassId) (ha : Nat) (mc' : Nat → Int32) (mw' : Int32) (mf' : Int32) (mz' : Int32) (ib' : Nat → Int32) (ic' : Int32) (xa' : Nat → Int32) (xg' : Nat → Int32) (xl' : Int32) (xo' : Int32) (xs' : Int32) (xv' : Int32) (xp' : Int32) (hf : fA_init = some (mc', mw', mf', mz', ib', ic', xa', xg', xl', xo', xs', xv', xp')) : CtN l y_A_init w_A_init ({ frames := 2, cells := 6, slots := 199, locals := 33 }) (dC, dI) [(cI, .int)] [.ref ha] [(ha, .inr (0, [.null, .null, .null, .null, .int 0, .int 0, .int 0, .int 0, .int 0]))] (fun u : Nat × Nat × Nat × Nat × Nat × Nat => [(ha, .inr (0, [.ref (u.1), .ref (u.2.2.1), .ref (u.2.2.2.2.1), .ref (u.2.2.2.2.2), .int xl', .int xo', .int xs', .int xv', .int xp'])), ((u.1), .inr (1, [.ref (u.2.1), .int mw', .int mf', .int mz'])), ((u.2.1), .inl (cI, 149, .inl mc')), ((u.2.2.1), .inr (2, [.ref (u.2.2.2.1), .int ic'])), ((u.2.2.2.1), .inl (cI, 24, .inl ib')), ((u.2.2.2.2.1), .inl (cI, 16, .inl xa')), ((u.2.2.2.2.2), .inl (cI, 4, .inl xg'))]) 6 199 := by
  intro sz
  refine Met.ofW (cc := b_A_init) (maxL := 1) (ret := none) (by decide) rfl ?_
  intro p e s m args below meth c s₁ B hml hv
  obtain ⟨rfl, hsz, hP, hK, hD0⟩ := hv
  have hx := B.exec
  have hb := B.bytes
  have hr := B.returns
  have hts := atoms_spec (ws := w_A_init) B.pre
  have hown : s.vm.findClass R_A = some m.cls := findClass_of_methodNamed B.named
  have hlocks := B.notSynchronized
  have hin : meth.name = "<init>" := (name_of_methodNamed B.named B.method).1
  subst hsz
  have hD := hD0.self (sz := s.heap.size)
  generalize hAe : va_A [(ha, .inr (0, [.null, .null, .null, .null, .int 0, .int 0, .int 0, .int 0, .int 0]))] s.heap.size = A at hD ⊢
  have hA : ∀ q : Nat, s.heap.size ≤ q → A q := fun q h => by rw [← hAe]; exact Or.inr h
  have hS : va_S A s.heap s.heap [] := va_S.rf
  have hP : va_P (dC, dI) vwCl [(ha, .inr (0, [.null, .null, .null, .null, .int 0, .int 0, .int 0, .int 0, .int 0]))] s.heap := hP
  have hl := lv_entry ([.ref ha]) (n := 1) (Nat.le_of_ble_eq_true rfl)
  rw [lg_entry_eq]
  generalize (lg_sl ([.ref ha]) ++ List.replicate (1 - (lg_sl ([.ref ha])).length) Slot.unset).toArray = ls at hl ⊢
  have hl : lv_has ls 1 [(0, .ref ha)] := hl
  have inA : ∀ w ∈ u_ws R_A F_A 9, w ∈ w_A_init := fun w h => List.mem_cons_of_mem _ (in_A w h)
  have inI : ∀ w ∈ u_ws R_I F_I 2, w ∈ w_A_init := fun w h => List.mem_cons_of_mem _ (in_I w h)
  have inM : ∀ w ∈ u_ws R_M F_M 4, w ∈ w_A_init := fun w h => List.mem_cons_of_mem _ (in_M w h)
  have ka0 := hts _ (List.mem_cons_of_mem _ wq77)
  have kf10 := hts _ (List.mem_cons_of_mem _ wq91)
  have kf19 := hts _ (List.mem_cons_of_mem _ wq92)
  have kf23 := hts _ (List.mem_cons_of_mem _ wq93)
  have kf27 := hts _ (List.mem_cons_of_mem _ wq94)
  have kf30 := hts _ (List.mem_cons_of_mem _ wq97)
  have kf34 := hts _ (List.mem_cons_of_mem _ wq96)
  have kiI0 := hts _ (List.mem_cons_of_mem _ wq45)
  have kiM0 := hts _ (List.mem_cons_of_mem _ wq44)
  have kk16 := hts _ (List.mem_cons_of_mem _ wq78)
  have kk7 := hts _ (List.mem_cons_of_mem _ wq58)
  have km1 := hts _ (List.mem_cons_of_mem _ wq55)
  have knI0 := hts _ (List.mem_cons_of_mem _ wq79)
  have knM0 := hts _ (List.mem_cons_of_mem _ wq59)
  have ko0 := hts _ (List.mem_cons_of_mem _ wq56)
  have ko1 := hts _ (List.mem_cons_of_mem _ wq57)
  rw [fA_init] at hf
  refine lv_aload_n hx hb d_A_init_0 rfl (lv_at hl 0 rfl) ?_
  refine W.objInit hx hb hown km1 ko0 ko1 rfl (by rw [hml]; exact hl.1) rfl d_A_init_1 (Nat.le_of_ble_eq_true rfl) (Nat.le_of_ble_eq_true rfl) ?_
  refine W.eq (g2 := F0 m 4 ls []) rfl ?_
  refine lv_aload_n hx hb d_A_init_4 rfl (lv_at hl 0 rfl) ?_
  refine va_new (ci := 1) (fs := [.null, .int 0, .int 0, .int 0]) (C := R_M) (T := F_M) (N := 4) hx hb hts inM t_M t_M_ok hown kk7 knM0 kiM0 hK hP hD hS hA rfl (fun j hj => by rcases (show j = 0 ∨ j = 1 ∨ j = 2 ∨ j = 3 by omega) with rfl | rfl | rfl | rfl <;> rfl) (Nat.le_of_ble_eq_true rfl) (Nat.le_of_ble_eq_true rfl) d_A_init_5 (fun hm H hP hD hS => ?_)
  have hP : va_P (dC, dI) vwCl [(ha, .inr (0, [.null, .null, .null, .null, .int 0, .int 0, .int 0, .int 0, .int 0])), (hm, .inr (1, [.null, .int 0, .int 0, .int 0]))] H := hP
  have hD : va_D A [(ha, .inr (0, [.null, .null, .null, .null, .int 0, .int 0, .int 0, .int 0, .int 0])), (hm, .inr (1, [.null, .int 0, .int 0, .int 0]))] := hD
  refine lv_dup hx hb d_A_init_8 rfl ?_
  obtain ⟨mc1, mw1, mf1, mz1, hg, hf⟩ := bd4_some hf
  refine xnv (wr := [(ha, .inr (0, [.null, .null, .null, .null, .int 0, .int 0, .int 0, .int 0, .int 0]))]) (ctM_init l dC dI cI hm mc1 mw1 mf1 mz1 hg) ⟨hx, hb, hml, hown, hts⟩ (cwI 0 hts (gC wq62) rfl rfl rfl (hts _ (List.mem_cons_of_mem _ wq44)) (hts _ (List.mem_cons_of_mem _ wq60)) (hts _ (List.mem_cons_of_mem _ wq61)) rfl (by decide +kernel) ⟨Nat.le_of_ble_eq_true rfl, Nat.le_of_ble_eq_true rfl⟩) hK hP hD hS hA [1] [0] rfl rfl rfl rfl (by decide) rfl hl.1 rfl (Nat.le_of_ble_eq_true rfl) d_A_init_9 ⟨Nat.le_of_ble_eq_true rfl, Nat.le_of_ble_eq_true rfl⟩ (fun u H locs hP hD hS => ?_)
  obtain ⟨qc, rfl⟩ : ∃ z, z = u := ⟨_, rfl⟩
  have hP : va_P (dC, dI) vwCl [(ha, .inr (0, [.null, .null, .null, .null, .int 0, .int 0, .int 0, .int 0, .int 0])), (hm, .inr (1, [.ref qc, .int mw1, .int mf1, .int mz1])), (qc, .inl (cI, 149, .inl mc1))] H := hP
  have hD : va_D A [(ha, .inr (0, [.null, .null, .null, .null, .int 0, .int 0, .int 0, .int 0, .int 0])), (hm, .inr (1, [.ref qc, .int mw1, .int mf1, .int mz1])), (qc, .inl (cI, 149, .inl mc1))] := hD
  refine va_putF (D := (dC, dI)) (ci := 0) (v := .ref hm) (ty := .object "AppletFirewall$Memory") (C := R_A) (T := F_A) (N := 9) hx hb hts inA t_A t_A_ok n_A hown hK hP hD hS 0 rfl rfl 0 (by decide) kf10 (fun _ h9 => h9) rfl hin rfl (by decide +kernel) rfl rfl (Nat.le_of_ble_eq_true rfl) d_A_init_12 (fun H locs hP hD hS => ?_)
  have hP : va_P (dC, dI) vwCl [(ha, .inr (0, [.ref hm, .null, .null, .null, .int 0, .int 0, .int 0, .int 0, .int 0])), (hm, .inr (1, [.ref qc, .int mw1, .int mf1, .int mz1])), (qc, .inl (cI, 149, .inl mc1))] H := hP
  have hD : va_D A [(ha, .inr (0, [.ref hm, .null, .null, .null, .int 0, .int 0, .int 0, .int 0, .int 0])), (hm, .inr (1, [.ref qc, .int mw1, .int mf1, .int mz1])), (qc, .inl (cI, 149, .inl mc1))] := hD
  refine lv_aload_n hx hb d_A_init_15 rfl (lv_at hl 0 rfl) ?_
  refine va_new (ci := 2) (fs := [.null, .int 0]) (C := R_I) (T := F_I) (N := 2) hx hb hts inI t_I t_I_ok hown kk16 knI0 kiI0 hK hP hD hS hA rfl (fun j hj => by rcases (show j = 0 ∨ j = 1 by omega) with rfl | rfl <;> rfl) (Nat.le_of_ble_eq_true rfl) (Nat.le_of_ble_eq_true rfl) d_A_init_16 (fun hi H hP hD hS => ?_)
  have hP : va_P (dC, dI) vwCl [(ha, .inr (0, [.ref hm, .null, .null, .null, .int 0, .int 0, .int 0, .int 0, .int 0])), (hm, .inr (1, [.ref qc, .int mw1, .int mf1, .int mz1])), (qc, .inl (cI, 149, .inl mc1)), (hi, .inr (2, [.null, .int 0]))] H := hP
  have hD : va_D A [(ha, .inr (0, [.ref hm, .null, .null, .null, .int 0, .int 0, .int 0, .int 0, .int 0])), (hm, .inr (1, [.ref qc, .int mw1, .int mf1, .int mz1])), (qc, .inl (cI, 149, .inl mc1)), (hi, .inr (2, [.null, .int 0]))] := hD
  refine lv_dup hx hb d_A_init_19 rfl ?_
  obtain ⟨ib2, ic2, hg, hf⟩ := bd2_some hf
  refine xnv (wr := [(ha, .inr (0, [.ref hm, .null, .null, .null, .int 0, .int 0, .int 0, .int 0, .int 0])), (hm, .inr (1, [.ref qc, .int mw1, .int mf1, .int mz1])), (qc, .inl (cI, 149, .inl mc1))]) (ctI_init l dC dI cI hi ib2 ic2 hg) ⟨hx, hb, hml, hown, hts⟩ (cwI 0 hts (gC wq82) rfl rfl rfl (hts _ (List.mem_cons_of_mem _ wq45)) (hts _ (List.mem_cons_of_mem _ wq80)) (hts _ (List.mem_cons_of_mem _ wq81)) rfl (by decide +kernel) ⟨Nat.le_of_ble_eq_true rfl, Nat.le_of_ble_eq_true rfl⟩) hK hP hD hS hA [3] [0, 1, 2] rfl rfl rfl rfl (by decide) rfl hl.1 rfl (Nat.le_of_ble_eq_true rfl) d_A_init_20 ⟨Nat.le_of_ble_eq_true rfl, Nat.le_of_ble_eq_true rfl⟩ (fun u H locs hP hD hS => ?_)
  obtain ⟨qb, rfl⟩ : ∃ z, z = u := ⟨_, rfl⟩
  have hP : va_P (dC, dI) vwCl [(ha, .inr (0, [.ref hm, .null, .null, .null, .int 0, .int 0, .int 0, .int 0, .int 0])), (hm, .inr (1, [.ref qc, .int mw1, .int mf1, .int mz1])), (qc, .inl (cI, 149, .inl mc1)), (hi, .inr (2, [.ref qb, .int ic2])), (qb, .inl (cI, 24, .inl ib2))] H := hP
  have hD : va_D A [(ha, .inr (0, [.ref hm, .null, .null, .null, .int 0, .int 0, .int 0, .int 0, .int 0])), (hm, .inr (1, [.ref qc, .int mw1, .int mf1, .int mz1])), (qc, .inl (cI, 149, .inl mc1)), (hi, .inr (2, [.ref qb, .int ic2])), (qb, .inl (cI, 24, .inl ib2))] := hD
  refine va_putF (D := (dC, dI)) (ci := 0) (v := .ref hi) (ty := .object "AppletFirewall$Input") (C := R_A) (T := F_A) (N := 9) hx hb hts inA t_A t_A_ok n_A hown hK hP hD hS 0 rfl rfl 1 (by decide) kf19 (fun _ h9 => h9) rfl hin rfl (by decide +kernel) rfl rfl (Nat.le_of_ble_eq_true rfl) d_A_init_23 (fun H locs hP hD hS => ?_)
  have hP : va_P (dC, dI) vwCl [(ha, .inr (0, [.ref hm, .ref hi, .null, .null, .int 0, .int 0, .int 0, .int 0, .int 0])), (hm, .inr (1, [.ref qc, .int mw1, .int mf1, .int mz1])), (qc, .inl (cI, 149, .inl mc1)), (hi, .inr (2, [.ref qb, .int ic2])), (qb, .inl (cI, 24, .inl ib2))] H := hP
  have hD : va_D A [(ha, .inr (0, [.ref hm, .ref hi, .null, .null, .int 0, .int 0, .int 0, .int 0, .int 0])), (hm, .inr (1, [.ref qc, .int mw1, .int mf1, .int mz1])), (qc, .inl (cI, 149, .inl mc1)), (hi, .inr (2, [.ref qb, .int ic2])), (qb, .inl (cI, 24, .inl ib2))] := hD
  refine lv_aload_n hx hb d_A_init_26 rfl (lv_at hl 0 rfl) ?_
  refine lv_bipush (v := 16) hx hb d_A_init_27 (by decide) ?_
  refine xnewa (N := 16) hx hb ka0 hK hP hD hS hA (by decide) (by decide) (by decide) (Nat.le_of_ble_eq_true rfl) (Nat.le_of_ble_eq_true rfl) d_A_init_29 (fun qa H hP hD hS => ?_)
  have hP : va_P (dC, dI) vwCl [(ha, .inr (0, [.ref hm, .ref hi, .null, .null, .int 0, .int 0, .int 0, .int 0, .int 0])), (hm, .inr (1, [.ref qc, .int mw1, .int mf1, .int mz1])), (qc, .inl (cI, 149, .inl mc1)), (hi, .inr (2, [.ref qb, .int ic2])), (qb, .inl (cI, 24, .inl ib2)), (qa, .inl (cI, 16, .inl (fun _ => 0)))] H := hP
  have hD : va_D A [(ha, .inr (0, [.ref hm, .ref hi, .null, .null, .int 0, .int 0, .int 0, .int 0, .int 0])), (hm, .inr (1, [.ref qc, .int mw1, .int mf1, .int mz1])), (qc, .inl (cI, 149, .inl mc1)), (hi, .inr (2, [.ref qb, .int ic2])), (qb, .inl (cI, 24, .inl ib2)), (qa, .inl (cI, 16, .inl (fun _ => 0)))] := hD
  refine va_putF (D := (dC, dI)) (ci := 0) (v := .ref qa) (ty := .array .int) (C := R_A) (T := F_A) (N := 9) hx hb hts inA t_A t_A_ok n_A hown hK hP hD hS 0 rfl rfl 2 (by decide) kf23 (fun _ h9 => h9) rfl hin rfl (by decide +kernel) rfl rfl (Nat.le_of_ble_eq_true rfl) d_A_init_31 (fun H locs hP hD hS => ?_)
  have hP : va_P (dC, dI) vwCl [(ha, .inr (0, [.ref hm, .ref hi, .ref qa, .null, .int 0, .int 0, .int 0, .int 0, .int 0])), (hm, .inr (1, [.ref qc, .int mw1, .int mf1, .int mz1])), (qc, .inl (cI, 149, .inl mc1)), (hi, .inr (2, [.ref qb, .int ic2])), (qb, .inl (cI, 24, .inl ib2)), (qa, .inl (cI, 16, .inl (fun _ => 0)))] H := hP
  have hD : va_D A [(ha, .inr (0, [.ref hm, .ref hi, .ref qa, .null, .int 0, .int 0, .int 0, .int 0, .int 0])), (hm, .inr (1, [.ref qc, .int mw1, .int mf1, .int mz1])), (qc, .inl (cI, 149, .inl mc1)), (hi, .inr (2, [.ref qb, .int ic2])), (qb, .inl (cI, 24, .inl ib2)), (qa, .inl (cI, 16, .inl (fun _ => 0)))] := hD
  refine lv_aload_n hx hb d_A_init_34 rfl (lv_at hl 0 rfl) ?_
  refine lv_iconst (v := 4) hx hb d_A_init_35 (by decide) ?_
  refine xnewa (N := 4) hx hb ka0 hK hP hD hS hA (by decide) (by decide) (by decide) (Nat.le_of_ble_eq_true rfl) (Nat.le_of_ble_eq_true rfl) d_A_init_36 (fun qg H hP hD hS => ?_)
  have hP : va_P (dC, dI) vwCl [(ha, .inr (0, [.ref hm, .ref hi, .ref qa, .null, .int 0, .int 0, .int 0, .int 0, .int 0])), (hm, .inr (1, [.ref qc, .int mw1, .int mf1, .int mz1])), (qc, .inl (cI, 149, .inl mc1)), (hi, .inr (2, [.ref qb, .int ic2])), (qb, .inl (cI, 24, .inl ib2)), (qa, .inl (cI, 16, .inl (fun _ => 0))), (qg, .inl (cI, 4, .inl (fun _ => 0)))] H := hP
  have hD : va_D A [(ha, .inr (0, [.ref hm, .ref hi, .ref qa, .null, .int 0, .int 0, .int 0, .int 0, .int 0])), (hm, .inr (1, [.ref qc, .int mw1, .int mf1, .int mz1])), (qc, .inl (cI, 149, .inl mc1)), (hi, .inr (2, [.ref qb, .int ic2])), (qb, .inl (cI, 24, .inl ib2)), (qa, .inl (cI, 16, .inl (fun _ => 0))), (qg, .inl (cI, 4, .inl (fun _ => 0)))] := hD
  refine va_putF (D := (dC, dI)) (ci := 0) (v := .ref qg) (ty := .array .int) (C := R_A) (T := F_A) (N := 9) hx hb hts inA t_A t_A_ok n_A hown hK hP hD hS 0 rfl rfl 3 (by decide) kf27 (fun _ h9 => h9) rfl hin rfl (by decide +kernel) rfl rfl (Nat.le_of_ble_eq_true rfl) d_A_init_38 (fun H locs hP hD hS => ?_)
  have hP : va_P (dC, dI) vwCl [(ha, .inr (0, [.ref hm, .ref hi, .ref qa, .ref qg, .int 0, .int 0, .int 0, .int 0, .int 0])), (hm, .inr (1, [.ref qc, .int mw1, .int mf1, .int mz1])), (qc, .inl (cI, 149, .inl mc1)), (hi, .inr (2, [.ref qb, .int ic2])), (qb, .inl (cI, 24, .inl ib2)), (qa, .inl (cI, 16, .inl (fun _ => 0))), (qg, .inl (cI, 4, .inl (fun _ => 0)))] H := hP
  have hD : va_D A [(ha, .inr (0, [.ref hm, .ref hi, .ref qa, .ref qg, .int 0, .int 0, .int 0, .int 0, .int 0])), (hm, .inr (1, [.ref qc, .int mw1, .int mf1, .int mz1])), (qc, .inl (cI, 149, .inl mc1)), (hi, .inr (2, [.ref qb, .int ic2])), (qb, .inl (cI, 24, .inl ib2)), (qa, .inl (cI, 16, .inl (fun _ => 0))), (qg, .inl (cI, 4, .inl (fun _ => 0)))] := hD
  refine lv_aload_n hx hb d_A_init_41 rfl (lv_at hl 0 rfl) ?_
  refine lv_bipush (v := (-2)) hx hb d_A_init_42 (by decide) ?_
  refine va_put (D := (dC, dI)) (ci := 0) (v := .int (-2)) (ty := .int) (C := R_A) (T := F_A) (N := 9) hx hb hts inA t_A t_A_ok n_A hown hK hP hD hS 0 rfl rfl 6 (by decide) kf30 (fun _ h9 => h9) rfl (by decide +kernel) rfl rfl (Nat.le_of_ble_eq_true rfl) d_A_init_44 (fun H locs hP hD hS => ?_)
  have hP : va_P (dC, dI) vwCl [(ha, .inr (0, [.ref hm, .ref hi, .ref qa, .ref qg, .int 0, .int 0, .int (-2), .int 0, .int 0])), (hm, .inr (1, [.ref qc, .int mw1, .int mf1, .int mz1])), (qc, .inl (cI, 149, .inl mc1)), (hi, .inr (2, [.ref qb, .int ic2])), (qb, .inl (cI, 24, .inl ib2)), (qa, .inl (cI, 16, .inl (fun _ => 0))), (qg, .inl (cI, 4, .inl (fun _ => 0)))] H := hP
  have hD : va_D A [(ha, .inr (0, [.ref hm, .ref hi, .ref qa, .ref qg, .int 0, .int 0, .int (-2), .int 0, .int 0])), (hm, .inr (1, [.ref qc, .int mw1, .int mf1, .int mz1])), (qc, .inl (cI, 149, .inl mc1)), (hi, .inr (2, [.ref qb, .int ic2])), (qb, .inl (cI, 24, .inl ib2)), (qa, .inl (cI, 16, .inl (fun _ => 0))), (qg, .inl (cI, 4, .inl (fun _ => 0)))] := hD
  refine lv_aload_n hx hb d_A_init_47 rfl (lv_at hl 0 rfl) ?_
  refine lv_iconst (v := 1) hx hb d_A_init_48 (by decide) ?_
  refine va_put (D := (dC, dI)) (ci := 0) (v := .int 1) (ty := .boolean) (C := R_A) (T := F_A) (N := 9) hx hb hts inA t_A t_A_ok n_A hown hK hP hD hS 0 rfl rfl 5 (by decide) kf34 (fun _ h9 => h9) rfl (by decide +kernel) rfl rfl (Nat.le_of_ble_eq_true rfl) d_A_init_49 (fun H locs hP hD hS => ?_)
  have hP : va_P (dC, dI) vwCl [(ha, .inr (0, [.ref hm, .ref hi, .ref qa, .ref qg, .int 0, .int 1, .int (-2), .int 0, .int 0])), (hm, .inr (1, [.ref qc, .int mw1, .int mf1, .int mz1])), (qc, .inl (cI, 149, .inl mc1)), (hi, .inr (2, [.ref qb, .int ic2])), (qb, .inl (cI, 24, .inl ib2)), (qa, .inl (cI, 16, .inl (fun _ => 0))), (qg, .inl (cI, 4, .inl (fun _ => 0)))] H := hP
  have hD : va_D A [(ha, .inr (0, [.ref hm, .ref hi, .ref qa, .ref qg, .int 0, .int 1, .int (-2), .int 0, .int 0])), (hm, .inr (1, [.ref qc, .int mw1, .int mf1, .int mz1])), (qc, .inl (cI, 149, .inl mc1)), (hi, .inr (2, [.ref qb, .int ic2])), (qb, .inl (cI, 24, .inl ib2)), (qa, .inl (cI, 16, .inl (fun _ => 0))), (qg, .inl (cI, 4, .inl (fun _ => 0)))] := hD
  obtain ⟨e1_, e2_, e3_, e4_, e5_, e6_, e7_, e8_, e9_, e10_, e11_, e12_, e13_⟩ := lf13 hf
  subst e1_; subst e2_; subst e3_; subst e4_; subst e5_; subst e6_; subst e7_; subst e8_; subst e9_; subst e10_; subst e11_; subst e12_; subst e13_
  have hP9 := hP.sub (ws' := [(ha, .inr (0, [.ref hm, .ref hi, .ref qa, .ref qg, .int 0, .int 1, .int (-2), .int 0, .int 0])), (hm, .inr (1, [.ref qc, .int mw1, .int mf1, .int mz1])), (qc, .inl (cI, 149, .inl mc1)), (hi, .inr (2, [.ref qb, .int ic2])), (qb, .inl (cI, 24, .inl ib2)), (qa, .inl (cI, 16, .inl (fun _ => 0))), (qg, .inl (cI, 4, .inl (fun _ => 0)))]) [0, 1, 2, 3, 4, 5, 6] rfl
  have hD9 := hD.sub (ws' := [(ha, .inr (0, [.ref hm, .ref hi, .ref qa, .ref qg, .int 0, .int 1, .int (-2), .int 0, .int 0])), (hm, .inr (1, [.ref qc, .int mw1, .int mf1, .int mz1])), (qc, .inl (cI, 149, .inl mc1)), (hi, .inr (2, [.ref qb, .int ic2])), (qb, .inl (cI, 24, .inl ib2)), (qa, .inl (cI, 16, .inl (fun _ => 0))), (qg, .inl (cI, 4, .inl (fun _ => 0)))]) [0, 1, 2, 3, 4, 5, 6] (by decide) rfl
  refine W.widen (k := 6) (n := 199) (Nat.le_of_ble_eq_true rfl) (Nat.le_of_ble_eq_true rfl) ?_
  exact W.vret hx hb hr (fun t ht hW => ⟨⟨(hm, qc, hi, qb, qa, qg), rfl, trivial, by rw [ht]; exact hP9, va_K.moved hW.alike hK, hD9⟩, hS.F ht⟩) hS.2.2 d_A_init_52
theorem d_A_doneIf_0 : decode b_A_doneIf 0 = .ok (.iload_n 0, 1) := by decide +kernel
theorem d_A_doneIf_1 : decode b_A_doneIf 1 = .ok (.ifCond .eq 8, 3) := by decide +kernel
theorem d_A_doneIf_4 : decode b_A_doneIf 4 = .ok (.ldc 59, 2) := by decide +kernel
theorem d_A_doneIf_6 : decode b_A_doneIf 6 = .ok (.goto 4, 3) := by decide +kernel
theorem d_A_doneIf_9 : decode b_A_doneIf 9 = .ok (.iconst (-1), 1) := by decide +kernel
theorem d_A_doneIf_10 : decode b_A_doneIf 10 = .ok (.ireturn, 1) := by decide +kernel
def fA_doneIf (a1 : Int32) : Option (Int32) := if a1 = 0 then (some (-1)) else (some 36864)
set_option maxHeartbeats 4000000 in
set_option maxRecDepth 100000 in
theorem ctA_doneIf (l : Launch) (dC : Nat → ClassId) (dI : Nat → Nat → Nat) (cI : ClassId) (a1 : Int32) (r : Int32) (hf : fA_doneIf a1 = some r) : CtI l y_A_doneIf w_A_doneIf ({ frames := 0, cells := 0, slots := 0, locals := 0 }) (dC, dI) [(cI, .int)] [.int a1] [] [] r := by
  intro sz
  refine Met.ofW (cc := b_A_doneIf) (maxL := 1) (ret := some .int) (by decide) rfl ?_
  intro p e s m args below meth c s₁ B hml hv
  obtain ⟨rfl, hsz, hP, hK, hD0⟩ := hv
  have hx := B.exec
  have hb := B.bytes
  have hr := B.returns
  have hts := atoms_spec (ws := w_A_doneIf) B.pre
  have hown : s.vm.findClass R_A = some m.cls := findClass_of_methodNamed B.named
  have hlocks := B.notSynchronized
  subst hsz
  have hD := hD0.self (sz := s.heap.size)
  generalize hAe : va_A [] s.heap.size = A at hD ⊢
  have hA : ∀ q : Nat, s.heap.size ≤ q → A q := fun q h => by rw [← hAe]; exact Or.inr h
  have hS : va_S A s.heap s.heap [] := va_S.rf
  have hP : va_P (dC, dI) vwCl [] s.heap := hP
  have hl := lv_entry ([.int a1]) (n := 1) (Nat.le_of_ble_eq_true rfl)
  rw [lg_entry_eq]
  generalize (lg_sl ([.int a1]) ++ List.replicate (1 - (lg_sl ([.int a1])).length) Slot.unset).toArray = ls at hl ⊢
  have hl : lv_has ls 1 [(0, .int a1)] := hl
  have kc59 := hts _ (List.mem_cons_of_mem _ wq182)
  rw [fA_doneIf] at hf
  refine lv_iload_n hx hb d_A_doneIf_0 rfl (lv_at hl 0 rfl) ?_
  refine lv_if_eq (tgt := 9) hx hb d_A_doneIf_1 rfl (fun hc1 => ?_) (fun hc1 => ?_)
  · have hf := ift hf hc1
    refine lv_iconst (v := (-1)) hx hb d_A_doneIf_9 (by decide) ?_
    have e1_ := lf1 hf
    subst e1_
    have hP9 := hP.sub (ws' := []) [] rfl
    have hD9 := hD.sub (ws' := []) [] (by decide) rfl
    exact W.iret (v := (-1)) hx hb hr (fun t ht hW => ⟨⟨(-1), (), rfl, rfl, by rw [ht]; exact hP9, va_K.moved hW.alike hK, hD9⟩, hS.F ht⟩) hS.2.2 d_A_doneIf_10
  have hf := ifn hf hc1
  refine lv_ldc (v := 36864) hx hb hown kc59 d_A_doneIf_4 ?_
  refine lv_goto (tgt := 10) hx hb d_A_doneIf_6 rfl ?_
  have e1_ := lf1 hf
  subst e1_
  have hP9 := hP.sub (ws' := []) [] rfl
  have hD9 := hD.sub (ws' := []) [] (by decide) rfl
  exact W.iret (v := 36864) hx hb hr (fun t ht hW => ⟨⟨36864, (), rfl, rfl, by rw [ht]; exact hP9, va_K.moved hW.alike hK, hD9⟩, hS.F ht⟩) hS.2.2 d_A_doneIf_10
theorem d_A_isApplet_0 : decode b_A_isApplet 0 = .ok (.iload_n 0, 1) := by decide +kernel
theorem d_A_isApplet_1 : decode b_A_isApplet 1 = .ok (.ifCond .lt 12, 3) := by decide +kernel
theorem d_A_isApplet_4 : decode b_A_isApplet 4 = .ok (.iload_n 0, 1) := by decide +kernel
theorem d_A_isApplet_5 : decode b_A_isApplet 5 = .ok (.iconst 4, 1) := by decide +kernel
theorem d_A_isApplet_6 : decode b_A_isApplet 6 = .ok (.if_icmp .ge 7, 3) := by decide +kernel
theorem d_A_isApplet_9 : decode b_A_isApplet 9 = .ok (.iconst 1, 1) := by decide +kernel
theorem d_A_isApplet_10 : decode b_A_isApplet 10 = .ok (.goto 4, 3) := by decide +kernel
theorem d_A_isApplet_13 : decode b_A_isApplet 13 = .ok (.iconst 0, 1) := by decide +kernel
theorem d_A_isApplet_14 : decode b_A_isApplet 14 = .ok (.ireturn, 1) := by decide +kernel
def fA_isApplet (a1 : Int32) : Option (Int32) := if a1 < 0 then (some 0) else (if 4 ≤ a1 then (some 0) else (some 1))
set_option maxHeartbeats 4000000 in
set_option maxRecDepth 100000 in
theorem ctA_isApplet (l : Launch) (dC : Nat → ClassId) (dI : Nat → Nat → Nat) (cI : ClassId) (a1 : Int32) (r : Int32) (hf : fA_isApplet a1 = some r) : CtZ l y_A_isApplet w_A_isApplet ({ frames := 0, cells := 0, slots := 0, locals := 0 }) (dC, dI) [(cI, .int)] [.int a1] [] [] r := by
  intro sz
  refine Met.ofW (cc := b_A_isApplet) (maxL := 1) (ret := some .boolean) (by decide) rfl ?_
  intro p e s m args below meth c s₁ B hml hv
  obtain ⟨rfl, hsz, hP, hK, hD0⟩ := hv
  have hx := B.exec
  have hb := B.bytes
  have hr := B.returns
  have hts := atoms_spec (ws := w_A_isApplet) B.pre
  have hown : s.vm.findClass R_A = some m.cls := findClass_of_methodNamed B.named
  have hlocks := B.notSynchronized
  subst hsz
  have hD := hD0.self (sz := s.heap.size)
  generalize hAe : va_A [] s.heap.size = A at hD ⊢
  have hA : ∀ q : Nat, s.heap.size ≤ q → A q := fun q h => by rw [← hAe]; exact Or.inr h
  have hS : va_S A s.heap s.heap [] := va_S.rf
  have hP : va_P (dC, dI) vwCl [] s.heap := hP
  have hl := lv_entry ([.int a1]) (n := 1) (Nat.le_of_ble_eq_true rfl)
  rw [lg_entry_eq]
  generalize (lg_sl ([.int a1]) ++ List.replicate (1 - (lg_sl ([.int a1])).length) Slot.unset).toArray = ls at hl ⊢
  have hl : lv_has ls 1 [(0, .int a1)] := hl
  rw [fA_isApplet] at hf
  refine lv_iload_n hx hb d_A_isApplet_0 rfl (lv_at hl 0 rfl) ?_
  refine lv_if_lt (tgt := 13) hx hb d_A_isApplet_1 rfl (fun hc1 => ?_) (fun hc1 => ?_)
  · have hf := ift hf hc1
    refine lv_iconst (v := 0) hx hb d_A_isApplet_13 (by decide) ?_
    have e1_ := lf1 hf
    subst e1_
    have hP9 := hP.sub (ws' := []) [] rfl
    have hD9 := hD.sub (ws' := []) [] (by decide) rfl
    exact W.zret (v := 0) (ty := .boolean) hx hb hr rfl (fun t ht hW => ⟨⟨0, (), rfl, ⟨rfl, rfl⟩, by rw [ht]; exact hP9, va_K.moved hW.alike hK, hD9⟩, hS.F ht⟩) hS.2.2 d_A_isApplet_14
  have hf := ifn hf hc1
  refine lv_iload_n hx hb d_A_isApplet_4 rfl (lv_at hl 0 rfl) ?_
  refine lv_iconst (v := 4) hx hb d_A_isApplet_5 (by decide) ?_
  refine lv_icmp_ge (tgt := 13) hx hb d_A_isApplet_6 rfl (fun hc2 => ?_) (fun hc2 => ?_)
  · have hf := ift hf hc2
    refine lv_iconst (v := 0) hx hb d_A_isApplet_13 (by decide) ?_
    have e1_ := lf1 hf
    subst e1_
    have hP9 := hP.sub (ws' := []) [] rfl
    have hD9 := hD.sub (ws' := []) [] (by decide) rfl
    exact W.zret (v := 0) (ty := .boolean) hx hb hr rfl (fun t ht hW => ⟨⟨0, (), rfl, ⟨rfl, rfl⟩, by rw [ht]; exact hP9, va_K.moved hW.alike hK, hD9⟩, hS.F ht⟩) hS.2.2 d_A_isApplet_14
  have hf := ifn hf hc2
  refine lv_iconst (v := 1) hx hb d_A_isApplet_9 (by decide) ?_
  refine lv_goto (tgt := 14) hx hb d_A_isApplet_10 rfl ?_
  have e1_ := lf1 hf
  subst e1_
  have hP9 := hP.sub (ws' := []) [] rfl
  have hD9 := hD.sub (ws' := []) [] (by decide) rfl
  exact W.zret (v := 1) (ty := .boolean) hx hb hr rfl (fun t ht hW => ⟨⟨1, (), rfl, ⟨rfl, rfl⟩, by rw [ht]; exact hP9, va_K.moved hW.alike hK, hD9⟩, hS.F ht⟩) hS.2.2 d_A_isApplet_14
theorem d_A_dataPlace_0 : decode b_A_dataPlace 0 = .ok (.iconst 0, 1) := by decide +kernel
theorem d_A_dataPlace_1 : decode b_A_dataPlace 1 = .ok (.bipush 16, 2) := by decide +kernel
theorem d_A_dataPlace_3 : decode b_A_dataPlace 3 = .ok (.iload_n 0, 1) := by decide +kernel
theorem d_A_dataPlace_4 : decode b_A_dataPlace 4 = .ok (.imul, 1) := by decide +kernel
theorem d_A_dataPlace_5 : decode b_A_dataPlace 5 = .ok (.iadd, 1) := by decide +kernel
theorem d_A_dataPlace_6 : decode b_A_dataPlace 6 = .ok (.iload_n 1, 1) := by decide +kernel
theorem d_A_dataPlace_7 : decode b_A_dataPlace 7 = .ok (.iadd, 1) := by decide +kernel
theorem d_A_dataPlace_8 : decode b_A_dataPlace 8 = .ok (.ireturn, 1) := by decide +kernel
def fA_dataPlace (a1 : Int32) (a2 : Int32) : Option (Int32) := some ((0 + (16 * a1)) + a2)
set_option maxHeartbeats 4000000 in
set_option maxRecDepth 100000 in
theorem ctA_dataPlace (l : Launch) (dC : Nat → ClassId) (dI : Nat → Nat → Nat) (cI : ClassId) (a1 : Int32) (a2 : Int32) (r : Int32) (hf : fA_dataPlace a1 a2 = some r) : CtI l y_A_dataPlace w_A_dataPlace ({ frames := 0, cells := 0, slots := 0, locals := 0 }) (dC, dI) [(cI, .int)] [.int a1, .int a2] [] [] r := by
  intro sz
  refine Met.ofW (cc := b_A_dataPlace) (maxL := 2) (ret := some .int) (by decide) rfl ?_
  intro p e s m args below meth c s₁ B hml hv
  obtain ⟨rfl, hsz, hP, hK, hD0⟩ := hv
  have hx := B.exec
  have hb := B.bytes
  have hr := B.returns
  have hts := atoms_spec (ws := w_A_dataPlace) B.pre
  have hown : s.vm.findClass R_A = some m.cls := findClass_of_methodNamed B.named
  have hlocks := B.notSynchronized
  subst hsz
  have hD := hD0.self (sz := s.heap.size)
  generalize hAe : va_A [] s.heap.size = A at hD ⊢
  have hA : ∀ q : Nat, s.heap.size ≤ q → A q := fun q h => by rw [← hAe]; exact Or.inr h
  have hS : va_S A s.heap s.heap [] := va_S.rf
  have hP : va_P (dC, dI) vwCl [] s.heap := hP
  have hl := lv_entry ([.int a1, .int a2]) (n := 2) (Nat.le_of_ble_eq_true rfl)
  rw [lg_entry_eq]
  generalize (lg_sl ([.int a1, .int a2]) ++ List.replicate (2 - (lg_sl ([.int a1, .int a2])).length) Slot.unset).toArray = ls at hl ⊢
  have hl : lv_has ls 2 [(0, .int a1), (1, .int a2)] := hl
  rw [fA_dataPlace] at hf
  refine lv_iconst (v := 0) hx hb d_A_dataPlace_0 (by decide) ?_
  refine lv_bipush (v := 16) hx hb d_A_dataPlace_1 (by decide) ?_
  refine lv_iload_n hx hb d_A_dataPlace_3 rfl (lv_at hl 0 rfl) ?_
  refine lv_imul hx hb d_A_dataPlace_4 ?_
  refine lv_iadd hx hb d_A_dataPlace_5 ?_
  refine lv_iload_n hx hb d_A_dataPlace_6 rfl (lv_at hl 1 rfl) ?_
  refine lv_iadd hx hb d_A_dataPlace_7 ?_
  have e1_ := lf1 hf
  subst e1_
  have hP9 := hP.sub (ws' := []) [] rfl
  have hD9 := hD.sub (ws' := []) [] (by decide) rfl
  exact W.iret (v := (0 + (16 * a1)) + a2) hx hb hr (fun t ht hW => ⟨⟨(0 + (16 * a1)) + a2, (), rfl, rfl, by rw [ht]; exact hP9, va_K.moved hW.alike hK, hD9⟩, hS.F ht⟩) hS.2.2 d_A_dataPlace_8
theorem d_A_secretPlace_0 : decode b_A_secretPlace 0 = .ok (.bipush 64, 2) := by decide +kernel
theorem d_A_secretPlace_2 : decode b_A_secretPlace 2 = .ok (.iconst 2, 1) := by decide +kernel
theorem d_A_secretPlace_3 : decode b_A_secretPlace 3 = .ok (.iload_n 0, 1) := by decide +kernel
theorem d_A_secretPlace_4 : decode b_A_secretPlace 4 = .ok (.imul, 1) := by decide +kernel
theorem d_A_secretPlace_5 : decode b_A_secretPlace 5 = .ok (.iadd, 1) := by decide +kernel
theorem d_A_secretPlace_6 : decode b_A_secretPlace 6 = .ok (.ireturn, 1) := by decide +kernel
def fA_secretPlace (a1 : Int32) : Option (Int32) := some (64 + (2 * a1))
set_option maxHeartbeats 4000000 in
set_option maxRecDepth 100000 in
theorem ctA_secretPlace (l : Launch) (dC : Nat → ClassId) (dI : Nat → Nat → Nat) (cI : ClassId) (a1 : Int32) (r : Int32) (hf : fA_secretPlace a1 = some r) : CtI l y_A_secretPlace w_A_secretPlace ({ frames := 0, cells := 0, slots := 0, locals := 0 }) (dC, dI) [(cI, .int)] [.int a1] [] [] r := by
  intro sz
  refine Met.ofW (cc := b_A_secretPlace) (maxL := 1) (ret := some .int) (by decide) rfl ?_
  intro p e s m args below meth c s₁ B hml hv
  obtain ⟨rfl, hsz, hP, hK, hD0⟩ := hv
  have hx := B.exec
  have hb := B.bytes
  have hr := B.returns
  have hts := atoms_spec (ws := w_A_secretPlace) B.pre
  have hown : s.vm.findClass R_A = some m.cls := findClass_of_methodNamed B.named
  have hlocks := B.notSynchronized
  subst hsz
  have hD := hD0.self (sz := s.heap.size)
  generalize hAe : va_A [] s.heap.size = A at hD ⊢
  have hA : ∀ q : Nat, s.heap.size ≤ q → A q := fun q h => by rw [← hAe]; exact Or.inr h
  have hS : va_S A s.heap s.heap [] := va_S.rf
  have hP : va_P (dC, dI) vwCl [] s.heap := hP
  have hl := lv_entry ([.int a1]) (n := 1) (Nat.le_of_ble_eq_true rfl)
  rw [lg_entry_eq]
  generalize (lg_sl ([.int a1]) ++ List.replicate (1 - (lg_sl ([.int a1])).length) Slot.unset).toArray = ls at hl ⊢
  have hl : lv_has ls 1 [(0, .int a1)] := hl
  rw [fA_secretPlace] at hf
  refine lv_bipush (v := 64) hx hb d_A_secretPlace_0 (by decide) ?_
  refine lv_iconst (v := 2) hx hb d_A_secretPlace_2 (by decide) ?_
  refine lv_iload_n hx hb d_A_secretPlace_3 rfl (lv_at hl 0 rfl) ?_
  refine lv_imul hx hb d_A_secretPlace_4 ?_
  refine lv_iadd hx hb d_A_secretPlace_5 ?_
  have e1_ := lf1 hf
  subst e1_
  have hP9 := hP.sub (ws' := []) [] rfl
  have hD9 := hD.sub (ws' := []) [] (by decide) rfl
  exact W.iret (v := 64 + (2 * a1)) hx hb hr (fun t ht hW => ⟨⟨64 + (2 * a1), (), rfl, rfl, by rw [ht]; exact hP9, va_K.moved hW.alike hK, hD9⟩, hS.F ht⟩) hS.2.2 d_A_secretPlace_6
theorem d_A_triesPlace_0 : decode b_A_triesPlace 0 = .ok (.bipush 72, 2) := by decide +kernel
theorem d_A_triesPlace_2 : decode b_A_triesPlace 2 = .ok (.iload_n 0, 1) := by decide +kernel
theorem d_A_triesPlace_3 : decode b_A_triesPlace 3 = .ok (.iadd, 1) := by decide +kernel
theorem d_A_triesPlace_4 : decode b_A_triesPlace 4 = .ok (.ireturn, 1) := by decide +kernel
def fA_triesPlace (a1 : Int32) : Option (Int32) := some (72 + a1)
set_option maxHeartbeats 4000000 in
set_option maxRecDepth 100000 in
theorem ctA_triesPlace (l : Launch) (dC : Nat → ClassId) (dI : Nat → Nat → Nat) (cI : ClassId) (a1 : Int32) (r : Int32) (hf : fA_triesPlace a1 = some r) : CtI l y_A_triesPlace w_A_triesPlace ({ frames := 0, cells := 0, slots := 0, locals := 0 }) (dC, dI) [(cI, .int)] [.int a1] [] [] r := by
  intro sz
  refine Met.ofW (cc := b_A_triesPlace) (maxL := 1) (ret := some .int) (by decide) rfl ?_
  intro p e s m args below meth c s₁ B hml hv
  obtain ⟨rfl, hsz, hP, hK, hD0⟩ := hv
  have hx := B.exec
  have hb := B.bytes
  have hr := B.returns
  have hts := atoms_spec (ws := w_A_triesPlace) B.pre
  have hown : s.vm.findClass R_A = some m.cls := findClass_of_methodNamed B.named
  have hlocks := B.notSynchronized
  subst hsz
  have hD := hD0.self (sz := s.heap.size)
  generalize hAe : va_A [] s.heap.size = A at hD ⊢
  have hA : ∀ q : Nat, s.heap.size ≤ q → A q := fun q h => by rw [← hAe]; exact Or.inr h
  have hS : va_S A s.heap s.heap [] := va_S.rf
  have hP : va_P (dC, dI) vwCl [] s.heap := hP
  have hl := lv_entry ([.int a1]) (n := 1) (Nat.le_of_ble_eq_true rfl)
  rw [lg_entry_eq]
  generalize (lg_sl ([.int a1]) ++ List.replicate (1 - (lg_sl ([.int a1])).length) Slot.unset).toArray = ls at hl ⊢
  have hl : lv_has ls 1 [(0, .int a1)] := hl
  rw [fA_triesPlace] at hf
  refine lv_bipush (v := 72) hx hb d_A_triesPlace_0 (by decide) ?_
  refine lv_iload_n hx hb d_A_triesPlace_2 rfl (lv_at hl 0 rfl) ?_
  refine lv_iadd hx hb d_A_triesPlace_3 ?_
  have e1_ := lf1 hf
  subst e1_
  have hP9 := hP.sub (ws' := []) [] rfl
  have hD9 := hD.sub (ws' := []) [] (by decide) rfl
  exact W.iret (v := 72 + a1) hx hb hr (fun t ht hW => ⟨⟨72 + a1, (), rfl, rfl, by rw [ht]; exact hP9, va_K.moved hW.alike hK, hD9⟩, hS.F ht⟩) hS.2.2 d_A_triesPlace_4
theorem d_A_sharePlace_0 : decode b_A_sharePlace 0 = .ok (.bipush 76, 2) := by decide +kernel
theorem d_A_sharePlace_2 : decode b_A_sharePlace 2 = .ok (.iconst 4, 1) := by decide +kernel
theorem d_A_sharePlace_3 : decode b_A_sharePlace 3 = .ok (.iload_n 0, 1) := by decide +kernel
theorem d_A_sharePlace_4 : decode b_A_sharePlace 4 = .ok (.imul, 1) := by decide +kernel
theorem d_A_sharePlace_5 : decode b_A_sharePlace 5 = .ok (.iadd, 1) := by decide +kernel
theorem d_A_sharePlace_6 : decode b_A_sharePlace 6 = .ok (.ireturn, 1) := by decide +kernel
def fA_sharePlace (a1 : Int32) : Option (Int32) := some (76 + (4 * a1))
set_option maxHeartbeats 4000000 in
set_option maxRecDepth 100000 in
theorem ctA_sharePlace (l : Launch) (dC : Nat → ClassId) (dI : Nat → Nat → Nat) (cI : ClassId) (a1 : Int32) (r : Int32) (hf : fA_sharePlace a1 = some r) : CtI l y_A_sharePlace w_A_sharePlace ({ frames := 0, cells := 0, slots := 0, locals := 0 }) (dC, dI) [(cI, .int)] [.int a1] [] [] r := by
  intro sz
  refine Met.ofW (cc := b_A_sharePlace) (maxL := 1) (ret := some .int) (by decide) rfl ?_
  intro p e s m args below meth c s₁ B hml hv
  obtain ⟨rfl, hsz, hP, hK, hD0⟩ := hv
  have hx := B.exec
  have hb := B.bytes
  have hr := B.returns
  have hts := atoms_spec (ws := w_A_sharePlace) B.pre
  have hown : s.vm.findClass R_A = some m.cls := findClass_of_methodNamed B.named
  have hlocks := B.notSynchronized
  subst hsz
  have hD := hD0.self (sz := s.heap.size)
  generalize hAe : va_A [] s.heap.size = A at hD ⊢
  have hA : ∀ q : Nat, s.heap.size ≤ q → A q := fun q h => by rw [← hAe]; exact Or.inr h
  have hS : va_S A s.heap s.heap [] := va_S.rf
  have hP : va_P (dC, dI) vwCl [] s.heap := hP
  have hl := lv_entry ([.int a1]) (n := 1) (Nat.le_of_ble_eq_true rfl)
  rw [lg_entry_eq]
  generalize (lg_sl ([.int a1]) ++ List.replicate (1 - (lg_sl ([.int a1])).length) Slot.unset).toArray = ls at hl ⊢
  have hl : lv_has ls 1 [(0, .int a1)] := hl
  rw [fA_sharePlace] at hf
  refine lv_bipush (v := 76) hx hb d_A_sharePlace_0 (by decide) ?_
  refine lv_iconst (v := 4) hx hb d_A_sharePlace_2 (by decide) ?_
  refine lv_iload_n hx hb d_A_sharePlace_3 rfl (lv_at hl 0 rfl) ?_
  refine lv_imul hx hb d_A_sharePlace_4 ?_
  refine lv_iadd hx hb d_A_sharePlace_5 ?_
  have e1_ := lf1 hf
  subst e1_
  have hP9 := hP.sub (ws' := []) [] rfl
  have hD9 := hD.sub (ws' := []) [] (by decide) rfl
  exact W.iret (v := 76 + (4 * a1)) hx hb hr (fun t ht hW => ⟨⟨76 + (4 * a1), (), rfl, rfl, by rw [ht]; exact hP9, va_K.moved hW.alike hK, hD9⟩, hS.F ht⟩) hS.2.2 d_A_sharePlace_6
theorem d_A_put_0 : decode b_A_put 0 = .ok (.aload_n 0, 1) := by decide +kernel
theorem d_A_put_1 : decode b_A_put 1 = .ok (.getfield 34, 3) := by decide +kernel
theorem d_A_put_4 : decode b_A_put 4 = .ok (.ifCond .eq 19, 3) := by decide +kernel
theorem d_A_put_7 : decode b_A_put 7 = .ok (.aload_n 0, 1) := by decide +kernel
theorem d_A_put_8 : decode b_A_put 8 = .ok (.getfield 19, 3) := by decide +kernel
theorem d_A_put_11 : decode b_A_put 11 = .ok (.lload_n 1, 1) := by decide +kernel
theorem d_A_put_12 : decode b_A_put 12 = .ok (.iload_n 3, 1) := by decide +kernel
theorem d_A_put_13 : decode b_A_put 13 = .ok (.invokevirtual 38, 3) := by decide +kernel
theorem d_A_put_16 : decode b_A_put 16 = .ok (.ifCond .eq 7, 3) := by decide +kernel
theorem d_A_put_19 : decode b_A_put 19 = .ok (.iconst 1, 1) := by decide +kernel
theorem d_A_put_20 : decode b_A_put 20 = .ok (.goto 4, 3) := by decide +kernel
theorem d_A_put_23 : decode b_A_put 23 = .ok (.iconst 0, 1) := by decide +kernel
theorem d_A_put_24 : decode b_A_put 24 = .ok (.ireturn, 1) := by decide +kernel
def fA_put (σ : StX) (a1 : Int64) (a2 : Int32) : Option (Int32 × StX) := match σ with | (mc, mw, mf, mz, ib, ic, xa, xg, xl, xo, xs, xv, xp) => if xo = 0 then (some (0, mc, mw, mf, mz, ib, ic, xa, xg, xl, xo, xs, xv, xp)) else (bd3 (fI_append (ib, ic) a1 a2) fun r2 ib2 ic2 => if r2 = 0 then (some (0, mc, mw, mf, mz, ib2, ic2, xa, xg, xl, xo, xs, xv, xp)) else (some (1, mc, mw, mf, mz, ib2, ic2, xa, xg, xl, xo, xs, xv, xp)))
set_option maxHeartbeats 4000000 in
set_option maxRecDepth 100000 in
theorem ctA_put (l : Launch) (dC : Nat → ClassId) (dI : Nat → Nat → Nat) (cI : ClassId) (ha hm qc hi qb qa qg : Nat) (mc : Nat → Int32) (mw : Int32) (mf : Int32) (mz : Int32) (ib : Nat → Int32) (ic : Int32) (xa : Nat → Int32) (xg : Nat → Int32) (xl : Int32) (xo : Int32) (xs : Int32) (xv : Int32) (xp : Int32) (a1 : Int64) (a2 : Int32) (r : Int32) (mc' : Nat → Int32) (mw' : Int32) (mf' : Int32) (mz' : Int32) (ib' : Nat → Int32) (ic' : Int32) (xa' : Nat → Int32) (xg' : Nat → Int32) (xl' : Int32) (xo' : Int32) (xs' : Int32) (xv' : Int32) (xp' : Int32) (hf : fA_put (mc, mw, mf, mz, ib, ic, xa, xg, xl, xo, xs, xv, xp) a1 a2 = some (r, mc', mw', mf', mz', ib', ic', xa', xg', xl', xo', xs', xv', xp')) : CtZ l y_A_put w_A_put ({ frames := 1, cells := 0, slots := 0, locals := 24 }) (dC, dI) [(cI, .int)] [.ref ha, .long a1, .int a2] [(ha, .inr (0, [.ref hm, .ref hi, .ref qa, .ref qg, .int xl, .int xo, .int xs, .int xv, .int xp])), (hm, .inr (1, [.ref qc, .int mw, .int mf, .int mz])), (qc, .inl (cI, 149, .inl mc)), (hi, .inr (2, [.ref qb, .int ic])), (qb, .inl (cI, 24, .inl ib)), (qa, .inl (cI, 16, .inl xa)), (qg, .inl (cI, 4, .inl xg))] [(ha, .inr (0, [.ref hm, .ref hi, .ref qa, .ref qg, .int xl', .int xo', .int xs', .int xv', .int xp'])), (hm, .inr (1, [.ref qc, .int mw', .int mf', .int mz'])), (qc, .inl (cI, 149, .inl mc')), (hi, .inr (2, [.ref qb, .int ic'])), (qb, .inl (cI, 24, .inl ib')), (qa, .inl (cI, 16, .inl xa')), (qg, .inl (cI, 4, .inl xg'))] r := by
  intro sz
  refine Met.ofW (cc := b_A_put) (maxL := 4) (ret := some .boolean) (by decide) rfl ?_
  intro p e s m args below meth c s₁ B hml hv
  obtain ⟨rfl, hsz, hP, hK, hD0⟩ := hv
  have hx := B.exec
  have hb := B.bytes
  have hr := B.returns
  have hts := atoms_spec (ws := w_A_put) B.pre
  have hown : s.vm.findClass R_A = some m.cls := findClass_of_methodNamed B.named
  have hlocks := B.notSynchronized
  subst hsz
  have hD := hD0.self (sz := s.heap.size)
  generalize hAe : va_A [(ha, .inr (0, [.ref hm, .ref hi, .ref qa, .ref qg, .int xl, .int xo, .int xs, .int xv, .int xp])), (hm, .inr (1, [.ref qc, .int mw, .int mf, .int mz])), (qc, .inl (cI, 149, .inl mc)), (hi, .inr (2, [.ref qb, .int ic])), (qb, .inl (cI, 24, .inl ib)), (qa, .inl (cI, 16, .inl xa)), (qg, .inl (cI, 4, .inl xg))] s.heap.size = A at hD ⊢
  have hA : ∀ q : Nat, s.heap.size ≤ q → A q := fun q h => by rw [← hAe]; exact Or.inr h
  have hS : va_S A s.heap s.heap [] := va_S.rf
  have hP : va_P (dC, dI) vwCl [(ha, .inr (0, [.ref hm, .ref hi, .ref qa, .ref qg, .int xl, .int xo, .int xs, .int xv, .int xp])), (hm, .inr (1, [.ref qc, .int mw, .int mf, .int mz])), (qc, .inl (cI, 149, .inl mc)), (hi, .inr (2, [.ref qb, .int ic])), (qb, .inl (cI, 24, .inl ib)), (qa, .inl (cI, 16, .inl xa)), (qg, .inl (cI, 4, .inl xg))] s.heap := hP
  have hl := lv_entry ([.ref ha, .long a1, .int a2]) (n := 4) (Nat.le_of_ble_eq_true rfl)
  rw [lg_entry_eq]
  generalize (lg_sl ([.ref ha, .long a1, .int a2]) ++ List.replicate (4 - (lg_sl ([.ref ha, .long a1, .int a2])).length) Slot.unset).toArray = ls at hl ⊢
  have hl : lv_has ls 4 [(0, .ref ha), (1, .long a1), (3, .int a2)] := hl
  have inA : ∀ w ∈ u_ws R_A F_A 9, w ∈ w_A_put := fun w h => List.mem_cons_of_mem _ (in_A w h)
  have kf19 := hts _ (List.mem_cons_of_mem _ wq92)
  have kf34 := hts _ (List.mem_cons_of_mem _ wq96)
  rw [fA_put] at hf
  refine lv_aload_n hx hb d_A_put_0 rfl (lv_at hl 0 rfl) ?_
  refine va_get (D := (dC, dI)) (ci := 0) (v := .int xo) (C := R_A) (T := F_A) (N := 9) hx hb hts inA hown hK hP 0 rfl rfl 5 (by decide) kf34 (fun _ h9 => h9) rfl d_A_put_1 ?_
  refine lv_if_eq (tgt := 23) hx hb d_A_put_4 rfl (fun hc1 => ?_) (fun hc1 => ?_)
  · have hf := ift hf hc1
    refine lv_iconst (v := 0) hx hb d_A_put_23 (by decide) ?_
    obtain ⟨e1_, e2_, e3_, e4_, e5_, e6_, e7_, e8_, e9_, e10_, e11_, e12_, e13_, e14_⟩ := lf14 hf
    subst e1_; subst e2_; subst e3_; subst e4_; subst e5_; subst e6_; subst e7_; subst e8_; subst e9_; subst e10_; subst e11_; subst e12_; subst e13_; subst e14_
    have hP9 := hP.sub (ws' := [(ha, .inr (0, [.ref hm, .ref hi, .ref qa, .ref qg, .int xl, .int xo, .int xs, .int xv, .int xp])), (hm, .inr (1, [.ref qc, .int mw, .int mf, .int mz])), (qc, .inl (cI, 149, .inl mc)), (hi, .inr (2, [.ref qb, .int ic])), (qb, .inl (cI, 24, .inl ib)), (qa, .inl (cI, 16, .inl xa)), (qg, .inl (cI, 4, .inl xg))]) [0, 1, 2, 3, 4, 5, 6] rfl
    have hD9 := hD.sub (ws' := [(ha, .inr (0, [.ref hm, .ref hi, .ref qa, .ref qg, .int xl, .int xo, .int xs, .int xv, .int xp])), (hm, .inr (1, [.ref qc, .int mw, .int mf, .int mz])), (qc, .inl (cI, 149, .inl mc)), (hi, .inr (2, [.ref qb, .int ic])), (qb, .inl (cI, 24, .inl ib)), (qa, .inl (cI, 16, .inl xa)), (qg, .inl (cI, 4, .inl xg))]) [0, 1, 2, 3, 4, 5, 6] (by decide) rfl
    exact W.zret (v := 0) (ty := .boolean) hx hb hr rfl (fun t ht hW => ⟨⟨0, (), rfl, ⟨rfl, rfl⟩, by rw [ht]; exact hP9, va_K.moved hW.alike hK, hD9⟩, hS.F ht⟩) hS.2.2 d_A_put_24
  have hf := ifn hf hc1
  refine lv_aload_n hx hb d_A_put_7 rfl (lv_at hl 0 rfl) ?_
  refine va_get (D := (dC, dI)) (ci := 0) (v := .ref hi) (C := R_A) (T := F_A) (N := 9) hx hb hts inA hown hK hP 0 rfl rfl 1 (by decide) kf19 (fun _ h9 => h9) rfl d_A_put_8 ?_
  refine lv_lload_n hx hb d_A_put_11 rfl (lv_at hl 1 rfl) ?_
  refine lv_iload_n hx hb d_A_put_12 rfl (lv_at hl 2 rfl) ?_
  obtain ⟨r2, ib2, ic2, hg, hf⟩ := bd3_some hf
  refine xcz (wr := [(ha, .inr (0, [.ref hm, .ref hi, .ref qa, .ref qg, .int xl, .int xo, .int xs, .int xv, .int xp])), (hm, .inr (1, [.ref qc, .int mw, .int mf, .int mz])), (qc, .inl (cI, 149, .inl mc)), (qa, .inl (cI, 16, .inl xa)), (qg, .inl (cI, 4, .inl xg))]) (ctI_append l dC dI cI hi qb ib ic a1 a2 r2 ib2 ic2 hg) ⟨hx, hb, hml, hown, hts⟩ (cwV (C := R_I) 2 hts (gV wq123 wq124 wq125 wq45 wq126) rfl rfl rfl (by decide +kernel) ⟨Nat.le_of_ble_eq_true rfl, Nat.le_of_ble_eq_true rfl⟩) hK hP hD hS hA [3, 4] [0, 1, 2, 5, 6] rfl rfl rfl rfl (by decide) (ci := 2) (q0 := 3) rfl rfl rfl rfl hl.1 rfl (Nat.le_of_ble_eq_true rfl) d_A_put_13 ⟨Nat.zero_le _, Nat.zero_le _⟩ (fun H locs hn2 hP hD hS => ?_)
  have hP : va_P (dC, dI) vwCl [(ha, .inr (0, [.ref hm, .ref hi, .ref qa, .ref qg, .int xl, .int xo, .int xs, .int xv, .int xp])), (hm, .inr (1, [.ref qc, .int mw, .int mf, .int mz])), (qc, .inl (cI, 149, .inl mc)), (qa, .inl (cI, 16, .inl xa)), (qg, .inl (cI, 4, .inl xg)), (hi, .inr (2, [.ref qb, .int ic2])), (qb, .inl (cI, 24, .inl ib2))] H := hP
  have hD : va_D A [(ha, .inr (0, [.ref hm, .ref hi, .ref qa, .ref qg, .int xl, .int xo, .int xs, .int xv, .int xp])), (hm, .inr (1, [.ref qc, .int mw, .int mf, .int mz])), (qc, .inl (cI, 149, .inl mc)), (qa, .inl (cI, 16, .inl xa)), (qg, .inl (cI, 4, .inl xg)), (hi, .inr (2, [.ref qb, .int ic2])), (qb, .inl (cI, 24, .inl ib2))] := hD
  refine lv_if_eq (tgt := 23) hx hb d_A_put_16 rfl (fun hc3 => ?_) (fun hc3 => ?_)
  · have hf := ift hf hc3
    refine lv_iconst (v := 0) hx hb d_A_put_23 (by decide) ?_
    obtain ⟨e1_, e2_, e3_, e4_, e5_, e6_, e7_, e8_, e9_, e10_, e11_, e12_, e13_, e14_⟩ := lf14 hf
    subst e1_; subst e2_; subst e3_; subst e4_; subst e5_; subst e6_; subst e7_; subst e8_; subst e9_; subst e10_; subst e11_; subst e12_; subst e13_; subst e14_
    have hP9 := hP.sub (ws' := [(ha, .inr (0, [.ref hm, .ref hi, .ref qa, .ref qg, .int xl, .int xo, .int xs, .int xv, .int xp])), (hm, .inr (1, [.ref qc, .int mw, .int mf, .int mz])), (qc, .inl (cI, 149, .inl mc)), (hi, .inr (2, [.ref qb, .int ic2])), (qb, .inl (cI, 24, .inl ib2)), (qa, .inl (cI, 16, .inl xa)), (qg, .inl (cI, 4, .inl xg))]) [0, 1, 2, 5, 6, 3, 4] rfl
    have hD9 := hD.sub (ws' := [(ha, .inr (0, [.ref hm, .ref hi, .ref qa, .ref qg, .int xl, .int xo, .int xs, .int xv, .int xp])), (hm, .inr (1, [.ref qc, .int mw, .int mf, .int mz])), (qc, .inl (cI, 149, .inl mc)), (hi, .inr (2, [.ref qb, .int ic2])), (qb, .inl (cI, 24, .inl ib2)), (qa, .inl (cI, 16, .inl xa)), (qg, .inl (cI, 4, .inl xg))]) [0, 1, 2, 5, 6, 3, 4] (by decide) rfl
    exact W.zret (v := 0) (ty := .boolean) hx hb hr rfl (fun t ht hW => ⟨⟨0, (), rfl, ⟨rfl, rfl⟩, by rw [ht]; exact hP9, va_K.moved hW.alike hK, hD9⟩, hS.F ht⟩) hS.2.2 d_A_put_24
  have hf := ifn hf hc3
  refine lv_iconst (v := 1) hx hb d_A_put_19 (by decide) ?_
  refine lv_goto (tgt := 24) hx hb d_A_put_20 rfl ?_
  obtain ⟨e1_, e2_, e3_, e4_, e5_, e6_, e7_, e8_, e9_, e10_, e11_, e12_, e13_, e14_⟩ := lf14 hf
  subst e1_; subst e2_; subst e3_; subst e4_; subst e5_; subst e6_; subst e7_; subst e8_; subst e9_; subst e10_; subst e11_; subst e12_; subst e13_; subst e14_
  have hP9 := hP.sub (ws' := [(ha, .inr (0, [.ref hm, .ref hi, .ref qa, .ref qg, .int xl, .int xo, .int xs, .int xv, .int xp])), (hm, .inr (1, [.ref qc, .int mw, .int mf, .int mz])), (qc, .inl (cI, 149, .inl mc)), (hi, .inr (2, [.ref qb, .int ic2])), (qb, .inl (cI, 24, .inl ib2)), (qa, .inl (cI, 16, .inl xa)), (qg, .inl (cI, 4, .inl xg))]) [0, 1, 2, 5, 6, 3, 4] rfl
  have hD9 := hD.sub (ws' := [(ha, .inr (0, [.ref hm, .ref hi, .ref qa, .ref qg, .int xl, .int xo, .int xs, .int xv, .int xp])), (hm, .inr (1, [.ref qc, .int mw, .int mf, .int mz])), (qc, .inl (cI, 149, .inl mc)), (hi, .inr (2, [.ref qb, .int ic2])), (qb, .inl (cI, 24, .inl ib2)), (qa, .inl (cI, 16, .inl xa)), (qg, .inl (cI, 4, .inl xg))]) [0, 1, 2, 5, 6, 3, 4] (by decide) rfl
  exact W.zret (v := 1) (ty := .boolean) hx hb hr rfl (fun t ht hW => ⟨⟨1, (), rfl, ⟨rfl, rfl⟩, by rw [ht]; exact hP9, va_K.moved hW.alike hK, hD9⟩, hS.F ht⟩) hS.2.2 d_A_put_24
theorem d_A_waiting_0 : decode b_A_waiting 0 = .ok (.aload_n 0, 1) := by decide +kernel
theorem d_A_waiting_1 : decode b_A_waiting 1 = .ok (.getfield 19, 3) := by decide +kernel
theorem d_A_waiting_4 : decode b_A_waiting 4 = .ok (.invokevirtual 69, 3) := by decide +kernel
theorem d_A_waiting_7 : decode b_A_waiting 7 = .ok (.ireturn, 1) := by decide +kernel
def fA_waiting (σ : StX) : Option (Int32) := match σ with | (mc, mw, mf, mz, ib, ic, xa, xg, xl, xo, xs, xv, xp) => bd1 (fI_size (ib, ic)) fun r1 => some r1
set_option maxHeartbeats 4000000 in
set_option maxRecDepth 100000 in
theorem ctA_waiting (l : Launch) (dC : Nat → ClassId) (dI : Nat → Nat → Nat) (cI : ClassId) (ha hm qc hi qb qa qg : Nat) (mc : Nat → Int32) (mw : Int32) (mf : Int32) (mz : Int32) (ib : Nat → Int32) (ic : Int32) (xa : Nat → Int32) (xg : Nat → Int32) (xl : Int32) (xo : Int32) (xs : Int32) (xv : Int32) (xp : Int32) (r : Int32) (hf : fA_waiting (mc, mw, mf, mz, ib, ic, xa, xg, xl, xo, xs, xv, xp) = some r) : CtI l y_A_waiting w_A_waiting ({ frames := 1, cells := 0, slots := 0, locals := 20 }) (dC, dI) [(cI, .int)] [.ref ha] [(ha, .inr (0, [.ref hm, .ref hi, .ref qa, .ref qg, .int xl, .int xo, .int xs, .int xv, .int xp])), (hm, .inr (1, [.ref qc, .int mw, .int mf, .int mz])), (qc, .inl (cI, 149, .inl mc)), (hi, .inr (2, [.ref qb, .int ic])), (qb, .inl (cI, 24, .inl ib)), (qa, .inl (cI, 16, .inl xa)), (qg, .inl (cI, 4, .inl xg))] [(ha, .inr (0, [.ref hm, .ref hi, .ref qa, .ref qg, .int xl, .int xo, .int xs, .int xv, .int xp])), (hm, .inr (1, [.ref qc, .int mw, .int mf, .int mz])), (qc, .inl (cI, 149, .inl mc)), (hi, .inr (2, [.ref qb, .int ic])), (qb, .inl (cI, 24, .inl ib)), (qa, .inl (cI, 16, .inl xa)), (qg, .inl (cI, 4, .inl xg))] r := by
  intro sz
  refine Met.ofW (cc := b_A_waiting) (maxL := 1) (ret := some .int) (by decide) rfl ?_
  intro p e s m args below meth c s₁ B hml hv
  obtain ⟨rfl, hsz, hP, hK, hD0⟩ := hv
  have hx := B.exec
  have hb := B.bytes
  have hr := B.returns
  have hts := atoms_spec (ws := w_A_waiting) B.pre
  have hown : s.vm.findClass R_A = some m.cls := findClass_of_methodNamed B.named
  have hlocks := B.notSynchronized
  subst hsz
  have hD := hD0.self (sz := s.heap.size)
  generalize hAe : va_A [(ha, .inr (0, [.ref hm, .ref hi, .ref qa, .ref qg, .int xl, .int xo, .int xs, .int xv, .int xp])), (hm, .inr (1, [.ref qc, .int mw, .int mf, .int mz])), (qc, .inl (cI, 149, .inl mc)), (hi, .inr (2, [.ref qb, .int ic])), (qb, .inl (cI, 24, .inl ib)), (qa, .inl (cI, 16, .inl xa)), (qg, .inl (cI, 4, .inl xg))] s.heap.size = A at hD ⊢
  have hA : ∀ q : Nat, s.heap.size ≤ q → A q := fun q h => by rw [← hAe]; exact Or.inr h
  have hS : va_S A s.heap s.heap [] := va_S.rf
  have hP : va_P (dC, dI) vwCl [(ha, .inr (0, [.ref hm, .ref hi, .ref qa, .ref qg, .int xl, .int xo, .int xs, .int xv, .int xp])), (hm, .inr (1, [.ref qc, .int mw, .int mf, .int mz])), (qc, .inl (cI, 149, .inl mc)), (hi, .inr (2, [.ref qb, .int ic])), (qb, .inl (cI, 24, .inl ib)), (qa, .inl (cI, 16, .inl xa)), (qg, .inl (cI, 4, .inl xg))] s.heap := hP
  have hl := lv_entry ([.ref ha]) (n := 1) (Nat.le_of_ble_eq_true rfl)
  rw [lg_entry_eq]
  generalize (lg_sl ([.ref ha]) ++ List.replicate (1 - (lg_sl ([.ref ha])).length) Slot.unset).toArray = ls at hl ⊢
  have hl : lv_has ls 1 [(0, .ref ha)] := hl
  have inA : ∀ w ∈ u_ws R_A F_A 9, w ∈ w_A_waiting := fun w h => List.mem_cons_of_mem _ (in_A w h)
  have kf19 := hts _ (List.mem_cons_of_mem _ wq92)
  rw [fA_waiting] at hf
  refine lv_aload_n hx hb d_A_waiting_0 rfl (lv_at hl 0 rfl) ?_
  refine va_get (D := (dC, dI)) (ci := 0) (v := .ref hi) (C := R_A) (T := F_A) (N := 9) hx hb hts inA hown hK hP 0 rfl rfl 1 (by decide) kf19 (fun _ h9 => h9) rfl d_A_waiting_1 ?_
  obtain ⟨r1, hg, hf⟩ := bd1_some hf
  refine xci (wr := [(ha, .inr (0, [.ref hm, .ref hi, .ref qa, .ref qg, .int xl, .int xo, .int xs, .int xv, .int xp])), (hm, .inr (1, [.ref qc, .int mw, .int mf, .int mz])), (qc, .inl (cI, 149, .inl mc)), (qa, .inl (cI, 16, .inl xa)), (qg, .inl (cI, 4, .inl xg))]) (ctI_size l dC dI cI hi qb ib ic r1 hg) ⟨hx, hb, hml, hown, hts⟩ (cwV (C := R_I) 0 hts (gV wq340 wq341 wq342 wq45 wq343) rfl rfl rfl (by decide +kernel) ⟨Nat.le_of_ble_eq_true rfl, Nat.le_of_ble_eq_true rfl⟩) hK hP hD hS hA [3, 4] [0, 1, 2, 5, 6] rfl rfl rfl rfl (by decide) (ci := 2) (q0 := 3) rfl rfl rfl rfl hl.1 rfl (Nat.le_of_ble_eq_true rfl) d_A_waiting_4 ⟨Nat.zero_le _, Nat.zero_le _⟩ (fun H locs hP hD hS => ?_)
  have hP : va_P (dC, dI) vwCl [(ha, .inr (0, [.ref hm, .ref hi, .ref qa, .ref qg, .int xl, .int xo, .int xs, .int xv, .int xp])), (hm, .inr (1, [.ref qc, .int mw, .int mf, .int mz])), (qc, .inl (cI, 149, .inl mc)), (qa, .inl (cI, 16, .inl xa)), (qg, .inl (cI, 4, .inl xg)), (hi, .inr (2, [.ref qb, .int ic])), (qb, .inl (cI, 24, .inl ib))] H := hP
  have hD : va_D A [(ha, .inr (0, [.ref hm, .ref hi, .ref qa, .ref qg, .int xl, .int xo, .int xs, .int xv, .int xp])), (hm, .inr (1, [.ref qc, .int mw, .int mf, .int mz])), (qc, .inl (cI, 149, .inl mc)), (qa, .inl (cI, 16, .inl xa)), (qg, .inl (cI, 4, .inl xg)), (hi, .inr (2, [.ref qb, .int ic])), (qb, .inl (cI, 24, .inl ib))] := hD
  have e1_ := lf1 hf
  subst e1_
  have hP9 := hP.sub (ws' := [(ha, .inr (0, [.ref hm, .ref hi, .ref qa, .ref qg, .int xl, .int xo, .int xs, .int xv, .int xp])), (hm, .inr (1, [.ref qc, .int mw, .int mf, .int mz])), (qc, .inl (cI, 149, .inl mc)), (hi, .inr (2, [.ref qb, .int ic])), (qb, .inl (cI, 24, .inl ib)), (qa, .inl (cI, 16, .inl xa)), (qg, .inl (cI, 4, .inl xg))]) [0, 1, 2, 5, 6, 3, 4] rfl
  have hD9 := hD.sub (ws' := [(ha, .inr (0, [.ref hm, .ref hi, .ref qa, .ref qg, .int xl, .int xo, .int xs, .int xv, .int xp])), (hm, .inr (1, [.ref qc, .int mw, .int mf, .int mz])), (qc, .inl (cI, 149, .inl mc)), (hi, .inr (2, [.ref qb, .int ic])), (qb, .inl (cI, 24, .inl ib)), (qa, .inl (cI, 16, .inl xa)), (qg, .inl (cI, 4, .inl xg))]) [0, 1, 2, 5, 6, 3, 4] (by decide) rfl
  exact W.iret (v := r1) hx hb hr (fun t ht hW => ⟨⟨r1, (), rfl, rfl, by rw [ht]; exact hP9, va_K.moved hW.alike hK, hD9⟩, hS.F ht⟩) hS.2.2 d_A_waiting_7
theorem d_A_length_0 : decode b_A_length 0 = .ok (.aload_n 0, 1) := by decide +kernel
theorem d_A_length_1 : decode b_A_length 1 = .ok (.getfield 42, 3) := by decide +kernel
theorem d_A_length_4 : decode b_A_length 4 = .ok (.ireturn, 1) := by decide +kernel
def fA_length (σ : StX) : Option (Int32) := match σ with | (mc, mw, mf, mz, ib, ic, xa, xg, xl, xo, xs, xv, xp) => some xl
set_option maxHeartbeats 4000000 in
set_option maxRecDepth 100000 in
theorem ctA_length (l : Launch) (dC : Nat → ClassId) (dI : Nat → Nat → Nat) (cI : ClassId) (ha hm qc hi qb qa qg : Nat) (mc : Nat → Int32) (mw : Int32) (mf : Int32) (mz : Int32) (ib : Nat → Int32) (ic : Int32) (xa : Nat → Int32) (xg : Nat → Int32) (xl : Int32) (xo : Int32) (xs : Int32) (xv : Int32) (xp : Int32) (r : Int32) (hf : fA_length (mc, mw, mf, mz, ib, ic, xa, xg, xl, xo, xs, xv, xp) = some r) : CtI l y_A_length w_A_length ({ frames := 0, cells := 0, slots := 0, locals := 0 }) (dC, dI) [(cI, .int)] [.ref ha] [(ha, .inr (0, [.ref hm, .ref hi, .ref qa, .ref qg, .int xl, .int xo, .int xs, .int xv, .int xp])), (hm, .inr (1, [.ref qc, .int mw, .int mf, .int mz])), (qc, .inl (cI, 149, .inl mc)), (hi, .inr (2, [.ref qb, .int ic])), (qb, .inl (cI, 24, .inl ib)), (qa, .inl (cI, 16, .inl xa)), (qg, .inl (cI, 4, .inl xg))] [(ha, .inr (0, [.ref hm, .ref hi, .ref qa, .ref qg, .int xl, .int xo, .int xs, .int xv, .int xp])), (hm, .inr (1, [.ref qc, .int mw, .int mf, .int mz])), (qc, .inl (cI, 149, .inl mc)), (hi, .inr (2, [.ref qb, .int ic])), (qb, .inl (cI, 24, .inl ib)), (qa, .inl (cI, 16, .inl xa)), (qg, .inl (cI, 4, .inl xg))] r := by
  intro sz
  refine Met.ofW (cc := b_A_length) (maxL := 1) (ret := some .int) (by decide) rfl ?_
  intro p e s m args below meth c s₁ B hml hv
  obtain ⟨rfl, hsz, hP, hK, hD0⟩ := hv
  have hx := B.exec
  have hb := B.bytes
  have hr := B.returns
  have hts := atoms_spec (ws := w_A_length) B.pre
  have hown : s.vm.findClass R_A = some m.cls := findClass_of_methodNamed B.named
  have hlocks := B.notSynchronized
  subst hsz
  have hD := hD0.self (sz := s.heap.size)
  generalize hAe : va_A [(ha, .inr (0, [.ref hm, .ref hi, .ref qa, .ref qg, .int xl, .int xo, .int xs, .int xv, .int xp])), (hm, .inr (1, [.ref qc, .int mw, .int mf, .int mz])), (qc, .inl (cI, 149, .inl mc)), (hi, .inr (2, [.ref qb, .int ic])), (qb, .inl (cI, 24, .inl ib)), (qa, .inl (cI, 16, .inl xa)), (qg, .inl (cI, 4, .inl xg))] s.heap.size = A at hD ⊢
  have hA : ∀ q : Nat, s.heap.size ≤ q → A q := fun q h => by rw [← hAe]; exact Or.inr h
  have hS : va_S A s.heap s.heap [] := va_S.rf
  have hP : va_P (dC, dI) vwCl [(ha, .inr (0, [.ref hm, .ref hi, .ref qa, .ref qg, .int xl, .int xo, .int xs, .int xv, .int xp])), (hm, .inr (1, [.ref qc, .int mw, .int mf, .int mz])), (qc, .inl (cI, 149, .inl mc)), (hi, .inr (2, [.ref qb, .int ic])), (qb, .inl (cI, 24, .inl ib)), (qa, .inl (cI, 16, .inl xa)), (qg, .inl (cI, 4, .inl xg))] s.heap := hP
  have hl := lv_entry ([.ref ha]) (n := 1) (Nat.le_of_ble_eq_true rfl)
  rw [lg_entry_eq]
  generalize (lg_sl ([.ref ha]) ++ List.replicate (1 - (lg_sl ([.ref ha])).length) Slot.unset).toArray = ls at hl ⊢
  have hl : lv_has ls 1 [(0, .ref ha)] := hl
  have inA : ∀ w ∈ u_ws R_A F_A 9, w ∈ w_A_length := fun w h => List.mem_cons_of_mem _ (in_A w h)
  have kf42 := hts _ (List.mem_cons_of_mem _ wq95)
  rw [fA_length] at hf
  refine lv_aload_n hx hb d_A_length_0 rfl (lv_at hl 0 rfl) ?_
  refine va_get (D := (dC, dI)) (ci := 0) (v := .int xl) (C := R_A) (T := F_A) (N := 9) hx hb hts inA hown hK hP 0 rfl rfl 4 (by decide) kf42 (fun _ h9 => h9) rfl d_A_length_1 ?_
  have e1_ := lf1 hf
  subst e1_
  have hP9 := hP.sub (ws' := [(ha, .inr (0, [.ref hm, .ref hi, .ref qa, .ref qg, .int xl, .int xo, .int xs, .int xv, .int xp])), (hm, .inr (1, [.ref qc, .int mw, .int mf, .int mz])), (qc, .inl (cI, 149, .inl mc)), (hi, .inr (2, [.ref qb, .int ic])), (qb, .inl (cI, 24, .inl ib)), (qa, .inl (cI, 16, .inl xa)), (qg, .inl (cI, 4, .inl xg))]) [0, 1, 2, 3, 4, 5, 6] rfl
  have hD9 := hD.sub (ws' := [(ha, .inr (0, [.ref hm, .ref hi, .ref qa, .ref qg, .int xl, .int xo, .int xs, .int xv, .int xp])), (hm, .inr (1, [.ref qc, .int mw, .int mf, .int mz])), (qc, .inl (cI, 149, .inl mc)), (hi, .inr (2, [.ref qb, .int ic])), (qb, .inl (cI, 24, .inl ib)), (qa, .inl (cI, 16, .inl xa)), (qg, .inl (cI, 4, .inl xg))]) [0, 1, 2, 3, 4, 5, 6] (by decide) rfl
  exact W.iret (v := xl) hx hb hr (fun t ht hW => ⟨⟨xl, (), rfl, rfl, by rw [ht]; exact hP9, va_K.moved hW.alike hK, hD9⟩, hS.F ht⟩) hS.2.2 d_A_length_4
theorem d_A_response_0 : decode b_A_response 0 = .ok (.iload_n 1, 1) := by decide +kernel
theorem d_A_response_1 : decode b_A_response 1 = .ok (.ifCond .lt 11, 3) := by decide +kernel
theorem d_A_response_4 : decode b_A_response 4 = .ok (.iload_n 1, 1) := by decide +kernel
theorem d_A_response_5 : decode b_A_response 5 = .ok (.aload_n 0, 1) := by decide +kernel
theorem d_A_response_6 : decode b_A_response 6 = .ok (.getfield 42, 3) := by decide +kernel
theorem d_A_response_9 : decode b_A_response 9 = .ok (.if_icmp .lt 8, 3) := by decide +kernel
theorem d_A_response_12 : decode b_A_response 12 = .ok (.bipush (-2), 2) := by decide +kernel
theorem d_A_response_14 : decode b_A_response 14 = .ok (.goto 9, 3) := by decide +kernel
theorem d_A_response_17 : decode b_A_response 17 = .ok (.aload_n 0, 1) := by decide +kernel
theorem d_A_response_18 : decode b_A_response 18 = .ok (.getfield 23, 3) := by decide +kernel
theorem d_A_response_21 : decode b_A_response 21 = .ok (.iload_n 1, 1) := by decide +kernel
theorem d_A_response_22 : decode b_A_response 22 = .ok (.iaload, 1) := by decide +kernel
theorem d_A_response_23 : decode b_A_response 23 = .ok (.ireturn, 1) := by decide +kernel
def fA_response (σ : StX) (a1 : Int32) : Option (Int32) := match σ with | (mc, mw, mf, mz, ib, ic, xa, xg, xl, xo, xs, xv, xp) => if a1 < 0 then (some (-2)) else (if a1 < xl then (ix a1 16 fun j3 => some (xa j3)) else (some (-2)))
set_option maxHeartbeats 4000000 in
set_option maxRecDepth 100000 in
theorem ctA_response (l : Launch) (dC : Nat → ClassId) (dI : Nat → Nat → Nat) (cI : ClassId) (ha hm qc hi qb qa qg : Nat) (mc : Nat → Int32) (mw : Int32) (mf : Int32) (mz : Int32) (ib : Nat → Int32) (ic : Int32) (xa : Nat → Int32) (xg : Nat → Int32) (xl : Int32) (xo : Int32) (xs : Int32) (xv : Int32) (xp : Int32) (a1 : Int32) (r : Int32) (hf : fA_response (mc, mw, mf, mz, ib, ic, xa, xg, xl, xo, xs, xv, xp) a1 = some r) : CtI l y_A_response w_A_response ({ frames := 0, cells := 0, slots := 0, locals := 0 }) (dC, dI) [(cI, .int)] [.ref ha, .int a1] [(ha, .inr (0, [.ref hm, .ref hi, .ref qa, .ref qg, .int xl, .int xo, .int xs, .int xv, .int xp])), (hm, .inr (1, [.ref qc, .int mw, .int mf, .int mz])), (qc, .inl (cI, 149, .inl mc)), (hi, .inr (2, [.ref qb, .int ic])), (qb, .inl (cI, 24, .inl ib)), (qa, .inl (cI, 16, .inl xa)), (qg, .inl (cI, 4, .inl xg))] [(ha, .inr (0, [.ref hm, .ref hi, .ref qa, .ref qg, .int xl, .int xo, .int xs, .int xv, .int xp])), (hm, .inr (1, [.ref qc, .int mw, .int mf, .int mz])), (qc, .inl (cI, 149, .inl mc)), (hi, .inr (2, [.ref qb, .int ic])), (qb, .inl (cI, 24, .inl ib)), (qa, .inl (cI, 16, .inl xa)), (qg, .inl (cI, 4, .inl xg))] r := by
  intro sz
  refine Met.ofW (cc := b_A_response) (maxL := 2) (ret := some .int) (by decide) rfl ?_
  intro p e s m args below meth c s₁ B hml hv
  obtain ⟨rfl, hsz, hP, hK, hD0⟩ := hv
  have hx := B.exec
  have hb := B.bytes
  have hr := B.returns
  have hts := atoms_spec (ws := w_A_response) B.pre
  have hown : s.vm.findClass R_A = some m.cls := findClass_of_methodNamed B.named
  have hlocks := B.notSynchronized
  subst hsz
  have hD := hD0.self (sz := s.heap.size)
  generalize hAe : va_A [(ha, .inr (0, [.ref hm, .ref hi, .ref qa, .ref qg, .int xl, .int xo, .int xs, .int xv, .int xp])), (hm, .inr (1, [.ref qc, .int mw, .int mf, .int mz])), (qc, .inl (cI, 149, .inl mc)), (hi, .inr (2, [.ref qb, .int ic])), (qb, .inl (cI, 24, .inl ib)), (qa, .inl (cI, 16, .inl xa)), (qg, .inl (cI, 4, .inl xg))] s.heap.size = A at hD ⊢
  have hA : ∀ q : Nat, s.heap.size ≤ q → A q := fun q h => by rw [← hAe]; exact Or.inr h
  have hS : va_S A s.heap s.heap [] := va_S.rf
  have hP : va_P (dC, dI) vwCl [(ha, .inr (0, [.ref hm, .ref hi, .ref qa, .ref qg, .int xl, .int xo, .int xs, .int xv, .int xp])), (hm, .inr (1, [.ref qc, .int mw, .int mf, .int mz])), (qc, .inl (cI, 149, .inl mc)), (hi, .inr (2, [.ref qb, .int ic])), (qb, .inl (cI, 24, .inl ib)), (qa, .inl (cI, 16, .inl xa)), (qg, .inl (cI, 4, .inl xg))] s.heap := hP
  have hl := lv_entry ([.ref ha, .int a1]) (n := 2) (Nat.le_of_ble_eq_true rfl)
  rw [lg_entry_eq]
  generalize (lg_sl ([.ref ha, .int a1]) ++ List.replicate (2 - (lg_sl ([.ref ha, .int a1])).length) Slot.unset).toArray = ls at hl ⊢
  have hl : lv_has ls 2 [(0, .ref ha), (1, .int a1)] := hl
  have inA : ∀ w ∈ u_ws R_A F_A 9, w ∈ w_A_response := fun w h => List.mem_cons_of_mem _ (in_A w h)
  have kf23 := hts _ (List.mem_cons_of_mem _ wq93)
  have kf42 := hts _ (List.mem_cons_of_mem _ wq95)
  rw [fA_response] at hf
  refine lv_iload_n hx hb d_A_response_0 rfl (lv_at hl 1 rfl) ?_
  refine lv_if_lt (tgt := 12) hx hb d_A_response_1 rfl (fun hc1 => ?_) (fun hc1 => ?_)
  · have hf := ift hf hc1
    refine lv_bipush (v := (-2)) hx hb d_A_response_12 (by decide) ?_
    refine lv_goto (tgt := 23) hx hb d_A_response_14 rfl ?_
    have e1_ := lf1 hf
    subst e1_
    have hP9 := hP.sub (ws' := [(ha, .inr (0, [.ref hm, .ref hi, .ref qa, .ref qg, .int xl, .int xo, .int xs, .int xv, .int xp])), (hm, .inr (1, [.ref qc, .int mw, .int mf, .int mz])), (qc, .inl (cI, 149, .inl mc)), (hi, .inr (2, [.ref qb, .int ic])), (qb, .inl (cI, 24, .inl ib)), (qa, .inl (cI, 16, .inl xa)), (qg, .inl (cI, 4, .inl xg))]) [0, 1, 2, 3, 4, 5, 6] rfl
    have hD9 := hD.sub (ws' := [(ha, .inr (0, [.ref hm, .ref hi, .ref qa, .ref qg, .int xl, .int xo, .int xs, .int xv, .int xp])), (hm, .inr (1, [.ref qc, .int mw, .int mf, .int mz])), (qc, .inl (cI, 149, .inl mc)), (hi, .inr (2, [.ref qb, .int ic])), (qb, .inl (cI, 24, .inl ib)), (qa, .inl (cI, 16, .inl xa)), (qg, .inl (cI, 4, .inl xg))]) [0, 1, 2, 3, 4, 5, 6] (by decide) rfl
    exact W.iret (v := (-2)) hx hb hr (fun t ht hW => ⟨⟨(-2), (), rfl, rfl, by rw [ht]; exact hP9, va_K.moved hW.alike hK, hD9⟩, hS.F ht⟩) hS.2.2 d_A_response_23
  have hf := ifn hf hc1
  refine lv_iload_n hx hb d_A_response_4 rfl (lv_at hl 1 rfl) ?_
  refine lv_aload_n hx hb d_A_response_5 rfl (lv_at hl 0 rfl) ?_
  refine va_get (D := (dC, dI)) (ci := 0) (v := .int xl) (C := R_A) (T := F_A) (N := 9) hx hb hts inA hown hK hP 0 rfl rfl 4 (by decide) kf42 (fun _ h9 => h9) rfl d_A_response_6 ?_
  refine lv_icmp_lt (tgt := 17) hx hb d_A_response_9 rfl (fun hc2 => ?_) (fun hc2 => ?_)
  · have hf := ift hf hc2
    refine lv_aload_n hx hb d_A_response_17 rfl (lv_at hl 0 rfl) ?_
    refine va_get (D := (dC, dI)) (ci := 0) (v := .ref qa) (C := R_A) (T := F_A) (N := 9) hx hb hts inA hown hK hP 0 rfl rfl 2 (by decide) kf23 (fun _ h9 => h9) rfl d_A_response_18 ?_
    refine lv_iload_n hx hb d_A_response_21 rfl (lv_at hl 1 rfl) ?_
    obtain ⟨hin_, hf⟩ := ix_some hf
    refine va_iald hx hb hK hP 5 0 rfl rfl hin_ d_A_response_22 ?_
    have e1_ := lf1 hf
    subst e1_
    have hP9 := hP.sub (ws' := [(ha, .inr (0, [.ref hm, .ref hi, .ref qa, .ref qg, .int xl, .int xo, .int xs, .int xv, .int xp])), (hm, .inr (1, [.ref qc, .int mw, .int mf, .int mz])), (qc, .inl (cI, 149, .inl mc)), (hi, .inr (2, [.ref qb, .int ic])), (qb, .inl (cI, 24, .inl ib)), (qa, .inl (cI, 16, .inl xa)), (qg, .inl (cI, 4, .inl xg))]) [0, 1, 2, 3, 4, 5, 6] rfl
    have hD9 := hD.sub (ws' := [(ha, .inr (0, [.ref hm, .ref hi, .ref qa, .ref qg, .int xl, .int xo, .int xs, .int xv, .int xp])), (hm, .inr (1, [.ref qc, .int mw, .int mf, .int mz])), (qc, .inl (cI, 149, .inl mc)), (hi, .inr (2, [.ref qb, .int ic])), (qb, .inl (cI, 24, .inl ib)), (qa, .inl (cI, 16, .inl xa)), (qg, .inl (cI, 4, .inl xg))]) [0, 1, 2, 3, 4, 5, 6] (by decide) rfl
    exact W.iret (v := xa (a1 : Int32).toNatClampNeg) hx hb hr (fun t ht hW => ⟨⟨xa (a1 : Int32).toNatClampNeg, (), rfl, rfl, by rw [ht]; exact hP9, va_K.moved hW.alike hK, hD9⟩, hS.F ht⟩) hS.2.2 d_A_response_23
  have hf := ifn hf hc2
  refine lv_bipush (v := (-2)) hx hb d_A_response_12 (by decide) ?_
  refine lv_goto (tgt := 23) hx hb d_A_response_14 rfl ?_
  have e1_ := lf1 hf
  subst e1_
  have hP9 := hP.sub (ws' := [(ha, .inr (0, [.ref hm, .ref hi, .ref qa, .ref qg, .int xl, .int xo, .int xs, .int xv, .int xp])), (hm, .inr (1, [.ref qc, .int mw, .int mf, .int mz])), (qc, .inl (cI, 149, .inl mc)), (hi, .inr (2, [.ref qb, .int ic])), (qb, .inl (cI, 24, .inl ib)), (qa, .inl (cI, 16, .inl xa)), (qg, .inl (cI, 4, .inl xg))]) [0, 1, 2, 3, 4, 5, 6] rfl
  have hD9 := hD.sub (ws' := [(ha, .inr (0, [.ref hm, .ref hi, .ref qa, .ref qg, .int xl, .int xo, .int xs, .int xv, .int xp])), (hm, .inr (1, [.ref qc, .int mw, .int mf, .int mz])), (qc, .inl (cI, 149, .inl mc)), (hi, .inr (2, [.ref qb, .int ic])), (qb, .inl (cI, 24, .inl ib)), (qa, .inl (cI, 16, .inl xa)), (qg, .inl (cI, 4, .inl xg))]) [0, 1, 2, 3, 4, 5, 6] (by decide) rfl
  exact W.iret (v := (-2)) hx hb hr (fun t ht hW => ⟨⟨(-2), (), rfl, rfl, by rw [ht]; exact hP9, va_K.moved hW.alike hK, hD9⟩, hS.F ht⟩) hS.2.2 d_A_response_23
theorem d_A_tear_0 : decode b_A_tear 0 = .ok (.iload_n 1, 1) := by decide +kernel
theorem d_A_tear_1 : decode b_A_tear 1 = .ok (.ifCond .lt 22, 3) := by decide +kernel
theorem d_A_tear_4 : decode b_A_tear 4 = .ok (.iload_n 1, 1) := by decide +kernel
theorem d_A_tear_5 : decode b_A_tear 5 = .ok (.sipush 1000, 3) := by decide +kernel
theorem d_A_tear_8 : decode b_A_tear 8 = .ok (.if_icmp .gt 15, 3) := by decide +kernel
theorem d_A_tear_11 : decode b_A_tear 11 = .ok (.aload_n 0, 1) := by decide +kernel
theorem d_A_tear_12 : decode b_A_tear 12 = .ok (.getfield 10, 3) := by decide +kernel
theorem d_A_tear_15 : decode b_A_tear 15 = .ok (.invokevirtual 72, 3) := by decide +kernel
theorem d_A_tear_18 : decode b_A_tear 18 = .ok (.bipush 40, 2) := by decide +kernel
theorem d_A_tear_20 : decode b_A_tear 20 = .ok (.if_icmp .lt 5, 3) := by decide +kernel
theorem d_A_tear_23 : decode b_A_tear 23 = .ok (.iconst 0, 1) := by decide +kernel
theorem d_A_tear_24 : decode b_A_tear 24 = .ok (.ireturn, 1) := by decide +kernel
theorem d_A_tear_25 : decode b_A_tear 25 = .ok (.aload_n 0, 1) := by decide +kernel
theorem d_A_tear_26 : decode b_A_tear 26 = .ok (.getfield 10, 3) := by decide +kernel
theorem d_A_tear_29 : decode b_A_tear 29 = .ok (.iload_n 1, 1) := by decide +kernel
theorem d_A_tear_30 : decode b_A_tear 30 = .ok (.invokevirtual 75, 3) := by decide +kernel
theorem d_A_tear_33 : decode b_A_tear 33 = .ok (.iconst 1, 1) := by decide +kernel
theorem d_A_tear_34 : decode b_A_tear 34 = .ok (.ireturn, 1) := by decide +kernel
def fA_tear (σ : StX) (a1 : Int32) : Option (Int32 × StX) := match σ with | (mc, mw, mf, mz, ib, ic, xa, xg, xl, xo, xs, xv, xp) => if a1 < 0 then (some (0, mc, mw, mf, mz, ib, ic, xa, xg, xl, xo, xs, xv, xp)) else (if 1000 < a1 then (some (0, mc, mw, mf, mz, ib, ic, xa, xg, xl, xo, xs, xv, xp)) else (bd1 (fM_failed (mc, mw, mf, mz)) fun r3 => if r3 < 40 then (bd4 (fM_arm (mc, mw, mf, mz) a1) fun mc5 mw5 mf5 mz5 => some (1, mc5, mw5, mf5, mz5, ib, ic, xa, xg, xl, xo, xs, xv, xp)) else (some (0, mc, mw, mf, mz, ib, ic, xa, xg, xl, xo, xs, xv, xp))))
set_option maxHeartbeats 4000000 in
set_option maxRecDepth 100000 in
theorem ctA_tear (l : Launch) (dC : Nat → ClassId) (dI : Nat → Nat → Nat) (cI : ClassId) (ha hm qc hi qb qa qg : Nat) (mc : Nat → Int32) (mw : Int32) (mf : Int32) (mz : Int32) (ib : Nat → Int32) (ic : Int32) (xa : Nat → Int32) (xg : Nat → Int32) (xl : Int32) (xo : Int32) (xs : Int32) (xv : Int32) (xp : Int32) (a1 : Int32) (r : Int32) (mc' : Nat → Int32) (mw' : Int32) (mf' : Int32) (mz' : Int32) (ib' : Nat → Int32) (ic' : Int32) (xa' : Nat → Int32) (xg' : Nat → Int32) (xl' : Int32) (xo' : Int32) (xs' : Int32) (xv' : Int32) (xp' : Int32) (hf : fA_tear (mc, mw, mf, mz, ib, ic, xa, xg, xl, xo, xs, xv, xp) a1 = some (r, mc', mw', mf', mz', ib', ic', xa', xg', xl', xo', xs', xv', xp')) : CtZ l y_A_tear w_A_tear ({ frames := 1, cells := 0, slots := 0, locals := 21 }) (dC, dI) [(cI, .int)] [.ref ha, .int a1] [(ha, .inr (0, [.ref hm, .ref hi, .ref qa, .ref qg, .int xl, .int xo, .int xs, .int xv, .int xp])), (hm, .inr (1, [.ref qc, .int mw, .int mf, .int mz])), (qc, .inl (cI, 149, .inl mc)), (hi, .inr (2, [.ref qb, .int ic])), (qb, .inl (cI, 24, .inl ib)), (qa, .inl (cI, 16, .inl xa)), (qg, .inl (cI, 4, .inl xg))] [(ha, .inr (0, [.ref hm, .ref hi, .ref qa, .ref qg, .int xl', .int xo', .int xs', .int xv', .int xp'])), (hm, .inr (1, [.ref qc, .int mw', .int mf', .int mz'])), (qc, .inl (cI, 149, .inl mc')), (hi, .inr (2, [.ref qb, .int ic'])), (qb, .inl (cI, 24, .inl ib')), (qa, .inl (cI, 16, .inl xa')), (qg, .inl (cI, 4, .inl xg'))] r := by
  intro sz
  refine Met.ofW (cc := b_A_tear) (maxL := 2) (ret := some .boolean) (by decide) rfl ?_
  intro p e s m args below meth c s₁ B hml hv
  obtain ⟨rfl, hsz, hP, hK, hD0⟩ := hv
  have hx := B.exec
  have hb := B.bytes
  have hr := B.returns
  have hts := atoms_spec (ws := w_A_tear) B.pre
  have hown : s.vm.findClass R_A = some m.cls := findClass_of_methodNamed B.named
  have hlocks := B.notSynchronized
  subst hsz
  have hD := hD0.self (sz := s.heap.size)
  generalize hAe : va_A [(ha, .inr (0, [.ref hm, .ref hi, .ref qa, .ref qg, .int xl, .int xo, .int xs, .int xv, .int xp])), (hm, .inr (1, [.ref qc, .int mw, .int mf, .int mz])), (qc, .inl (cI, 149, .inl mc)), (hi, .inr (2, [.ref qb, .int ic])), (qb, .inl (cI, 24, .inl ib)), (qa, .inl (cI, 16, .inl xa)), (qg, .inl (cI, 4, .inl xg))] s.heap.size = A at hD ⊢
  have hA : ∀ q : Nat, s.heap.size ≤ q → A q := fun q h => by rw [← hAe]; exact Or.inr h
  have hS : va_S A s.heap s.heap [] := va_S.rf
  have hP : va_P (dC, dI) vwCl [(ha, .inr (0, [.ref hm, .ref hi, .ref qa, .ref qg, .int xl, .int xo, .int xs, .int xv, .int xp])), (hm, .inr (1, [.ref qc, .int mw, .int mf, .int mz])), (qc, .inl (cI, 149, .inl mc)), (hi, .inr (2, [.ref qb, .int ic])), (qb, .inl (cI, 24, .inl ib)), (qa, .inl (cI, 16, .inl xa)), (qg, .inl (cI, 4, .inl xg))] s.heap := hP
  have hl := lv_entry ([.ref ha, .int a1]) (n := 2) (Nat.le_of_ble_eq_true rfl)
  rw [lg_entry_eq]
  generalize (lg_sl ([.ref ha, .int a1]) ++ List.replicate (2 - (lg_sl ([.ref ha, .int a1])).length) Slot.unset).toArray = ls at hl ⊢
  have hl : lv_has ls 2 [(0, .ref ha), (1, .int a1)] := hl
  have inA : ∀ w ∈ u_ws R_A F_A 9, w ∈ w_A_tear := fun w h => List.mem_cons_of_mem _ (in_A w h)
  have kf10 := hts _ (List.mem_cons_of_mem _ wq91)
  rw [fA_tear] at hf
  refine lv_iload_n hx hb d_A_tear_0 rfl (lv_at hl 1 rfl) ?_
  refine lv_if_lt (tgt := 23) hx hb d_A_tear_1 rfl (fun hc1 => ?_) (fun hc1 => ?_)
  · have hf := ift hf hc1
    refine lv_iconst (v := 0) hx hb d_A_tear_23 (by decide) ?_
    obtain ⟨e1_, e2_, e3_, e4_, e5_, e6_, e7_, e8_, e9_, e10_, e11_, e12_, e13_, e14_⟩ := lf14 hf
    subst e1_; subst e2_; subst e3_; subst e4_; subst e5_; subst e6_; subst e7_; subst e8_; subst e9_; subst e10_; subst e11_; subst e12_; subst e13_; subst e14_
    have hP9 := hP.sub (ws' := [(ha, .inr (0, [.ref hm, .ref hi, .ref qa, .ref qg, .int xl, .int xo, .int xs, .int xv, .int xp])), (hm, .inr (1, [.ref qc, .int mw, .int mf, .int mz])), (qc, .inl (cI, 149, .inl mc)), (hi, .inr (2, [.ref qb, .int ic])), (qb, .inl (cI, 24, .inl ib)), (qa, .inl (cI, 16, .inl xa)), (qg, .inl (cI, 4, .inl xg))]) [0, 1, 2, 3, 4, 5, 6] rfl
    have hD9 := hD.sub (ws' := [(ha, .inr (0, [.ref hm, .ref hi, .ref qa, .ref qg, .int xl, .int xo, .int xs, .int xv, .int xp])), (hm, .inr (1, [.ref qc, .int mw, .int mf, .int mz])), (qc, .inl (cI, 149, .inl mc)), (hi, .inr (2, [.ref qb, .int ic])), (qb, .inl (cI, 24, .inl ib)), (qa, .inl (cI, 16, .inl xa)), (qg, .inl (cI, 4, .inl xg))]) [0, 1, 2, 3, 4, 5, 6] (by decide) rfl
    exact W.zret (v := 0) (ty := .boolean) hx hb hr rfl (fun t ht hW => ⟨⟨0, (), rfl, ⟨rfl, rfl⟩, by rw [ht]; exact hP9, va_K.moved hW.alike hK, hD9⟩, hS.F ht⟩) hS.2.2 d_A_tear_24
  have hf := ifn hf hc1
  refine lv_iload_n hx hb d_A_tear_4 rfl (lv_at hl 1 rfl) ?_
  refine lv_sipush (v := 1000) hx hb d_A_tear_5 (by decide) ?_
  refine lv_icmp_gt (tgt := 23) hx hb d_A_tear_8 rfl (fun hc2 => ?_) (fun hc2 => ?_)
  · have hf := ift hf hc2
    refine lv_iconst (v := 0) hx hb d_A_tear_23 (by decide) ?_
    obtain ⟨e1_, e2_, e3_, e4_, e5_, e6_, e7_, e8_, e9_, e10_, e11_, e12_, e13_, e14_⟩ := lf14 hf
    subst e1_; subst e2_; subst e3_; subst e4_; subst e5_; subst e6_; subst e7_; subst e8_; subst e9_; subst e10_; subst e11_; subst e12_; subst e13_; subst e14_
    have hP9 := hP.sub (ws' := [(ha, .inr (0, [.ref hm, .ref hi, .ref qa, .ref qg, .int xl, .int xo, .int xs, .int xv, .int xp])), (hm, .inr (1, [.ref qc, .int mw, .int mf, .int mz])), (qc, .inl (cI, 149, .inl mc)), (hi, .inr (2, [.ref qb, .int ic])), (qb, .inl (cI, 24, .inl ib)), (qa, .inl (cI, 16, .inl xa)), (qg, .inl (cI, 4, .inl xg))]) [0, 1, 2, 3, 4, 5, 6] rfl
    have hD9 := hD.sub (ws' := [(ha, .inr (0, [.ref hm, .ref hi, .ref qa, .ref qg, .int xl, .int xo, .int xs, .int xv, .int xp])), (hm, .inr (1, [.ref qc, .int mw, .int mf, .int mz])), (qc, .inl (cI, 149, .inl mc)), (hi, .inr (2, [.ref qb, .int ic])), (qb, .inl (cI, 24, .inl ib)), (qa, .inl (cI, 16, .inl xa)), (qg, .inl (cI, 4, .inl xg))]) [0, 1, 2, 3, 4, 5, 6] (by decide) rfl
    exact W.zret (v := 0) (ty := .boolean) hx hb hr rfl (fun t ht hW => ⟨⟨0, (), rfl, ⟨rfl, rfl⟩, by rw [ht]; exact hP9, va_K.moved hW.alike hK, hD9⟩, hS.F ht⟩) hS.2.2 d_A_tear_24
  have hf := ifn hf hc2
  refine lv_aload_n hx hb d_A_tear_11 rfl (lv_at hl 0 rfl) ?_
  refine va_get (D := (dC, dI)) (ci := 0) (v := .ref hm) (C := R_A) (T := F_A) (N := 9) hx hb hts inA hown hK hP 0 rfl rfl 0 (by decide) kf10 (fun _ h9 => h9) rfl d_A_tear_12 ?_
  obtain ⟨r3, hg, hf⟩ := bd1_some hf
  refine xci (wr := [(ha, .inr (0, [.ref hm, .ref hi, .ref qa, .ref qg, .int xl, .int xo, .int xs, .int xv, .int xp])), (hi, .inr (2, [.ref qb, .int ic])), (qb, .inl (cI, 24, .inl ib)), (qa, .inl (cI, 16, .inl xa)), (qg, .inl (cI, 4, .inl xg))]) (ctM_failed l dC dI cI hm qc mc mw mf mz r3 hg) ⟨hx, hb, hml, hown, hts⟩ (cwV (C := R_M) 0 hts (gV wq356 wq357 wq358 wq44 wq359) rfl rfl rfl (by decide +kernel) ⟨Nat.le_of_ble_eq_true rfl, Nat.le_of_ble_eq_true rfl⟩) hK hP hD hS hA [1, 2] [0, 3, 4, 5, 6] rfl rfl rfl rfl (by decide) (ci := 1) (q0 := 1) rfl rfl rfl rfl hl.1 rfl (Nat.le_of_ble_eq_true rfl) d_A_tear_15 ⟨Nat.zero_le _, Nat.zero_le _⟩ (fun H locs hP hD hS => ?_)
  have hP : va_P (dC, dI) vwCl [(ha, .inr (0, [.ref hm, .ref hi, .ref qa, .ref qg, .int xl, .int xo, .int xs, .int xv, .int xp])), (hi, .inr (2, [.ref qb, .int ic])), (qb, .inl (cI, 24, .inl ib)), (qa, .inl (cI, 16, .inl xa)), (qg, .inl (cI, 4, .inl xg)), (hm, .inr (1, [.ref qc, .int mw, .int mf, .int mz])), (qc, .inl (cI, 149, .inl mc))] H := hP
  have hD : va_D A [(ha, .inr (0, [.ref hm, .ref hi, .ref qa, .ref qg, .int xl, .int xo, .int xs, .int xv, .int xp])), (hi, .inr (2, [.ref qb, .int ic])), (qb, .inl (cI, 24, .inl ib)), (qa, .inl (cI, 16, .inl xa)), (qg, .inl (cI, 4, .inl xg)), (hm, .inr (1, [.ref qc, .int mw, .int mf, .int mz])), (qc, .inl (cI, 149, .inl mc))] := hD
  refine lv_bipush (v := 40) hx hb d_A_tear_18 (by decide) ?_
  refine lv_icmp_lt (tgt := 25) hx hb d_A_tear_20 rfl (fun hc4 => ?_) (fun hc4 => ?_)
  · have hf := ift hf hc4
    refine lv_aload_n hx hb d_A_tear_25 rfl (lv_at hl 0 rfl) ?_
    refine va_get (D := (dC, dI)) (ci := 0) (v := .ref hm) (C := R_A) (T := F_A) (N := 9) hx hb hts inA hown hK hP 0 rfl rfl 0 (by decide) kf10 (fun _ h9 => h9) rfl d_A_tear_26 ?_
    refine lv_iload_n hx hb d_A_tear_29 rfl (lv_at hl 1 rfl) ?_
    obtain ⟨mc5, mw5, mf5, mz5, hg, hf⟩ := bd4_some hf
    refine xcv (wr := [(ha, .inr (0, [.ref hm, .ref hi, .ref qa, .ref qg, .int xl, .int xo, .int xs, .int xv, .int xp])), (hi, .inr (2, [.ref qb, .int ic])), (qb, .inl (cI, 24, .inl ib)), (qa, .inl (cI, 16, .inl xa)), (qg, .inl (cI, 4, .inl xg))]) (ctM_arm l dC dI cI hm qc mc mw mf mz a1 mc5 mw5 mf5 mz5 hg) ⟨hx, hb, hml, hown, hts⟩ (cwV (C := R_M) 1 hts (gV wq360 wq361 wq362 wq44 wq363) rfl rfl rfl (by decide +kernel) ⟨Nat.le_of_ble_eq_true rfl, Nat.le_of_ble_eq_true rfl⟩) hK hP hD hS hA [5, 6] [0, 1, 2, 3, 4] rfl rfl rfl rfl (by decide) (ci := 1) (q0 := 5) rfl rfl rfl rfl hl.1 rfl (Nat.le_of_ble_eq_true rfl) d_A_tear_30 ⟨Nat.zero_le _, Nat.zero_le _⟩ (fun H locs hP hD hS => ?_)
    have hP : va_P (dC, dI) vwCl [(ha, .inr (0, [.ref hm, .ref hi, .ref qa, .ref qg, .int xl, .int xo, .int xs, .int xv, .int xp])), (hi, .inr (2, [.ref qb, .int ic])), (qb, .inl (cI, 24, .inl ib)), (qa, .inl (cI, 16, .inl xa)), (qg, .inl (cI, 4, .inl xg)), (hm, .inr (1, [.ref qc, .int mw5, .int mf5, .int mz5])), (qc, .inl (cI, 149, .inl mc5))] H := hP
    have hD : va_D A [(ha, .inr (0, [.ref hm, .ref hi, .ref qa, .ref qg, .int xl, .int xo, .int xs, .int xv, .int xp])), (hi, .inr (2, [.ref qb, .int ic])), (qb, .inl (cI, 24, .inl ib)), (qa, .inl (cI, 16, .inl xa)), (qg, .inl (cI, 4, .inl xg)), (hm, .inr (1, [.ref qc, .int mw5, .int mf5, .int mz5])), (qc, .inl (cI, 149, .inl mc5))] := hD
    refine lv_iconst (v := 1) hx hb d_A_tear_33 (by decide) ?_
    obtain ⟨e1_, e2_, e3_, e4_, e5_, e6_, e7_, e8_, e9_, e10_, e11_, e12_, e13_, e14_⟩ := lf14 hf
    subst e1_; subst e2_; subst e3_; subst e4_; subst e5_; subst e6_; subst e7_; subst e8_; subst e9_; subst e10_; subst e11_; subst e12_; subst e13_; subst e14_
    have hP9 := hP.sub (ws' := [(ha, .inr (0, [.ref hm, .ref hi, .ref qa, .ref qg, .int xl, .int xo, .int xs, .int xv, .int xp])), (hm, .inr (1, [.ref qc, .int mw5, .int mf5, .int mz5])), (qc, .inl (cI, 149, .inl mc5)), (hi, .inr (2, [.ref qb, .int ic])), (qb, .inl (cI, 24, .inl ib)), (qa, .inl (cI, 16, .inl xa)), (qg, .inl (cI, 4, .inl xg))]) [0, 5, 6, 1, 2, 3, 4] rfl
    have hD9 := hD.sub (ws' := [(ha, .inr (0, [.ref hm, .ref hi, .ref qa, .ref qg, .int xl, .int xo, .int xs, .int xv, .int xp])), (hm, .inr (1, [.ref qc, .int mw5, .int mf5, .int mz5])), (qc, .inl (cI, 149, .inl mc5)), (hi, .inr (2, [.ref qb, .int ic])), (qb, .inl (cI, 24, .inl ib)), (qa, .inl (cI, 16, .inl xa)), (qg, .inl (cI, 4, .inl xg))]) [0, 5, 6, 1, 2, 3, 4] (by decide) rfl
    exact W.zret (v := 1) (ty := .boolean) hx hb hr rfl (fun t ht hW => ⟨⟨1, (), rfl, ⟨rfl, rfl⟩, by rw [ht]; exact hP9, va_K.moved hW.alike hK, hD9⟩, hS.F ht⟩) hS.2.2 d_A_tear_34
  have hf := ifn hf hc4
  refine lv_iconst (v := 0) hx hb d_A_tear_23 (by decide) ?_
  obtain ⟨e1_, e2_, e3_, e4_, e5_, e6_, e7_, e8_, e9_, e10_, e11_, e12_, e13_, e14_⟩ := lf14 hf
  subst e1_; subst e2_; subst e3_; subst e4_; subst e5_; subst e6_; subst e7_; subst e8_; subst e9_; subst e10_; subst e11_; subst e12_; subst e13_; subst e14_
  have hP9 := hP.sub (ws' := [(ha, .inr (0, [.ref hm, .ref hi, .ref qa, .ref qg, .int xl, .int xo, .int xs, .int xv, .int xp])), (hm, .inr (1, [.ref qc, .int mw, .int mf, .int mz])), (qc, .inl (cI, 149, .inl mc)), (hi, .inr (2, [.ref qb, .int ic])), (qb, .inl (cI, 24, .inl ib)), (qa, .inl (cI, 16, .inl xa)), (qg, .inl (cI, 4, .inl xg))]) [0, 5, 6, 1, 2, 3, 4] rfl
  have hD9 := hD.sub (ws' := [(ha, .inr (0, [.ref hm, .ref hi, .ref qa, .ref qg, .int xl, .int xo, .int xs, .int xv, .int xp])), (hm, .inr (1, [.ref qc, .int mw, .int mf, .int mz])), (qc, .inl (cI, 149, .inl mc)), (hi, .inr (2, [.ref qb, .int ic])), (qb, .inl (cI, 24, .inl ib)), (qa, .inl (cI, 16, .inl xa)), (qg, .inl (cI, 4, .inl xg))]) [0, 5, 6, 1, 2, 3, 4] (by decide) rfl
  exact W.zret (v := 0) (ty := .boolean) hx hb hr rfl (fun t ht hW => ⟨⟨0, (), rfl, ⟨rfl, rfl⟩, by rw [ht]; exact hP9, va_K.moved hW.alike hK, hD9⟩, hS.F ht⟩) hS.2.2 d_A_tear_24
theorem d_A_switchOff_0 : decode b_A_switchOff 0 = .ok (.aload_n 0, 1) := by decide +kernel
theorem d_A_switchOff_1 : decode b_A_switchOff 1 = .ok (.iconst 0, 1) := by decide +kernel
theorem d_A_switchOff_2 : decode b_A_switchOff 2 = .ok (.putfield 34, 3) := by decide +kernel
theorem d_A_switchOff_5 : decode b_A_switchOff 5 = .ok (.aload_n 0, 1) := by decide +kernel
theorem d_A_switchOff_6 : decode b_A_switchOff 6 = .ok (.bipush (-2), 2) := by decide +kernel
theorem d_A_switchOff_8 : decode b_A_switchOff 8 = .ok (.putfield 30, 3) := by decide +kernel
theorem d_A_switchOff_11 : decode b_A_switchOff 11 = .ok (.aload_n 0, 1) := by decide +kernel
theorem d_A_switchOff_12 : decode b_A_switchOff 12 = .ok (.iconst 0, 1) := by decide +kernel
theorem d_A_switchOff_13 : decode b_A_switchOff 13 = .ok (.putfield 107, 3) := by decide +kernel
theorem d_A_switchOff_16 : decode b_A_switchOff 16 = .ok (.aload_n 0, 1) := by decide +kernel
theorem d_A_switchOff_17 : decode b_A_switchOff 17 = .ok (.iconst 0, 1) := by decide +kernel
theorem d_A_switchOff_18 : decode b_A_switchOff 18 = .ok (.putfield 110, 3) := by decide +kernel
theorem d_A_switchOff_21 : decode b_A_switchOff 21 = .ok (.aload_n 0, 1) := by decide +kernel
theorem d_A_switchOff_22 : decode b_A_switchOff 22 = .ok (.iconst 0, 1) := by decide +kernel
theorem d_A_switchOff_23 : decode b_A_switchOff 23 = .ok (.putfield 42, 3) := by decide +kernel
theorem d_A_switchOff_26 : decode b_A_switchOff 26 = .ok (.aload_n 0, 1) := by decide +kernel
theorem d_A_switchOff_27 : decode b_A_switchOff 27 = .ok (.getfield 19, 3) := by decide +kernel
theorem d_A_switchOff_30 : decode b_A_switchOff 30 = .ok (.invokevirtual 63, 3) := by decide +kernel
theorem d_A_switchOff_33 : decode b_A_switchOff 33 = .ok (.return_, 1) := by decide +kernel
def fA_switchOff (σ : StX) : Option (StX) := match σ with | (mc, mw, mf, mz, ib, ic, xa, xg, xl, xo, xs, xv, xp) => bd2 (fI_clear (ib, ic)) fun ib1 ic1 => some (mc, mw, mf, mz, ib1, ic1, xa, xg, 0, 0, (-2), 0, 0)
set_option maxHeartbeats 4000000 in
set_option maxRecDepth 100000 in
theorem ctA_switchOff (l : Launch) (dC : Nat → ClassId) (dI : Nat → Nat → Nat) (cI : ClassId) (ha hm qc hi qb qa qg : Nat) (mc : Nat → Int32) (mw : Int32) (mf : Int32) (mz : Int32) (ib : Nat → Int32) (ic : Int32) (xa : Nat → Int32) (xg : Nat → Int32) (xl : Int32) (xo : Int32) (xs : Int32) (xv : Int32) (xp : Int32) (mc' : Nat → Int32) (mw' : Int32) (mf' : Int32) (mz' : Int32) (ib' : Nat → Int32) (ic' : Int32) (xa' : Nat → Int32) (xg' : Nat → Int32) (xl' : Int32) (xo' : Int32) (xs' : Int32) (xv' : Int32) (xp' : Int32) (hf : fA_switchOff (mc, mw, mf, mz, ib, ic, xa, xg, xl, xo, xs, xv, xp) = some (mc', mw', mf', mz', ib', ic', xa', xg', xl', xo', xs', xv', xp')) : CtV l y_A_switchOff w_A_switchOff ({ frames := 1, cells := 0, slots := 0, locals := 20 }) (dC, dI) [(cI, .int)] [.ref ha] [(ha, .inr (0, [.ref hm, .ref hi, .ref qa, .ref qg, .int xl, .int xo, .int xs, .int xv, .int xp])), (hm, .inr (1, [.ref qc, .int mw, .int mf, .int mz])), (qc, .inl (cI, 149, .inl mc)), (hi, .inr (2, [.ref qb, .int ic])), (qb, .inl (cI, 24, .inl ib)), (qa, .inl (cI, 16, .inl xa)), (qg, .inl (cI, 4, .inl xg))] [(ha, .inr (0, [.ref hm, .ref hi, .ref qa, .ref qg, .int xl', .int xo', .int xs', .int xv', .int xp'])), (hm, .inr (1, [.ref qc, .int mw', .int mf', .int mz'])), (qc, .inl (cI, 149, .inl mc')), (hi, .inr (2, [.ref qb, .int ic'])), (qb, .inl (cI, 24, .inl ib')), (qa, .inl (cI, 16, .inl xa')), (qg, .inl (cI, 4, .inl xg'))] := by
  intro sz
  refine Met.ofW (cc := b_A_switchOff) (maxL := 1) (ret := none) (by decide) rfl ?_
  intro p e s m args below meth c s₁ B hml hv
  obtain ⟨rfl, hsz, hP, hK, hD0⟩ := hv
  have hx := B.exec
  have hb := B.bytes
  have hr := B.returns
  have hts := atoms_spec (ws := w_A_switchOff) B.pre
  have hown : s.vm.findClass R_A = some m.cls := findClass_of_methodNamed B.named
  have hlocks := B.notSynchronized
  subst hsz
  have hD := hD0.self (sz := s.heap.size)
  generalize hAe : va_A [(ha, .inr (0, [.ref hm, .ref hi, .ref qa, .ref qg, .int xl, .int xo, .int xs, .int xv, .int xp])), (hm, .inr (1, [.ref qc, .int mw, .int mf, .int mz])), (qc, .inl (cI, 149, .inl mc)), (hi, .inr (2, [.ref qb, .int ic])), (qb, .inl (cI, 24, .inl ib)), (qa, .inl (cI, 16, .inl xa)), (qg, .inl (cI, 4, .inl xg))] s.heap.size = A at hD ⊢
  have hA : ∀ q : Nat, s.heap.size ≤ q → A q := fun q h => by rw [← hAe]; exact Or.inr h
  have hS : va_S A s.heap s.heap [] := va_S.rf
  have hP : va_P (dC, dI) vwCl [(ha, .inr (0, [.ref hm, .ref hi, .ref qa, .ref qg, .int xl, .int xo, .int xs, .int xv, .int xp])), (hm, .inr (1, [.ref qc, .int mw, .int mf, .int mz])), (qc, .inl (cI, 149, .inl mc)), (hi, .inr (2, [.ref qb, .int ic])), (qb, .inl (cI, 24, .inl ib)), (qa, .inl (cI, 16, .inl xa)), (qg, .inl (cI, 4, .inl xg))] s.heap := hP
  have hl := lv_entry ([.ref ha]) (n := 1) (Nat.le_of_ble_eq_true rfl)
  rw [lg_entry_eq]
  generalize (lg_sl ([.ref ha]) ++ List.replicate (1 - (lg_sl ([.ref ha])).length) Slot.unset).toArray = ls at hl ⊢
  have hl : lv_has ls 1 [(0, .ref ha)] := hl
  have inA : ∀ w ∈ u_ws R_A F_A 9, w ∈ w_A_switchOff := fun w h => List.mem_cons_of_mem _ (in_A w h)
  have kf107 := hts _ (List.mem_cons_of_mem _ wq98)
  have kf110 := hts _ (List.mem_cons_of_mem _ wq99)
  have kf19 := hts _ (List.mem_cons_of_mem _ wq92)
  have kf30 := hts _ (List.mem_cons_of_mem _ wq97)
  have kf34 := hts _ (List.mem_cons_of_mem _ wq96)
  have kf42 := hts _ (List.mem_cons_of_mem _ wq95)
  rw [fA_switchOff] at hf
  refine lv_aload_n hx hb d_A_switchOff_0 rfl (lv_at hl 0 rfl) ?_
  refine lv_iconst (v := 0) hx hb d_A_switchOff_1 (by decide) ?_
  refine va_put (D := (dC, dI)) (ci := 0) (v := .int 0) (ty := .boolean) (C := R_A) (T := F_A) (N := 9) hx hb hts inA t_A t_A_ok n_A hown hK hP hD hS 0 rfl rfl 5 (by decide) kf34 (fun _ h9 => h9) rfl (by decide +kernel) rfl rfl (Nat.le_of_ble_eq_true rfl) d_A_switchOff_2 (fun H locs hP hD hS => ?_)
  have hP : va_P (dC, dI) vwCl [(ha, .inr (0, [.ref hm, .ref hi, .ref qa, .ref qg, .int xl, .int 0, .int xs, .int xv, .int xp])), (hm, .inr (1, [.ref qc, .int mw, .int mf, .int mz])), (qc, .inl (cI, 149, .inl mc)), (hi, .inr (2, [.ref qb, .int ic])), (qb, .inl (cI, 24, .inl ib)), (qa, .inl (cI, 16, .inl xa)), (qg, .inl (cI, 4, .inl xg))] H := hP
  have hD : va_D A [(ha, .inr (0, [.ref hm, .ref hi, .ref qa, .ref qg, .int xl, .int 0, .int xs, .int xv, .int xp])), (hm, .inr (1, [.ref qc, .int mw, .int mf, .int mz])), (qc, .inl (cI, 149, .inl mc)), (hi, .inr (2, [.ref qb, .int ic])), (qb, .inl (cI, 24, .inl ib)), (qa, .inl (cI, 16, .inl xa)), (qg, .inl (cI, 4, .inl xg))] := hD
  refine lv_aload_n hx hb d_A_switchOff_5 rfl (lv_at hl 0 rfl) ?_
  refine lv_bipush (v := (-2)) hx hb d_A_switchOff_6 (by decide) ?_
  refine va_put (D := (dC, dI)) (ci := 0) (v := .int (-2)) (ty := .int) (C := R_A) (T := F_A) (N := 9) hx hb hts inA t_A t_A_ok n_A hown hK hP hD hS 0 rfl rfl 6 (by decide) kf30 (fun _ h9 => h9) rfl (by decide +kernel) rfl rfl (Nat.le_of_ble_eq_true rfl) d_A_switchOff_8 (fun H locs hP hD hS => ?_)
  have hP : va_P (dC, dI) vwCl [(ha, .inr (0, [.ref hm, .ref hi, .ref qa, .ref qg, .int xl, .int 0, .int (-2), .int xv, .int xp])), (hm, .inr (1, [.ref qc, .int mw, .int mf, .int mz])), (qc, .inl (cI, 149, .inl mc)), (hi, .inr (2, [.ref qb, .int ic])), (qb, .inl (cI, 24, .inl ib)), (qa, .inl (cI, 16, .inl xa)), (qg, .inl (cI, 4, .inl xg))] H := hP
  have hD : va_D A [(ha, .inr (0, [.ref hm, .ref hi, .ref qa, .ref qg, .int xl, .int 0, .int (-2), .int xv, .int xp])), (hm, .inr (1, [.ref qc, .int mw, .int mf, .int mz])), (qc, .inl (cI, 149, .inl mc)), (hi, .inr (2, [.ref qb, .int ic])), (qb, .inl (cI, 24, .inl ib)), (qa, .inl (cI, 16, .inl xa)), (qg, .inl (cI, 4, .inl xg))] := hD
  refine lv_aload_n hx hb d_A_switchOff_11 rfl (lv_at hl 0 rfl) ?_
  refine lv_iconst (v := 0) hx hb d_A_switchOff_12 (by decide) ?_
  refine va_put (D := (dC, dI)) (ci := 0) (v := .int 0) (ty := .boolean) (C := R_A) (T := F_A) (N := 9) hx hb hts inA t_A t_A_ok n_A hown hK hP hD hS 0 rfl rfl 7 (by decide) kf107 (fun _ h9 => h9) rfl (by decide +kernel) rfl rfl (Nat.le_of_ble_eq_true rfl) d_A_switchOff_13 (fun H locs hP hD hS => ?_)
  have hP : va_P (dC, dI) vwCl [(ha, .inr (0, [.ref hm, .ref hi, .ref qa, .ref qg, .int xl, .int 0, .int (-2), .int 0, .int xp])), (hm, .inr (1, [.ref qc, .int mw, .int mf, .int mz])), (qc, .inl (cI, 149, .inl mc)), (hi, .inr (2, [.ref qb, .int ic])), (qb, .inl (cI, 24, .inl ib)), (qa, .inl (cI, 16, .inl xa)), (qg, .inl (cI, 4, .inl xg))] H := hP
  have hD : va_D A [(ha, .inr (0, [.ref hm, .ref hi, .ref qa, .ref qg, .int xl, .int 0, .int (-2), .int 0, .int xp])), (hm, .inr (1, [.ref qc, .int mw, .int mf, .int mz])), (qc, .inl (cI, 149, .inl mc)), (hi, .inr (2, [.ref qb, .int ic])), (qb, .inl (cI, 24, .inl ib)), (qa, .inl (cI, 16, .inl xa)), (qg, .inl (cI, 4, .inl xg))] := hD
  refine lv_aload_n hx hb d_A_switchOff_16 rfl (lv_at hl 0 rfl) ?_
  refine lv_iconst (v := 0) hx hb d_A_switchOff_17 (by decide) ?_
  refine va_put (D := (dC, dI)) (ci := 0) (v := .int 0) (ty := .boolean) (C := R_A) (T := F_A) (N := 9) hx hb hts inA t_A t_A_ok n_A hown hK hP hD hS 0 rfl rfl 8 (by decide) kf110 (fun _ h9 => h9) rfl (by decide +kernel) rfl rfl (Nat.le_of_ble_eq_true rfl) d_A_switchOff_18 (fun H locs hP hD hS => ?_)
  have hP : va_P (dC, dI) vwCl [(ha, .inr (0, [.ref hm, .ref hi, .ref qa, .ref qg, .int xl, .int 0, .int (-2), .int 0, .int 0])), (hm, .inr (1, [.ref qc, .int mw, .int mf, .int mz])), (qc, .inl (cI, 149, .inl mc)), (hi, .inr (2, [.ref qb, .int ic])), (qb, .inl (cI, 24, .inl ib)), (qa, .inl (cI, 16, .inl xa)), (qg, .inl (cI, 4, .inl xg))] H := hP
  have hD : va_D A [(ha, .inr (0, [.ref hm, .ref hi, .ref qa, .ref qg, .int xl, .int 0, .int (-2), .int 0, .int 0])), (hm, .inr (1, [.ref qc, .int mw, .int mf, .int mz])), (qc, .inl (cI, 149, .inl mc)), (hi, .inr (2, [.ref qb, .int ic])), (qb, .inl (cI, 24, .inl ib)), (qa, .inl (cI, 16, .inl xa)), (qg, .inl (cI, 4, .inl xg))] := hD
  refine lv_aload_n hx hb d_A_switchOff_21 rfl (lv_at hl 0 rfl) ?_
  refine lv_iconst (v := 0) hx hb d_A_switchOff_22 (by decide) ?_
  refine va_put (D := (dC, dI)) (ci := 0) (v := .int 0) (ty := .int) (C := R_A) (T := F_A) (N := 9) hx hb hts inA t_A t_A_ok n_A hown hK hP hD hS 0 rfl rfl 4 (by decide) kf42 (fun _ h9 => h9) rfl (by decide +kernel) rfl rfl (Nat.le_of_ble_eq_true rfl) d_A_switchOff_23 (fun H locs hP hD hS => ?_)
  have hP : va_P (dC, dI) vwCl [(ha, .inr (0, [.ref hm, .ref hi, .ref qa, .ref qg, .int 0, .int 0, .int (-2), .int 0, .int 0])), (hm, .inr (1, [.ref qc, .int mw, .int mf, .int mz])), (qc, .inl (cI, 149, .inl mc)), (hi, .inr (2, [.ref qb, .int ic])), (qb, .inl (cI, 24, .inl ib)), (qa, .inl (cI, 16, .inl xa)), (qg, .inl (cI, 4, .inl xg))] H := hP
  have hD : va_D A [(ha, .inr (0, [.ref hm, .ref hi, .ref qa, .ref qg, .int 0, .int 0, .int (-2), .int 0, .int 0])), (hm, .inr (1, [.ref qc, .int mw, .int mf, .int mz])), (qc, .inl (cI, 149, .inl mc)), (hi, .inr (2, [.ref qb, .int ic])), (qb, .inl (cI, 24, .inl ib)), (qa, .inl (cI, 16, .inl xa)), (qg, .inl (cI, 4, .inl xg))] := hD
  refine lv_aload_n hx hb d_A_switchOff_26 rfl (lv_at hl 0 rfl) ?_
  refine va_get (D := (dC, dI)) (ci := 0) (v := .ref hi) (C := R_A) (T := F_A) (N := 9) hx hb hts inA hown hK hP 0 rfl rfl 1 (by decide) kf19 (fun _ h9 => h9) rfl d_A_switchOff_27 ?_
  obtain ⟨ib1, ic1, hg, hf⟩ := bd2_some hf
  refine xcv (wr := [(ha, .inr (0, [.ref hm, .ref hi, .ref qa, .ref qg, .int 0, .int 0, .int (-2), .int 0, .int 0])), (hm, .inr (1, [.ref qc, .int mw, .int mf, .int mz])), (qc, .inl (cI, 149, .inl mc)), (qa, .inl (cI, 16, .inl xa)), (qg, .inl (cI, 4, .inl xg))]) (ctI_clear l dC dI cI hi qb ib ic ib1 ic1 hg) ⟨hx, hb, hml, hown, hts⟩ (cwV (C := R_I) 0 hts (gV wq328 wq329 wq330 wq45 wq331) rfl rfl rfl (by decide +kernel) ⟨Nat.le_of_ble_eq_true rfl, Nat.le_of_ble_eq_true rfl⟩) hK hP hD hS hA [3, 4] [0, 1, 2, 5, 6] rfl rfl rfl rfl (by decide) (ci := 2) (q0 := 3) rfl rfl rfl rfl hl.1 rfl (Nat.le_of_ble_eq_true rfl) d_A_switchOff_30 ⟨Nat.zero_le _, Nat.zero_le _⟩ (fun H locs hP hD hS => ?_)
  have hP : va_P (dC, dI) vwCl [(ha, .inr (0, [.ref hm, .ref hi, .ref qa, .ref qg, .int 0, .int 0, .int (-2), .int 0, .int 0])), (hm, .inr (1, [.ref qc, .int mw, .int mf, .int mz])), (qc, .inl (cI, 149, .inl mc)), (qa, .inl (cI, 16, .inl xa)), (qg, .inl (cI, 4, .inl xg)), (hi, .inr (2, [.ref qb, .int ic1])), (qb, .inl (cI, 24, .inl ib1))] H := hP
  have hD : va_D A [(ha, .inr (0, [.ref hm, .ref hi, .ref qa, .ref qg, .int 0, .int 0, .int (-2), .int 0, .int 0])), (hm, .inr (1, [.ref qc, .int mw, .int mf, .int mz])), (qc, .inl (cI, 149, .inl mc)), (qa, .inl (cI, 16, .inl xa)), (qg, .inl (cI, 4, .inl xg)), (hi, .inr (2, [.ref qb, .int ic1])), (qb, .inl (cI, 24, .inl ib1))] := hD
  obtain ⟨e1_, e2_, e3_, e4_, e5_, e6_, e7_, e8_, e9_, e10_, e11_, e12_, e13_⟩ := lf13 hf
  subst e1_; subst e2_; subst e3_; subst e4_; subst e5_; subst e6_; subst e7_; subst e8_; subst e9_; subst e10_; subst e11_; subst e12_; subst e13_
  have hP9 := hP.sub (ws' := [(ha, .inr (0, [.ref hm, .ref hi, .ref qa, .ref qg, .int 0, .int 0, .int (-2), .int 0, .int 0])), (hm, .inr (1, [.ref qc, .int mw, .int mf, .int mz])), (qc, .inl (cI, 149, .inl mc)), (hi, .inr (2, [.ref qb, .int ic1])), (qb, .inl (cI, 24, .inl ib1)), (qa, .inl (cI, 16, .inl xa)), (qg, .inl (cI, 4, .inl xg))]) [0, 1, 2, 5, 6, 3, 4] rfl
  have hD9 := hD.sub (ws' := [(ha, .inr (0, [.ref hm, .ref hi, .ref qa, .ref qg, .int 0, .int 0, .int (-2), .int 0, .int 0])), (hm, .inr (1, [.ref qc, .int mw, .int mf, .int mz])), (qc, .inl (cI, 149, .inl mc)), (hi, .inr (2, [.ref qb, .int ic1])), (qb, .inl (cI, 24, .inl ib1)), (qa, .inl (cI, 16, .inl xa)), (qg, .inl (cI, 4, .inl xg))]) [0, 1, 2, 5, 6, 3, 4] (by decide) rfl
  exact W.vret hx hb hr (fun t ht hW => ⟨⟨(), rfl, trivial, by rw [ht]; exact hP9, va_K.moved hW.alike hK, hD9⟩, hS.F ht⟩) hS.2.2 d_A_switchOff_33
theorem d_A_reset_0 : decode b_A_reset 0 = .ok (.aload_n 0, 1) := by decide +kernel
theorem d_A_reset_1 : decode b_A_reset 1 = .ok (.invokevirtual 66, 3) := by decide +kernel
theorem d_A_reset_4 : decode b_A_reset 4 = .ok (.aload_n 0, 1) := by decide +kernel
theorem d_A_reset_5 : decode b_A_reset 5 = .ok (.iconst 1, 1) := by decide +kernel
theorem d_A_reset_6 : decode b_A_reset 6 = .ok (.putfield 34, 3) := by decide +kernel
theorem d_A_reset_9 : decode b_A_reset 9 = .ok (.aload_n 0, 1) := by decide +kernel
theorem d_A_reset_10 : decode b_A_reset 10 = .ok (.getfield 10, 3) := by decide +kernel
theorem d_A_reset_13 : decode b_A_reset 13 = .ok (.invokevirtual 79, 3) := by decide +kernel
theorem d_A_reset_16 : decode b_A_reset 16 = .ok (.istore_n 1, 1) := by decide +kernel
theorem d_A_reset_17 : decode b_A_reset 17 = .ok (.aload_n 0, 1) := by decide +kernel
theorem d_A_reset_18 : decode b_A_reset 18 = .ok (.getfield 10, 3) := by decide +kernel
theorem d_A_reset_21 : decode b_A_reset 21 = .ok (.invokevirtual 82, 3) := by decide +kernel
theorem d_A_reset_24 : decode b_A_reset 24 = .ok (.ifCond .ne 9, 3) := by decide +kernel
theorem d_A_reset_27 : decode b_A_reset 27 = .ok (.aload_n 0, 1) := by decide +kernel
theorem d_A_reset_28 : decode b_A_reset 28 = .ok (.invokevirtual 66, 3) := by decide +kernel
theorem d_A_reset_31 : decode b_A_reset 31 = .ok (.iconst (-1), 1) := by decide +kernel
theorem d_A_reset_32 : decode b_A_reset 32 = .ok (.ireturn, 1) := by decide +kernel
theorem d_A_reset_33 : decode b_A_reset 33 = .ok (.iload_n 1, 1) := by decide +kernel
theorem d_A_reset_34 : decode b_A_reset 34 = .ok (.ireturn, 1) := by decide +kernel
def fA_reset (σ : StX) : Option (Int32 × StX) := match σ with | (mc, mw, mf, mz, ib, ic, xa, xg, xl, xo, xs, xv, xp) => bd13 (fA_switchOff (mc, mw, mf, mz, ib, ic, xa, xg, xl, xo, xs, xv, xp)) fun mc1 mw1 mf1 mz1 ib1 ic1 xa1 xg1 xl1 xo1 xs1 xv1 xp1 => bd1 (fM_count (mc1, mw1, mf1, mz1)) fun r2 => bd5 (fM_undo (mc1, mw1, mf1, mz1)) fun r3 mc3 mw3 mf3 mz3 => if r3 = 0 then (bd13 (fA_switchOff (mc3, mw3, mf3, mz3, ib1, ic1, xa1, xg1, xl1, 1, xs1, xv1, xp1)) fun mc5 mw5 mf5 mz5 ib5 ic5 xa5 xg5 xl5 xo5 xs5 xv5 xp5 => some ((-1), mc5, mw5, mf5, mz5, ib5, ic5, xa5, xg5, xl5, xo5, xs5, xv5, xp5)) else (some (r2, mc3, mw3, mf3, mz3, ib1, ic1, xa1, xg1, xl1, 1, xs1, xv1, xp1))
set_option maxHeartbeats 4000000 in
set_option maxRecDepth 100000 in
theorem ctA_reset (l : Launch) (dC : Nat → ClassId) (dI : Nat → Nat → Nat) (cI : ClassId) (ha hm qc hi qb qa qg : Nat) (mc : Nat → Int32) (mw : Int32) (mf : Int32) (mz : Int32) (ib : Nat → Int32) (ic : Int32) (xa : Nat → Int32) (xg : Nat → Int32) (xl : Int32) (xo : Int32) (xs : Int32) (xv : Int32) (xp : Int32) (r : Int32) (mc' : Nat → Int32) (mw' : Int32) (mf' : Int32) (mz' : Int32) (ib' : Nat → Int32) (ic' : Int32) (xa' : Nat → Int32) (xg' : Nat → Int32) (xl' : Int32) (xo' : Int32) (xs' : Int32) (xv' : Int32) (xp' : Int32) (hf : fA_reset (mc, mw, mf, mz, ib, ic, xa, xg, xl, xo, xs, xv, xp) = some (r, mc', mw', mf', mz', ib', ic', xa', xg', xl', xo', xs', xv', xp')) : CtI l y_A_reset w_A_reset ({ frames := 3, cells := 0, slots := 0, locals := 64 }) (dC, dI) [(cI, .int)] [.ref ha] [(ha, .inr (0, [.ref hm, .ref hi, .ref qa, .ref qg, .int xl, .int xo, .int xs, .int xv, .int xp])), (hm, .inr (1, [.ref qc, .int mw, .int mf, .int mz])), (qc, .inl (cI, 149, .inl mc)), (hi, .inr (2, [.ref qb, .int ic])), (qb, .inl (cI, 24, .inl ib)), (qa, .inl (cI, 16, .inl xa)), (qg, .inl (cI, 4, .inl xg))] [(ha, .inr (0, [.ref hm, .ref hi, .ref qa, .ref qg, .int xl', .int xo', .int xs', .int xv', .int xp'])), (hm, .inr (1, [.ref qc, .int mw', .int mf', .int mz'])), (qc, .inl (cI, 149, .inl mc')), (hi, .inr (2, [.ref qb, .int ic'])), (qb, .inl (cI, 24, .inl ib')), (qa, .inl (cI, 16, .inl xa')), (qg, .inl (cI, 4, .inl xg'))] r := by
  intro sz
  refine Met.ofW (cc := b_A_reset) (maxL := 2) (ret := some .int) (by decide) rfl ?_
  intro p e s m args below meth c s₁ B hml hv
  obtain ⟨rfl, hsz, hP, hK, hD0⟩ := hv
  have hx := B.exec
  have hb := B.bytes
  have hr := B.returns
  have hts := atoms_spec (ws := w_A_reset) B.pre
  have hown : s.vm.findClass R_A = some m.cls := findClass_of_methodNamed B.named
  have hlocks := B.notSynchronized
  subst hsz
  have hD := hD0.self (sz := s.heap.size)
  generalize hAe : va_A [(ha, .inr (0, [.ref hm, .ref hi, .ref qa, .ref qg, .int xl, .int xo, .int xs, .int xv, .int xp])), (hm, .inr (1, [.ref qc, .int mw, .int mf, .int mz])), (qc, .inl (cI, 149, .inl mc)), (hi, .inr (2, [.ref qb, .int ic])), (qb, .inl (cI, 24, .inl ib)), (qa, .inl (cI, 16, .inl xa)), (qg, .inl (cI, 4, .inl xg))] s.heap.size = A at hD ⊢
  have hA : ∀ q : Nat, s.heap.size ≤ q → A q := fun q h => by rw [← hAe]; exact Or.inr h
  have hS : va_S A s.heap s.heap [] := va_S.rf
  have hP : va_P (dC, dI) vwCl [(ha, .inr (0, [.ref hm, .ref hi, .ref qa, .ref qg, .int xl, .int xo, .int xs, .int xv, .int xp])), (hm, .inr (1, [.ref qc, .int mw, .int mf, .int mz])), (qc, .inl (cI, 149, .inl mc)), (hi, .inr (2, [.ref qb, .int ic])), (qb, .inl (cI, 24, .inl ib)), (qa, .inl (cI, 16, .inl xa)), (qg, .inl (cI, 4, .inl xg))] s.heap := hP
  have hl := lv_entry ([.ref ha]) (n := 2) (Nat.le_of_ble_eq_true rfl)
  rw [lg_entry_eq]
  generalize (lg_sl ([.ref ha]) ++ List.replicate (2 - (lg_sl ([.ref ha])).length) Slot.unset).toArray = ls at hl ⊢
  have hl : lv_has ls 2 [(0, .ref ha)] := hl
  have inA : ∀ w ∈ u_ws R_A F_A 9, w ∈ w_A_reset := fun w h => List.mem_cons_of_mem _ (in_A w h)
  have kf10 := hts _ (List.mem_cons_of_mem _ wq91)
  have kf34 := hts _ (List.mem_cons_of_mem _ wq96)
  rw [fA_reset] at hf
  refine lv_aload_n hx hb d_A_reset_0 rfl (lv_at hl 0 rfl) ?_
  obtain ⟨mc1, mw1, mf1, mz1, ib1, ic1, xa1, xg1, xl1, xo1, xs1, xv1, xp1, hg, hf⟩ := bd13_some hf
  refine xcv (wr := []) (ctA_switchOff l dC dI cI ha hm qc hi qb qa qg mc mw mf mz ib ic xa xg xl xo xs xv xp mc1 mw1 mf1 mz1 ib1 ic1 xa1 xg1 xl1 xo1 xs1 xv1 xp1 hg) ⟨hx, hb, hml, hown, hts⟩ (cwV (C := R_A) 0 hts (gV wq332 wq334 wq21 wq43 wq335) rfl rfl rfl (by decide +kernel) ⟨Nat.le_of_ble_eq_true rfl, Nat.le_of_ble_eq_true rfl⟩) hK hP hD hS hA [0, 1, 2, 3, 4, 5, 6] [] rfl rfl rfl rfl (by decide) (ci := 0) (q0 := 0) rfl rfl rfl rfl hl.1 rfl (Nat.le_of_ble_eq_true rfl) d_A_reset_1 ⟨Nat.zero_le _, Nat.zero_le _⟩ (fun H locs hP hD hS => ?_)
  have hP : va_P (dC, dI) vwCl [(ha, .inr (0, [.ref hm, .ref hi, .ref qa, .ref qg, .int xl1, .int xo1, .int xs1, .int xv1, .int xp1])), (hm, .inr (1, [.ref qc, .int mw1, .int mf1, .int mz1])), (qc, .inl (cI, 149, .inl mc1)), (hi, .inr (2, [.ref qb, .int ic1])), (qb, .inl (cI, 24, .inl ib1)), (qa, .inl (cI, 16, .inl xa1)), (qg, .inl (cI, 4, .inl xg1))] H := hP
  have hD : va_D A [(ha, .inr (0, [.ref hm, .ref hi, .ref qa, .ref qg, .int xl1, .int xo1, .int xs1, .int xv1, .int xp1])), (hm, .inr (1, [.ref qc, .int mw1, .int mf1, .int mz1])), (qc, .inl (cI, 149, .inl mc1)), (hi, .inr (2, [.ref qb, .int ic1])), (qb, .inl (cI, 24, .inl ib1)), (qa, .inl (cI, 16, .inl xa1)), (qg, .inl (cI, 4, .inl xg1))] := hD
  refine lv_aload_n hx hb d_A_reset_4 rfl (lv_at hl 0 rfl) ?_
  refine lv_iconst (v := 1) hx hb d_A_reset_5 (by decide) ?_
  refine va_put (D := (dC, dI)) (ci := 0) (v := .int 1) (ty := .boolean) (C := R_A) (T := F_A) (N := 9) hx hb hts inA t_A t_A_ok n_A hown hK hP hD hS 0 rfl rfl 5 (by decide) kf34 (fun _ h9 => h9) rfl (by decide +kernel) rfl rfl (Nat.le_of_ble_eq_true rfl) d_A_reset_6 (fun H locs hP hD hS => ?_)
  have hP : va_P (dC, dI) vwCl [(ha, .inr (0, [.ref hm, .ref hi, .ref qa, .ref qg, .int xl1, .int 1, .int xs1, .int xv1, .int xp1])), (hm, .inr (1, [.ref qc, .int mw1, .int mf1, .int mz1])), (qc, .inl (cI, 149, .inl mc1)), (hi, .inr (2, [.ref qb, .int ic1])), (qb, .inl (cI, 24, .inl ib1)), (qa, .inl (cI, 16, .inl xa1)), (qg, .inl (cI, 4, .inl xg1))] H := hP
  have hD : va_D A [(ha, .inr (0, [.ref hm, .ref hi, .ref qa, .ref qg, .int xl1, .int 1, .int xs1, .int xv1, .int xp1])), (hm, .inr (1, [.ref qc, .int mw1, .int mf1, .int mz1])), (qc, .inl (cI, 149, .inl mc1)), (hi, .inr (2, [.ref qb, .int ic1])), (qb, .inl (cI, 24, .inl ib1)), (qa, .inl (cI, 16, .inl xa1)), (qg, .inl (cI, 4, .inl xg1))] := hD
  refine lv_aload_n hx hb d_A_reset_9 rfl (lv_at hl 0 rfl) ?_
  refine va_get (D := (dC, dI)) (ci := 0) (v := .ref hm) (C := R_A) (T := F_A) (N := 9) hx hb hts inA hown hK hP 0 rfl rfl 0 (by decide) kf10 (fun _ h9 => h9) rfl d_A_reset_10 ?_
  obtain ⟨r2, hg, hf⟩ := bd1_some hf
  refine xci (wr := [(ha, .inr (0, [.ref hm, .ref hi, .ref qa, .ref qg, .int xl1, .int 1, .int xs1, .int xv1, .int xp1])), (hi, .inr (2, [.ref qb, .int ic1])), (qb, .inl (cI, 24, .inl ib1)), (qa, .inl (cI, 16, .inl xa1)), (qg, .inl (cI, 4, .inl xg1))]) (ctM_count l dC dI cI hm qc mc1 mw1 mf1 mz1 r2 hg) ⟨hx, hb, hml, hown, hts⟩ (cwV (C := R_M) 0 hts (gV wq257 wq211 wq212 wq44 wq213) rfl rfl rfl (by decide +kernel) ⟨Nat.le_of_ble_eq_true rfl, Nat.le_of_ble_eq_true rfl⟩) hK hP hD hS hA [1, 2] [0, 3, 4, 5, 6] rfl rfl rfl rfl (by decide) (ci := 1) (q0 := 1) rfl rfl rfl rfl hl.1 rfl (Nat.le_of_ble_eq_true rfl) d_A_reset_13 ⟨Nat.zero_le _, Nat.zero_le _⟩ (fun H locs hP hD hS => ?_)
  have hP : va_P (dC, dI) vwCl [(ha, .inr (0, [.ref hm, .ref hi, .ref qa, .ref qg, .int xl1, .int 1, .int xs1, .int xv1, .int xp1])), (hi, .inr (2, [.ref qb, .int ic1])), (qb, .inl (cI, 24, .inl ib1)), (qa, .inl (cI, 16, .inl xa1)), (qg, .inl (cI, 4, .inl xg1)), (hm, .inr (1, [.ref qc, .int mw1, .int mf1, .int mz1])), (qc, .inl (cI, 149, .inl mc1))] H := hP
  have hD : va_D A [(ha, .inr (0, [.ref hm, .ref hi, .ref qa, .ref qg, .int xl1, .int 1, .int xs1, .int xv1, .int xp1])), (hi, .inr (2, [.ref qb, .int ic1])), (qb, .inl (cI, 24, .inl ib1)), (qa, .inl (cI, 16, .inl xa1)), (qg, .inl (cI, 4, .inl xg1)), (hm, .inr (1, [.ref qc, .int mw1, .int mf1, .int mz1])), (qc, .inl (cI, 149, .inl mc1))] := hD
  refine lv_istore_n hx hb d_A_reset_16 rfl hl (by decide) rfl (fun ls hl => ?_)
  have hl : lv_has ls 2 [(1, .int r2), (0, .ref ha)] := hl
  refine lv_aload_n hx hb d_A_reset_17 rfl (lv_at hl 1 rfl) ?_
  refine va_get (D := (dC, dI)) (ci := 0) (v := .ref hm) (C := R_A) (T := F_A) (N := 9) hx hb hts inA hown hK hP 0 rfl rfl 0 (by decide) kf10 (fun _ h9 => h9) rfl d_A_reset_18 ?_
  obtain ⟨r3, mc3, mw3, mf3, mz3, hg, hf⟩ := bd5_some hf
  refine xcz (wr := [(ha, .inr (0, [.ref hm, .ref hi, .ref qa, .ref qg, .int xl1, .int 1, .int xs1, .int xv1, .int xp1])), (hi, .inr (2, [.ref qb, .int ic1])), (qb, .inl (cI, 24, .inl ib1)), (qa, .inl (cI, 16, .inl xa1)), (qg, .inl (cI, 4, .inl xg1))]) (ctM_undo l dC dI cI hm qc mc1 mw1 mf1 mz1 r3 mc3 mw3 mf3 mz3 hg) ⟨hx, hb, hml, hown, hts⟩ (cwV (C := R_M) 0 hts (gV wq206 wq207 wq208 wq44 wq209) rfl rfl rfl (by decide +kernel) ⟨Nat.le_of_ble_eq_true rfl, Nat.le_of_ble_eq_true rfl⟩) hK hP hD hS hA [5, 6] [0, 1, 2, 3, 4] rfl rfl rfl rfl (by decide) (ci := 1) (q0 := 5) rfl rfl rfl rfl hl.1 rfl (Nat.le_of_ble_eq_true rfl) d_A_reset_21 ⟨Nat.zero_le _, Nat.zero_le _⟩ (fun H locs hn3 hP hD hS => ?_)
  have hP : va_P (dC, dI) vwCl [(ha, .inr (0, [.ref hm, .ref hi, .ref qa, .ref qg, .int xl1, .int 1, .int xs1, .int xv1, .int xp1])), (hi, .inr (2, [.ref qb, .int ic1])), (qb, .inl (cI, 24, .inl ib1)), (qa, .inl (cI, 16, .inl xa1)), (qg, .inl (cI, 4, .inl xg1)), (hm, .inr (1, [.ref qc, .int mw3, .int mf3, .int mz3])), (qc, .inl (cI, 149, .inl mc3))] H := hP
  have hD : va_D A [(ha, .inr (0, [.ref hm, .ref hi, .ref qa, .ref qg, .int xl1, .int 1, .int xs1, .int xv1, .int xp1])), (hi, .inr (2, [.ref qb, .int ic1])), (qb, .inl (cI, 24, .inl ib1)), (qa, .inl (cI, 16, .inl xa1)), (qg, .inl (cI, 4, .inl xg1)), (hm, .inr (1, [.ref qc, .int mw3, .int mf3, .int mz3])), (qc, .inl (cI, 149, .inl mc3))] := hD
  refine lv_if_ne (tgt := 33) hx hb d_A_reset_24 rfl (fun hc4 => ?_) (fun hc4 => ?_)
  · have hf := ifn hf hc4
    refine lv_iload_n hx hb d_A_reset_33 rfl (lv_at hl 0 rfl) ?_
    obtain ⟨e1_, e2_, e3_, e4_, e5_, e6_, e7_, e8_, e9_, e10_, e11_, e12_, e13_, e14_⟩ := lf14 hf
    subst e1_; subst e2_; subst e3_; subst e4_; subst e5_; subst e6_; subst e7_; subst e8_; subst e9_; subst e10_; subst e11_; subst e12_; subst e13_; subst e14_
    have hP9 := hP.sub (ws' := [(ha, .inr (0, [.ref hm, .ref hi, .ref qa, .ref qg, .int xl1, .int 1, .int xs1, .int xv1, .int xp1])), (hm, .inr (1, [.ref qc, .int mw3, .int mf3, .int mz3])), (qc, .inl (cI, 149, .inl mc3)), (hi, .inr (2, [.ref qb, .int ic1])), (qb, .inl (cI, 24, .inl ib1)), (qa, .inl (cI, 16, .inl xa1)), (qg, .inl (cI, 4, .inl xg1))]) [0, 5, 6, 1, 2, 3, 4] rfl
    have hD9 := hD.sub (ws' := [(ha, .inr (0, [.ref hm, .ref hi, .ref qa, .ref qg, .int xl1, .int 1, .int xs1, .int xv1, .int xp1])), (hm, .inr (1, [.ref qc, .int mw3, .int mf3, .int mz3])), (qc, .inl (cI, 149, .inl mc3)), (hi, .inr (2, [.ref qb, .int ic1])), (qb, .inl (cI, 24, .inl ib1)), (qa, .inl (cI, 16, .inl xa1)), (qg, .inl (cI, 4, .inl xg1))]) [0, 5, 6, 1, 2, 3, 4] (by decide) rfl
    exact W.iret (v := r2) hx hb hr (fun t ht hW => ⟨⟨r2, (), rfl, rfl, by rw [ht]; exact hP9, va_K.moved hW.alike hK, hD9⟩, hS.F ht⟩) hS.2.2 d_A_reset_34
  have hf := ift hf hc4
  refine lv_aload_n hx hb d_A_reset_27 rfl (lv_at hl 1 rfl) ?_
  obtain ⟨mc5, mw5, mf5, mz5, ib5, ic5, xa5, xg5, xl5, xo5, xs5, xv5, xp5, hg, hf⟩ := bd13_some hf
  refine xcv (wr := []) (ctA_switchOff l dC dI cI ha hm qc hi qb qa qg mc3 mw3 mf3 mz3 ib1 ic1 xa1 xg1 xl1 1 xs1 xv1 xp1 mc5 mw5 mf5 mz5 ib5 ic5 xa5 xg5 xl5 xo5 xs5 xv5 xp5 hg) ⟨hx, hb, hml, hown, hts⟩ (cwV (C := R_A) 0 hts (gV wq332 wq334 wq21 wq43 wq335) rfl rfl rfl (by decide +kernel) ⟨Nat.le_of_ble_eq_true rfl, Nat.le_of_ble_eq_true rfl⟩) hK hP hD hS hA [0, 5, 6, 1, 2, 3, 4] [] rfl rfl rfl rfl (by decide) (ci := 0) (q0 := 0) rfl rfl rfl rfl hl.1 rfl (Nat.le_of_ble_eq_true rfl) d_A_reset_28 ⟨Nat.zero_le _, Nat.zero_le _⟩ (fun H locs hP hD hS => ?_)
  have hP : va_P (dC, dI) vwCl [(ha, .inr (0, [.ref hm, .ref hi, .ref qa, .ref qg, .int xl5, .int xo5, .int xs5, .int xv5, .int xp5])), (hm, .inr (1, [.ref qc, .int mw5, .int mf5, .int mz5])), (qc, .inl (cI, 149, .inl mc5)), (hi, .inr (2, [.ref qb, .int ic5])), (qb, .inl (cI, 24, .inl ib5)), (qa, .inl (cI, 16, .inl xa5)), (qg, .inl (cI, 4, .inl xg5))] H := hP
  have hD : va_D A [(ha, .inr (0, [.ref hm, .ref hi, .ref qa, .ref qg, .int xl5, .int xo5, .int xs5, .int xv5, .int xp5])), (hm, .inr (1, [.ref qc, .int mw5, .int mf5, .int mz5])), (qc, .inl (cI, 149, .inl mc5)), (hi, .inr (2, [.ref qb, .int ic5])), (qb, .inl (cI, 24, .inl ib5)), (qa, .inl (cI, 16, .inl xa5)), (qg, .inl (cI, 4, .inl xg5))] := hD
  refine lv_iconst (v := (-1)) hx hb d_A_reset_31 (by decide) ?_
  obtain ⟨e1_, e2_, e3_, e4_, e5_, e6_, e7_, e8_, e9_, e10_, e11_, e12_, e13_, e14_⟩ := lf14 hf
  subst e1_; subst e2_; subst e3_; subst e4_; subst e5_; subst e6_; subst e7_; subst e8_; subst e9_; subst e10_; subst e11_; subst e12_; subst e13_; subst e14_
  have hP9 := hP.sub (ws' := [(ha, .inr (0, [.ref hm, .ref hi, .ref qa, .ref qg, .int xl5, .int xo5, .int xs5, .int xv5, .int xp5])), (hm, .inr (1, [.ref qc, .int mw5, .int mf5, .int mz5])), (qc, .inl (cI, 149, .inl mc5)), (hi, .inr (2, [.ref qb, .int ic5])), (qb, .inl (cI, 24, .inl ib5)), (qa, .inl (cI, 16, .inl xa5)), (qg, .inl (cI, 4, .inl xg5))]) [0, 1, 2, 3, 4, 5, 6] rfl
  have hD9 := hD.sub (ws' := [(ha, .inr (0, [.ref hm, .ref hi, .ref qa, .ref qg, .int xl5, .int xo5, .int xs5, .int xv5, .int xp5])), (hm, .inr (1, [.ref qc, .int mw5, .int mf5, .int mz5])), (qc, .inl (cI, 149, .inl mc5)), (hi, .inr (2, [.ref qb, .int ic5])), (qb, .inl (cI, 24, .inl ib5)), (qa, .inl (cI, 16, .inl xa5)), (qg, .inl (cI, 4, .inl xg5))]) [0, 1, 2, 3, 4, 5, 6] (by decide) rfl
  exact W.iret (v := (-1)) hx hb hr (fun t ht hW => ⟨⟨(-1), (), rfl, rfl, by rw [ht]; exact hP9, va_K.moved hW.alike hK, hD9⟩, hS.F ht⟩) hS.2.2 d_A_reset_32
theorem d_A_writes_0 : decode b_A_writes 0 = .ok (.aload_n 0, 1) := by decide +kernel
theorem d_A_writes_1 : decode b_A_writes 1 = .ok (.getfield 10, 3) := by decide +kernel
theorem d_A_writes_4 : decode b_A_writes 4 = .ok (.invokevirtual 86, 3) := by decide +kernel
theorem d_A_writes_7 : decode b_A_writes 7 = .ok (.ireturn, 1) := by decide +kernel
def fA_writes (σ : StX) : Option (Int32) := match σ with | (mc, mw, mf, mz, ib, ic, xa, xg, xl, xo, xs, xv, xp) => bd1 (fM_written (mc, mw, mf, mz)) fun r1 => some r1
set_option maxHeartbeats 4000000 in
set_option maxRecDepth 100000 in
theorem ctA_writes (l : Launch) (dC : Nat → ClassId) (dI : Nat → Nat → Nat) (cI : ClassId) (ha hm qc hi qb qa qg : Nat) (mc : Nat → Int32) (mw : Int32) (mf : Int32) (mz : Int32) (ib : Nat → Int32) (ic : Int32) (xa : Nat → Int32) (xg : Nat → Int32) (xl : Int32) (xo : Int32) (xs : Int32) (xv : Int32) (xp : Int32) (r : Int32) (hf : fA_writes (mc, mw, mf, mz, ib, ic, xa, xg, xl, xo, xs, xv, xp) = some r) : CtI l y_A_writes w_A_writes ({ frames := 1, cells := 0, slots := 0, locals := 20 }) (dC, dI) [(cI, .int)] [.ref ha] [(ha, .inr (0, [.ref hm, .ref hi, .ref qa, .ref qg, .int xl, .int xo, .int xs, .int xv, .int xp])), (hm, .inr (1, [.ref qc, .int mw, .int mf, .int mz])), (qc, .inl (cI, 149, .inl mc)), (hi, .inr (2, [.ref qb, .int ic])), (qb, .inl (cI, 24, .inl ib)), (qa, .inl (cI, 16, .inl xa)), (qg, .inl (cI, 4, .inl xg))] [(ha, .inr (0, [.ref hm, .ref hi, .ref qa, .ref qg, .int xl, .int xo, .int xs, .int xv, .int xp])), (hm, .inr (1, [.ref qc, .int mw, .int mf, .int mz])), (qc, .inl (cI, 149, .inl mc)), (hi, .inr (2, [.ref qb, .int ic])), (qb, .inl (cI, 24, .inl ib)), (qa, .inl (cI, 16, .inl xa)), (qg, .inl (cI, 4, .inl xg))] r := by
  intro sz
  refine Met.ofW (cc := b_A_writes) (maxL := 1) (ret := some .int) (by decide) rfl ?_
  intro p e s m args below meth c s₁ B hml hv
  obtain ⟨rfl, hsz, hP, hK, hD0⟩ := hv
  have hx := B.exec
  have hb := B.bytes
  have hr := B.returns
  have hts := atoms_spec (ws := w_A_writes) B.pre
  have hown : s.vm.findClass R_A = some m.cls := findClass_of_methodNamed B.named
  have hlocks := B.notSynchronized
  subst hsz
  have hD := hD0.self (sz := s.heap.size)
  generalize hAe : va_A [(ha, .inr (0, [.ref hm, .ref hi, .ref qa, .ref qg, .int xl, .int xo, .int xs, .int xv, .int xp])), (hm, .inr (1, [.ref qc, .int mw, .int mf, .int mz])), (qc, .inl (cI, 149, .inl mc)), (hi, .inr (2, [.ref qb, .int ic])), (qb, .inl (cI, 24, .inl ib)), (qa, .inl (cI, 16, .inl xa)), (qg, .inl (cI, 4, .inl xg))] s.heap.size = A at hD ⊢
  have hA : ∀ q : Nat, s.heap.size ≤ q → A q := fun q h => by rw [← hAe]; exact Or.inr h
  have hS : va_S A s.heap s.heap [] := va_S.rf
  have hP : va_P (dC, dI) vwCl [(ha, .inr (0, [.ref hm, .ref hi, .ref qa, .ref qg, .int xl, .int xo, .int xs, .int xv, .int xp])), (hm, .inr (1, [.ref qc, .int mw, .int mf, .int mz])), (qc, .inl (cI, 149, .inl mc)), (hi, .inr (2, [.ref qb, .int ic])), (qb, .inl (cI, 24, .inl ib)), (qa, .inl (cI, 16, .inl xa)), (qg, .inl (cI, 4, .inl xg))] s.heap := hP
  have hl := lv_entry ([.ref ha]) (n := 1) (Nat.le_of_ble_eq_true rfl)
  rw [lg_entry_eq]
  generalize (lg_sl ([.ref ha]) ++ List.replicate (1 - (lg_sl ([.ref ha])).length) Slot.unset).toArray = ls at hl ⊢
  have hl : lv_has ls 1 [(0, .ref ha)] := hl
  have inA : ∀ w ∈ u_ws R_A F_A 9, w ∈ w_A_writes := fun w h => List.mem_cons_of_mem _ (in_A w h)
  have kf10 := hts _ (List.mem_cons_of_mem _ wq91)
  rw [fA_writes] at hf
  refine lv_aload_n hx hb d_A_writes_0 rfl (lv_at hl 0 rfl) ?_
  refine va_get (D := (dC, dI)) (ci := 0) (v := .ref hm) (C := R_A) (T := F_A) (N := 9) hx hb hts inA hown hK hP 0 rfl rfl 0 (by decide) kf10 (fun _ h9 => h9) rfl d_A_writes_1 ?_
  obtain ⟨r1, hg, hf⟩ := bd1_some hf
  refine xci (wr := [(ha, .inr (0, [.ref hm, .ref hi, .ref qa, .ref qg, .int xl, .int xo, .int xs, .int xv, .int xp])), (hi, .inr (2, [.ref qb, .int ic])), (qb, .inl (cI, 24, .inl ib)), (qa, .inl (cI, 16, .inl xa)), (qg, .inl (cI, 4, .inl xg))]) (ctM_written l dC dI cI hm qc mc mw mf mz r1 hg) ⟨hx, hb, hml, hown, hts⟩ (cwV (C := R_M) 0 hts (gV wq372 wq373 wq374 wq44 wq375) rfl rfl rfl (by decide +kernel) ⟨Nat.le_of_ble_eq_true rfl, Nat.le_of_ble_eq_true rfl⟩) hK hP hD hS hA [1, 2] [0, 3, 4, 5, 6] rfl rfl rfl rfl (by decide) (ci := 1) (q0 := 1) rfl rfl rfl rfl hl.1 rfl (Nat.le_of_ble_eq_true rfl) d_A_writes_4 ⟨Nat.zero_le _, Nat.zero_le _⟩ (fun H locs hP hD hS => ?_)
  have hP : va_P (dC, dI) vwCl [(ha, .inr (0, [.ref hm, .ref hi, .ref qa, .ref qg, .int xl, .int xo, .int xs, .int xv, .int xp])), (hi, .inr (2, [.ref qb, .int ic])), (qb, .inl (cI, 24, .inl ib)), (qa, .inl (cI, 16, .inl xa)), (qg, .inl (cI, 4, .inl xg)), (hm, .inr (1, [.ref qc, .int mw, .int mf, .int mz])), (qc, .inl (cI, 149, .inl mc))] H := hP
  have hD : va_D A [(ha, .inr (0, [.ref hm, .ref hi, .ref qa, .ref qg, .int xl, .int xo, .int xs, .int xv, .int xp])), (hi, .inr (2, [.ref qb, .int ic])), (qb, .inl (cI, 24, .inl ib)), (qa, .inl (cI, 16, .inl xa)), (qg, .inl (cI, 4, .inl xg)), (hm, .inr (1, [.ref qc, .int mw, .int mf, .int mz])), (qc, .inl (cI, 149, .inl mc))] := hD
  have e1_ := lf1 hf
  subst e1_
  have hP9 := hP.sub (ws' := [(ha, .inr (0, [.ref hm, .ref hi, .ref qa, .ref qg, .int xl, .int xo, .int xs, .int xv, .int xp])), (hm, .inr (1, [.ref qc, .int mw, .int mf, .int mz])), (qc, .inl (cI, 149, .inl mc)), (hi, .inr (2, [.ref qb, .int ic])), (qb, .inl (cI, 24, .inl ib)), (qa, .inl (cI, 16, .inl xa)), (qg, .inl (cI, 4, .inl xg))]) [0, 5, 6, 1, 2, 3, 4] rfl
  have hD9 := hD.sub (ws' := [(ha, .inr (0, [.ref hm, .ref hi, .ref qa, .ref qg, .int xl, .int xo, .int xs, .int xv, .int xp])), (hm, .inr (1, [.ref qc, .int mw, .int mf, .int mz])), (qc, .inl (cI, 149, .inl mc)), (hi, .inr (2, [.ref qb, .int ic])), (qb, .inl (cI, 24, .inl ib)), (qa, .inl (cI, 16, .inl xa)), (qg, .inl (cI, 4, .inl xg))]) [0, 5, 6, 1, 2, 3, 4] (by decide) rfl
  exact W.iret (v := r1) hx hb hr (fun t ht hW => ⟨⟨r1, (), rfl, rfl, by rw [ht]; exact hP9, va_K.moved hW.alike hK, hD9⟩, hS.F ht⟩) hS.2.2 d_A_writes_7
theorem d_A_failures_0 : decode b_A_failures 0 = .ok (.aload_n 0, 1) := by decide +kernel
theorem d_A_failures_1 : decode b_A_failures 1 = .ok (.getfield 10, 3) := by decide +kernel
theorem d_A_failures_4 : decode b_A_failures 4 = .ok (.invokevirtual 72, 3) := by decide +kernel
theorem d_A_failures_7 : decode b_A_failures 7 = .ok (.ireturn, 1) := by decide +kernel
def fA_failures (σ : StX) : Option (Int32) := match σ with | (mc, mw, mf, mz, ib, ic, xa, xg, xl, xo, xs, xv, xp) => bd1 (fM_failed (mc, mw, mf, mz)) fun r1 => some r1
set_option maxHeartbeats 4000000 in
set_option maxRecDepth 100000 in
theorem ctA_failures (l : Launch) (dC : Nat → ClassId) (dI : Nat → Nat → Nat) (cI : ClassId) (ha hm qc hi qb qa qg : Nat) (mc : Nat → Int32) (mw : Int32) (mf : Int32) (mz : Int32) (ib : Nat → Int32) (ic : Int32) (xa : Nat → Int32) (xg : Nat → Int32) (xl : Int32) (xo : Int32) (xs : Int32) (xv : Int32) (xp : Int32) (r : Int32) (hf : fA_failures (mc, mw, mf, mz, ib, ic, xa, xg, xl, xo, xs, xv, xp) = some r) : CtI l y_A_failures w_A_failures ({ frames := 1, cells := 0, slots := 0, locals := 20 }) (dC, dI) [(cI, .int)] [.ref ha] [(ha, .inr (0, [.ref hm, .ref hi, .ref qa, .ref qg, .int xl, .int xo, .int xs, .int xv, .int xp])), (hm, .inr (1, [.ref qc, .int mw, .int mf, .int mz])), (qc, .inl (cI, 149, .inl mc)), (hi, .inr (2, [.ref qb, .int ic])), (qb, .inl (cI, 24, .inl ib)), (qa, .inl (cI, 16, .inl xa)), (qg, .inl (cI, 4, .inl xg))] [(ha, .inr (0, [.ref hm, .ref hi, .ref qa, .ref qg, .int xl, .int xo, .int xs, .int xv, .int xp])), (hm, .inr (1, [.ref qc, .int mw, .int mf, .int mz])), (qc, .inl (cI, 149, .inl mc)), (hi, .inr (2, [.ref qb, .int ic])), (qb, .inl (cI, 24, .inl ib)), (qa, .inl (cI, 16, .inl xa)), (qg, .inl (cI, 4, .inl xg))] r := by
  intro sz
  refine Met.ofW (cc := b_A_failures) (maxL := 1) (ret := some .int) (by decide) rfl ?_
  intro p e s m args below meth c s₁ B hml hv
  obtain ⟨rfl, hsz, hP, hK, hD0⟩ := hv
  have hx := B.exec
  have hb := B.bytes
  have hr := B.returns
  have hts := atoms_spec (ws := w_A_failures) B.pre
  have hown : s.vm.findClass R_A = some m.cls := findClass_of_methodNamed B.named
  have hlocks := B.notSynchronized
  subst hsz
  have hD := hD0.self (sz := s.heap.size)
  generalize hAe : va_A [(ha, .inr (0, [.ref hm, .ref hi, .ref qa, .ref qg, .int xl, .int xo, .int xs, .int xv, .int xp])), (hm, .inr (1, [.ref qc, .int mw, .int mf, .int mz])), (qc, .inl (cI, 149, .inl mc)), (hi, .inr (2, [.ref qb, .int ic])), (qb, .inl (cI, 24, .inl ib)), (qa, .inl (cI, 16, .inl xa)), (qg, .inl (cI, 4, .inl xg))] s.heap.size = A at hD ⊢
  have hA : ∀ q : Nat, s.heap.size ≤ q → A q := fun q h => by rw [← hAe]; exact Or.inr h
  have hS : va_S A s.heap s.heap [] := va_S.rf
  have hP : va_P (dC, dI) vwCl [(ha, .inr (0, [.ref hm, .ref hi, .ref qa, .ref qg, .int xl, .int xo, .int xs, .int xv, .int xp])), (hm, .inr (1, [.ref qc, .int mw, .int mf, .int mz])), (qc, .inl (cI, 149, .inl mc)), (hi, .inr (2, [.ref qb, .int ic])), (qb, .inl (cI, 24, .inl ib)), (qa, .inl (cI, 16, .inl xa)), (qg, .inl (cI, 4, .inl xg))] s.heap := hP
  have hl := lv_entry ([.ref ha]) (n := 1) (Nat.le_of_ble_eq_true rfl)
  rw [lg_entry_eq]
  generalize (lg_sl ([.ref ha]) ++ List.replicate (1 - (lg_sl ([.ref ha])).length) Slot.unset).toArray = ls at hl ⊢
  have hl : lv_has ls 1 [(0, .ref ha)] := hl
  have inA : ∀ w ∈ u_ws R_A F_A 9, w ∈ w_A_failures := fun w h => List.mem_cons_of_mem _ (in_A w h)
  have kf10 := hts _ (List.mem_cons_of_mem _ wq91)
  rw [fA_failures] at hf
  refine lv_aload_n hx hb d_A_failures_0 rfl (lv_at hl 0 rfl) ?_
  refine va_get (D := (dC, dI)) (ci := 0) (v := .ref hm) (C := R_A) (T := F_A) (N := 9) hx hb hts inA hown hK hP 0 rfl rfl 0 (by decide) kf10 (fun _ h9 => h9) rfl d_A_failures_1 ?_
  obtain ⟨r1, hg, hf⟩ := bd1_some hf
  refine xci (wr := [(ha, .inr (0, [.ref hm, .ref hi, .ref qa, .ref qg, .int xl, .int xo, .int xs, .int xv, .int xp])), (hi, .inr (2, [.ref qb, .int ic])), (qb, .inl (cI, 24, .inl ib)), (qa, .inl (cI, 16, .inl xa)), (qg, .inl (cI, 4, .inl xg))]) (ctM_failed l dC dI cI hm qc mc mw mf mz r1 hg) ⟨hx, hb, hml, hown, hts⟩ (cwV (C := R_M) 0 hts (gV wq356 wq357 wq358 wq44 wq359) rfl rfl rfl (by decide +kernel) ⟨Nat.le_of_ble_eq_true rfl, Nat.le_of_ble_eq_true rfl⟩) hK hP hD hS hA [1, 2] [0, 3, 4, 5, 6] rfl rfl rfl rfl (by decide) (ci := 1) (q0 := 1) rfl rfl rfl rfl hl.1 rfl (Nat.le_of_ble_eq_true rfl) d_A_failures_4 ⟨Nat.zero_le _, Nat.zero_le _⟩ (fun H locs hP hD hS => ?_)
  have hP : va_P (dC, dI) vwCl [(ha, .inr (0, [.ref hm, .ref hi, .ref qa, .ref qg, .int xl, .int xo, .int xs, .int xv, .int xp])), (hi, .inr (2, [.ref qb, .int ic])), (qb, .inl (cI, 24, .inl ib)), (qa, .inl (cI, 16, .inl xa)), (qg, .inl (cI, 4, .inl xg)), (hm, .inr (1, [.ref qc, .int mw, .int mf, .int mz])), (qc, .inl (cI, 149, .inl mc))] H := hP
  have hD : va_D A [(ha, .inr (0, [.ref hm, .ref hi, .ref qa, .ref qg, .int xl, .int xo, .int xs, .int xv, .int xp])), (hi, .inr (2, [.ref qb, .int ic])), (qb, .inl (cI, 24, .inl ib)), (qa, .inl (cI, 16, .inl xa)), (qg, .inl (cI, 4, .inl xg)), (hm, .inr (1, [.ref qc, .int mw, .int mf, .int mz])), (qc, .inl (cI, 149, .inl mc))] := hD
  have e1_ := lf1 hf
  subst e1_
  have hP9 := hP.sub (ws' := [(ha, .inr (0, [.ref hm, .ref hi, .ref qa, .ref qg, .int xl, .int xo, .int xs, .int xv, .int xp])), (hm, .inr (1, [.ref qc, .int mw, .int mf, .int mz])), (qc, .inl (cI, 149, .inl mc)), (hi, .inr (2, [.ref qb, .int ic])), (qb, .inl (cI, 24, .inl ib)), (qa, .inl (cI, 16, .inl xa)), (qg, .inl (cI, 4, .inl xg))]) [0, 5, 6, 1, 2, 3, 4] rfl
  have hD9 := hD.sub (ws' := [(ha, .inr (0, [.ref hm, .ref hi, .ref qa, .ref qg, .int xl, .int xo, .int xs, .int xv, .int xp])), (hm, .inr (1, [.ref qc, .int mw, .int mf, .int mz])), (qc, .inl (cI, 149, .inl mc)), (hi, .inr (2, [.ref qb, .int ic])), (qb, .inl (cI, 24, .inl ib)), (qa, .inl (cI, 16, .inl xa)), (qg, .inl (cI, 4, .inl xg))]) [0, 5, 6, 1, 2, 3, 4] (by decide) rfl
  exact W.iret (v := r1) hx hb hr (fun t ht hW => ⟨⟨r1, (), rfl, rfl, by rw [ht]; exact hP9, va_K.moved hW.alike hK, hD9⟩, hS.F ht⟩) hS.2.2 d_A_failures_7
theorem d_A_data_0 : decode b_A_data 0 = .ok (.iload_n 1, 1) := by decide +kernel
theorem d_A_data_1 : decode b_A_data 1 = .ok (.invokestatic 89, 3) := by decide +kernel
theorem d_A_data_4 : decode b_A_data 4 = .ok (.ifCond .eq 13, 3) := by decide +kernel
theorem d_A_data_7 : decode b_A_data 7 = .ok (.iload_n 2, 1) := by decide +kernel
theorem d_A_data_8 : decode b_A_data 8 = .ok (.ifCond .lt 9, 3) := by decide +kernel
theorem d_A_data_11 : decode b_A_data 11 = .ok (.iload_n 2, 1) := by decide +kernel
theorem d_A_data_12 : decode b_A_data 12 = .ok (.bipush 16, 2) := by decide +kernel
theorem d_A_data_14 : decode b_A_data 14 = .ok (.if_icmp .lt 6, 3) := by decide +kernel
theorem d_A_data_17 : decode b_A_data 17 = .ok (.bipush (-2), 2) := by decide +kernel
theorem d_A_data_19 : decode b_A_data 19 = .ok (.ireturn, 1) := by decide +kernel
theorem d_A_data_20 : decode b_A_data 20 = .ok (.aload_n 0, 1) := by decide +kernel
theorem d_A_data_21 : decode b_A_data 21 = .ok (.getfield 34, 3) := by decide +kernel
theorem d_A_data_24 : decode b_A_data 24 = .ok (.ifCond .eq 18, 3) := by decide +kernel
theorem d_A_data_27 : decode b_A_data 27 = .ok (.aload_n 0, 1) := by decide +kernel
theorem d_A_data_28 : decode b_A_data 28 = .ok (.getfield 10, 3) := by decide +kernel
theorem d_A_data_31 : decode b_A_data 31 = .ok (.iload_n 1, 1) := by decide +kernel
theorem d_A_data_32 : decode b_A_data 32 = .ok (.iload_n 2, 1) := by decide +kernel
theorem d_A_data_33 : decode b_A_data 33 = .ok (.invokestatic 93, 3) := by decide +kernel
theorem d_A_data_36 : decode b_A_data 36 = .ok (.invokevirtual 97, 3) := by decide +kernel
theorem d_A_data_39 : decode b_A_data 39 = .ok (.goto 4, 3) := by decide +kernel
theorem d_A_data_42 : decode b_A_data 42 = .ok (.iconst (-1), 1) := by decide +kernel
theorem d_A_data_43 : decode b_A_data 43 = .ok (.ireturn, 1) := by decide +kernel
def fA_data (σ : StX) (a1 : Int32) (a2 : Int32) : Option (Int32) := match σ with | (mc, mw, mf, mz, ib, ic, xa, xg, xl, xo, xs, xv, xp) => bd1 (fA_isApplet a1) fun r1 => if r1 = 0 then (some (-2)) else (if a2 < 0 then (some (-2)) else (if a2 < 16 then (if xo = 0 then (some (-1)) else (bd1 (fA_dataPlace a1 a2) fun r6 => bd1 (fM_at (mc, mw, mf, mz) r6) fun r7 => some r7)) else (some (-2))))
set_option maxHeartbeats 4000000 in
set_option maxRecDepth 100000 in
theorem ctA_data (l : Launch) (dC : Nat → ClassId) (dI : Nat → Nat → Nat) (cI : ClassId) (ha hm qc hi qb qa qg : Nat) (mc : Nat → Int32) (mw : Int32) (mf : Int32) (mz : Int32) (ib : Nat → Int32) (ic : Int32) (xa : Nat → Int32) (xg : Nat → Int32) (xl : Int32) (xo : Int32) (xs : Int32) (xv : Int32) (xp : Int32) (a1 : Int32) (a2 : Int32) (r : Int32) (hf : fA_data (mc, mw, mf, mz, ib, ic, xa, xg, xl, xo, xs, xv, xp) a1 a2 = some r) : CtI l y_A_data w_A_data ({ frames := 1, cells := 0, slots := 0, locals := 21 }) (dC, dI) [(cI, .int)] [.ref ha, .int a1, .int a2] [(ha, .inr (0, [.ref hm, .ref hi, .ref qa, .ref qg, .int xl, .int xo, .int xs, .int xv, .int xp])), (hm, .inr (1, [.ref qc, .int mw, .int mf, .int mz])), (qc, .inl (cI, 149, .inl mc)), (hi, .inr (2, [.ref qb, .int ic])), (qb, .inl (cI, 24, .inl ib)), (qa, .inl (cI, 16, .inl xa)), (qg, .inl (cI, 4, .inl xg))] [(ha, .inr (0, [.ref hm, .ref hi, .ref qa, .ref qg, .int xl, .int xo, .int xs, .int xv, .int xp])), (hm, .inr (1, [.ref qc, .int mw, .int mf, .int mz])), (qc, .inl (cI, 149, .inl mc)), (hi, .inr (2, [.ref qb, .int ic])), (qb, .inl (cI, 24, .inl ib)), (qa, .inl (cI, 16, .inl xa)), (qg, .inl (cI, 4, .inl xg))] r := by
  intro sz
  refine Met.ofW (cc := b_A_data) (maxL := 3) (ret := some .int) (by decide) rfl ?_
  intro p e s m args below meth c s₁ B hml hv
  obtain ⟨rfl, hsz, hP, hK, hD0⟩ := hv
  have hx := B.exec
  have hb := B.bytes
  have hr := B.returns
  have hts := atoms_spec (ws := w_A_data) B.pre
  have hown : s.vm.findClass R_A = some m.cls := findClass_of_methodNamed B.named
  have hlocks := B.notSynchronized
  subst hsz
  have hD := hD0.self (sz := s.heap.size)
  generalize hAe : va_A [(ha, .inr (0, [.ref hm, .ref hi, .ref qa, .ref qg, .int xl, .int xo, .int xs, .int xv, .int xp])), (hm, .inr (1, [.ref qc, .int mw, .int mf, .int mz])), (qc, .inl (cI, 149, .inl mc)), (hi, .inr (2, [.ref qb, .int ic])), (qb, .inl (cI, 24, .inl ib)), (qa, .inl (cI, 16, .inl xa)), (qg, .inl (cI, 4, .inl xg))] s.heap.size = A at hD ⊢
  have hA : ∀ q : Nat, s.heap.size ≤ q → A q := fun q h => by rw [← hAe]; exact Or.inr h
  have hS : va_S A s.heap s.heap [] := va_S.rf
  have hP : va_P (dC, dI) vwCl [(ha, .inr (0, [.ref hm, .ref hi, .ref qa, .ref qg, .int xl, .int xo, .int xs, .int xv, .int xp])), (hm, .inr (1, [.ref qc, .int mw, .int mf, .int mz])), (qc, .inl (cI, 149, .inl mc)), (hi, .inr (2, [.ref qb, .int ic])), (qb, .inl (cI, 24, .inl ib)), (qa, .inl (cI, 16, .inl xa)), (qg, .inl (cI, 4, .inl xg))] s.heap := hP
  have hl := lv_entry ([.ref ha, .int a1, .int a2]) (n := 3) (Nat.le_of_ble_eq_true rfl)
  rw [lg_entry_eq]
  generalize (lg_sl ([.ref ha, .int a1, .int a2]) ++ List.replicate (3 - (lg_sl ([.ref ha, .int a1, .int a2])).length) Slot.unset).toArray = ls at hl ⊢
  have hl : lv_has ls 3 [(0, .ref ha), (1, .int a1), (2, .int a2)] := hl
  have inA : ∀ w ∈ u_ws R_A F_A 9, w ∈ w_A_data := fun w h => List.mem_cons_of_mem _ (in_A w h)
  have kf10 := hts _ (List.mem_cons_of_mem _ wq91)
  have kf34 := hts _ (List.mem_cons_of_mem _ wq96)
  rw [fA_data] at hf
  refine lv_iload_n hx hb d_A_data_0 rfl (lv_at hl 1 rfl) ?_
  obtain ⟨r1, hg, hf⟩ := bd1_some hf
  refine xsz (ctA_isApplet l dC dI cI a1 r1 hg) ⟨hx, hb, hml, hown, hts⟩ (va_cwS 1 hts (gS wq203 wq204 wq43 wq205) rfl rfl rfl (by decide +kernel) ⟨Nat.le_of_ble_eq_true rfl, Nat.le_of_ble_eq_true rfl⟩) hK hP hD hS hA rfl hl.1 rfl (Nat.le_of_ble_eq_true rfl) d_A_data_1 ⟨Nat.zero_le _, Nat.zero_le _⟩ (fun H locs hn1 hP hD hS => ?_)
  refine lv_if_eq (tgt := 17) hx hb d_A_data_4 rfl (fun hc2 => ?_) (fun hc2 => ?_)
  · have hf := ift hf hc2
    refine lv_bipush (v := (-2)) hx hb d_A_data_17 (by decide) ?_
    have e1_ := lf1 hf
    subst e1_
    have hP9 := hP.sub (ws' := [(ha, .inr (0, [.ref hm, .ref hi, .ref qa, .ref qg, .int xl, .int xo, .int xs, .int xv, .int xp])), (hm, .inr (1, [.ref qc, .int mw, .int mf, .int mz])), (qc, .inl (cI, 149, .inl mc)), (hi, .inr (2, [.ref qb, .int ic])), (qb, .inl (cI, 24, .inl ib)), (qa, .inl (cI, 16, .inl xa)), (qg, .inl (cI, 4, .inl xg))]) [0, 1, 2, 3, 4, 5, 6] rfl
    have hD9 := hD.sub (ws' := [(ha, .inr (0, [.ref hm, .ref hi, .ref qa, .ref qg, .int xl, .int xo, .int xs, .int xv, .int xp])), (hm, .inr (1, [.ref qc, .int mw, .int mf, .int mz])), (qc, .inl (cI, 149, .inl mc)), (hi, .inr (2, [.ref qb, .int ic])), (qb, .inl (cI, 24, .inl ib)), (qa, .inl (cI, 16, .inl xa)), (qg, .inl (cI, 4, .inl xg))]) [0, 1, 2, 3, 4, 5, 6] (by decide) rfl
    exact W.iret (v := (-2)) hx hb hr (fun t ht hW => ⟨⟨(-2), (), rfl, rfl, by rw [ht]; exact hP9, va_K.moved hW.alike hK, hD9⟩, hS.F ht⟩) hS.2.2 d_A_data_19
  have hf := ifn hf hc2
  refine lv_iload_n hx hb d_A_data_7 rfl (lv_at hl 2 rfl) ?_
  refine lv_if_lt (tgt := 17) hx hb d_A_data_8 rfl (fun hc3 => ?_) (fun hc3 => ?_)
  · have hf := ift hf hc3
    refine lv_bipush (v := (-2)) hx hb d_A_data_17 (by decide) ?_
    have e1_ := lf1 hf
    subst e1_
    have hP9 := hP.sub (ws' := [(ha, .inr (0, [.ref hm, .ref hi, .ref qa, .ref qg, .int xl, .int xo, .int xs, .int xv, .int xp])), (hm, .inr (1, [.ref qc, .int mw, .int mf, .int mz])), (qc, .inl (cI, 149, .inl mc)), (hi, .inr (2, [.ref qb, .int ic])), (qb, .inl (cI, 24, .inl ib)), (qa, .inl (cI, 16, .inl xa)), (qg, .inl (cI, 4, .inl xg))]) [0, 1, 2, 3, 4, 5, 6] rfl
    have hD9 := hD.sub (ws' := [(ha, .inr (0, [.ref hm, .ref hi, .ref qa, .ref qg, .int xl, .int xo, .int xs, .int xv, .int xp])), (hm, .inr (1, [.ref qc, .int mw, .int mf, .int mz])), (qc, .inl (cI, 149, .inl mc)), (hi, .inr (2, [.ref qb, .int ic])), (qb, .inl (cI, 24, .inl ib)), (qa, .inl (cI, 16, .inl xa)), (qg, .inl (cI, 4, .inl xg))]) [0, 1, 2, 3, 4, 5, 6] (by decide) rfl
    exact W.iret (v := (-2)) hx hb hr (fun t ht hW => ⟨⟨(-2), (), rfl, rfl, by rw [ht]; exact hP9, va_K.moved hW.alike hK, hD9⟩, hS.F ht⟩) hS.2.2 d_A_data_19
  have hf := ifn hf hc3
  refine lv_iload_n hx hb d_A_data_11 rfl (lv_at hl 2 rfl) ?_
  refine lv_bipush (v := 16) hx hb d_A_data_12 (by decide) ?_
  refine lv_icmp_lt (tgt := 20) hx hb d_A_data_14 rfl (fun hc4 => ?_) (fun hc4 => ?_)
  · have hf := ift hf hc4
    refine lv_aload_n hx hb d_A_data_20 rfl (lv_at hl 0 rfl) ?_
    refine va_get (D := (dC, dI)) (ci := 0) (v := .int xo) (C := R_A) (T := F_A) (N := 9) hx hb hts inA hown hK hP 0 rfl rfl 5 (by decide) kf34 (fun _ h9 => h9) rfl d_A_data_21 ?_
    refine lv_if_eq (tgt := 42) hx hb d_A_data_24 rfl (fun hc5 => ?_) (fun hc5 => ?_)
    · have hf := ift hf hc5
      refine lv_iconst (v := (-1)) hx hb d_A_data_42 (by decide) ?_
      have e1_ := lf1 hf
      subst e1_
      have hP9 := hP.sub (ws' := [(ha, .inr (0, [.ref hm, .ref hi, .ref qa, .ref qg, .int xl, .int xo, .int xs, .int xv, .int xp])), (hm, .inr (1, [.ref qc, .int mw, .int mf, .int mz])), (qc, .inl (cI, 149, .inl mc)), (hi, .inr (2, [.ref qb, .int ic])), (qb, .inl (cI, 24, .inl ib)), (qa, .inl (cI, 16, .inl xa)), (qg, .inl (cI, 4, .inl xg))]) [0, 1, 2, 3, 4, 5, 6] rfl
      have hD9 := hD.sub (ws' := [(ha, .inr (0, [.ref hm, .ref hi, .ref qa, .ref qg, .int xl, .int xo, .int xs, .int xv, .int xp])), (hm, .inr (1, [.ref qc, .int mw, .int mf, .int mz])), (qc, .inl (cI, 149, .inl mc)), (hi, .inr (2, [.ref qb, .int ic])), (qb, .inl (cI, 24, .inl ib)), (qa, .inl (cI, 16, .inl xa)), (qg, .inl (cI, 4, .inl xg))]) [0, 1, 2, 3, 4, 5, 6] (by decide) rfl
      exact W.iret (v := (-1)) hx hb hr (fun t ht hW => ⟨⟨(-1), (), rfl, rfl, by rw [ht]; exact hP9, va_K.moved hW.alike hK, hD9⟩, hS.F ht⟩) hS.2.2 d_A_data_43
    have hf := ifn hf hc5
    refine lv_aload_n hx hb d_A_data_27 rfl (lv_at hl 0 rfl) ?_
    refine va_get (D := (dC, dI)) (ci := 0) (v := .ref hm) (C := R_A) (T := F_A) (N := 9) hx hb hts inA hown hK hP 0 rfl rfl 0 (by decide) kf10 (fun _ h9 => h9) rfl d_A_data_28 ?_
    refine lv_iload_n hx hb d_A_data_31 rfl (lv_at hl 1 rfl) ?_
    refine lv_iload_n hx hb d_A_data_32 rfl (lv_at hl 2 rfl) ?_
    obtain ⟨r6, hg, hf⟩ := bd1_some hf
    refine xsi (ctA_dataPlace l dC dI cI a1 a2 r6 hg) ⟨hx, hb, hml, hown, hts⟩ (va_cwS 2 hts (gS wq278 wq279 wq43 wq280) rfl rfl rfl (by decide +kernel) ⟨Nat.le_of_ble_eq_true rfl, Nat.le_of_ble_eq_true rfl⟩) hK hP hD hS hA rfl hl.1 rfl (Nat.le_of_ble_eq_true rfl) d_A_data_33 ⟨Nat.zero_le _, Nat.zero_le _⟩ (fun H locs hP hD hS => ?_)
    obtain ⟨r7, hg, hf⟩ := bd1_some hf
    refine xci (wr := [(ha, .inr (0, [.ref hm, .ref hi, .ref qa, .ref qg, .int xl, .int xo, .int xs, .int xv, .int xp])), (hi, .inr (2, [.ref qb, .int ic])), (qb, .inl (cI, 24, .inl ib)), (qa, .inl (cI, 16, .inl xa)), (qg, .inl (cI, 4, .inl xg))]) (ctM_at l dC dI cI hm qc mc mw mf mz r6 r7 hg) ⟨hx, hb, hml, hown, hts⟩ (cwV (C := R_M) 1 hts (gV wq229 wq230 wq231 wq44 wq232) rfl rfl rfl (by decide +kernel) ⟨Nat.le_of_ble_eq_true rfl, Nat.le_of_ble_eq_true rfl⟩) hK hP hD hS hA [1, 2] [0, 3, 4, 5, 6] rfl rfl rfl rfl (by decide) (ci := 1) (q0 := 1) rfl rfl rfl rfl hl.1 rfl (Nat.le_of_ble_eq_true rfl) d_A_data_36 ⟨Nat.zero_le _, Nat.zero_le _⟩ (fun H locs hP hD hS => ?_)
    have hP : va_P (dC, dI) vwCl [(ha, .inr (0, [.ref hm, .ref hi, .ref qa, .ref qg, .int xl, .int xo, .int xs, .int xv, .int xp])), (hi, .inr (2, [.ref qb, .int ic])), (qb, .inl (cI, 24, .inl ib)), (qa, .inl (cI, 16, .inl xa)), (qg, .inl (cI, 4, .inl xg)), (hm, .inr (1, [.ref qc, .int mw, .int mf, .int mz])), (qc, .inl (cI, 149, .inl mc))] H := hP
    have hD : va_D A [(ha, .inr (0, [.ref hm, .ref hi, .ref qa, .ref qg, .int xl, .int xo, .int xs, .int xv, .int xp])), (hi, .inr (2, [.ref qb, .int ic])), (qb, .inl (cI, 24, .inl ib)), (qa, .inl (cI, 16, .inl xa)), (qg, .inl (cI, 4, .inl xg)), (hm, .inr (1, [.ref qc, .int mw, .int mf, .int mz])), (qc, .inl (cI, 149, .inl mc))] := hD
    refine lv_goto (tgt := 43) hx hb d_A_data_39 rfl ?_
    have e1_ := lf1 hf
    subst e1_
    have hP9 := hP.sub (ws' := [(ha, .inr (0, [.ref hm, .ref hi, .ref qa, .ref qg, .int xl, .int xo, .int xs, .int xv, .int xp])), (hm, .inr (1, [.ref qc, .int mw, .int mf, .int mz])), (qc, .inl (cI, 149, .inl mc)), (hi, .inr (2, [.ref qb, .int ic])), (qb, .inl (cI, 24, .inl ib)), (qa, .inl (cI, 16, .inl xa)), (qg, .inl (cI, 4, .inl xg))]) [0, 5, 6, 1, 2, 3, 4] rfl
    have hD9 := hD.sub (ws' := [(ha, .inr (0, [.ref hm, .ref hi, .ref qa, .ref qg, .int xl, .int xo, .int xs, .int xv, .int xp])), (hm, .inr (1, [.ref qc, .int mw, .int mf, .int mz])), (qc, .inl (cI, 149, .inl mc)), (hi, .inr (2, [.ref qb, .int ic])), (qb, .inl (cI, 24, .inl ib)), (qa, .inl (cI, 16, .inl xa)), (qg, .inl (cI, 4, .inl xg))]) [0, 5, 6, 1, 2, 3, 4] (by decide) rfl
    exact W.iret (v := r7) hx hb hr (fun t ht hW => ⟨⟨r7, (), rfl, rfl, by rw [ht]; exact hP9, va_K.moved hW.alike hK, hD9⟩, hS.F ht⟩) hS.2.2 d_A_data_43
  have hf := ifn hf hc4
  refine lv_bipush (v := (-2)) hx hb d_A_data_17 (by decide) ?_
  have e1_ := lf1 hf
  subst e1_
  have hP9 := hP.sub (ws' := [(ha, .inr (0, [.ref hm, .ref hi, .ref qa, .ref qg, .int xl, .int xo, .int xs, .int xv, .int xp])), (hm, .inr (1, [.ref qc, .int mw, .int mf, .int mz])), (qc, .inl (cI, 149, .inl mc)), (hi, .inr (2, [.ref qb, .int ic])), (qb, .inl (cI, 24, .inl ib)), (qa, .inl (cI, 16, .inl xa)), (qg, .inl (cI, 4, .inl xg))]) [0, 1, 2, 3, 4, 5, 6] rfl
  have hD9 := hD.sub (ws' := [(ha, .inr (0, [.ref hm, .ref hi, .ref qa, .ref qg, .int xl, .int xo, .int xs, .int xv, .int xp])), (hm, .inr (1, [.ref qc, .int mw, .int mf, .int mz])), (qc, .inl (cI, 149, .inl mc)), (hi, .inr (2, [.ref qb, .int ic])), (qb, .inl (cI, 24, .inl ib)), (qa, .inl (cI, 16, .inl xa)), (qg, .inl (cI, 4, .inl xg))]) [0, 1, 2, 3, 4, 5, 6] (by decide) rfl
  exact W.iret (v := (-2)) hx hb hr (fun t ht hW => ⟨⟨(-2), (), rfl, rfl, by rw [ht]; exact hP9, va_K.moved hW.alike hK, hD9⟩, hS.F ht⟩) hS.2.2 d_A_data_19
theorem d_A_tries_0 : decode b_A_tries 0 = .ok (.iload_n 1, 1) := by decide +kernel
theorem d_A_tries_1 : decode b_A_tries 1 = .ok (.invokestatic 89, 3) := by decide +kernel
theorem d_A_tries_4 : decode b_A_tries 4 = .ok (.ifCond .ne 6, 3) := by decide +kernel
theorem d_A_tries_7 : decode b_A_tries 7 = .ok (.bipush (-2), 2) := by decide +kernel
theorem d_A_tries_9 : decode b_A_tries 9 = .ok (.ireturn, 1) := by decide +kernel
theorem d_A_tries_10 : decode b_A_tries 10 = .ok (.aload_n 0, 1) := by decide +kernel
theorem d_A_tries_11 : decode b_A_tries 11 = .ok (.getfield 34, 3) := by decide +kernel
theorem d_A_tries_14 : decode b_A_tries 14 = .ok (.ifCond .eq 17, 3) := by decide +kernel
theorem d_A_tries_17 : decode b_A_tries 17 = .ok (.aload_n 0, 1) := by decide +kernel
theorem d_A_tries_18 : decode b_A_tries 18 = .ok (.getfield 10, 3) := by decide +kernel
theorem d_A_tries_21 : decode b_A_tries 21 = .ok (.iload_n 1, 1) := by decide +kernel
theorem d_A_tries_22 : decode b_A_tries 22 = .ok (.invokestatic 101, 3) := by decide +kernel
theorem d_A_tries_25 : decode b_A_tries 25 = .ok (.invokevirtual 97, 3) := by decide +kernel
theorem d_A_tries_28 : decode b_A_tries 28 = .ok (.goto 4, 3) := by decide +kernel
theorem d_A_tries_31 : decode b_A_tries 31 = .ok (.iconst (-1), 1) := by decide +kernel
theorem d_A_tries_32 : decode b_A_tries 32 = .ok (.ireturn, 1) := by decide +kernel
def fA_tries (σ : StX) (a1 : Int32) : Option (Int32) := match σ with | (mc, mw, mf, mz, ib, ic, xa, xg, xl, xo, xs, xv, xp) => bd1 (fA_isApplet a1) fun r1 => if r1 = 0 then (some (-2)) else (if xo = 0 then (some (-1)) else (bd1 (fA_triesPlace a1) fun r4 => bd1 (fM_at (mc, mw, mf, mz) r4) fun r5 => some r5))
set_option maxHeartbeats 4000000 in
set_option maxRecDepth 100000 in
theorem ctA_tries (l : Launch) (dC : Nat → ClassId) (dI : Nat → Nat → Nat) (cI : ClassId) (ha hm qc hi qb qa qg : Nat) (mc : Nat → Int32) (mw : Int32) (mf : Int32) (mz : Int32) (ib : Nat → Int32) (ic : Int32) (xa : Nat → Int32) (xg : Nat → Int32) (xl : Int32) (xo : Int32) (xs : Int32) (xv : Int32) (xp : Int32) (a1 : Int32) (r : Int32) (hf : fA_tries (mc, mw, mf, mz, ib, ic, xa, xg, xl, xo, xs, xv, xp) a1 = some r) : CtI l y_A_tries w_A_tries ({ frames := 1, cells := 0, slots := 0, locals := 21 }) (dC, dI) [(cI, .int)] [.ref ha, .int a1] [(ha, .inr (0, [.ref hm, .ref hi, .ref qa, .ref qg, .int xl, .int xo, .int xs, .int xv, .int xp])), (hm, .inr (1, [.ref qc, .int mw, .int mf, .int mz])), (qc, .inl (cI, 149, .inl mc)), (hi, .inr (2, [.ref qb, .int ic])), (qb, .inl (cI, 24, .inl ib)), (qa, .inl (cI, 16, .inl xa)), (qg, .inl (cI, 4, .inl xg))] [(ha, .inr (0, [.ref hm, .ref hi, .ref qa, .ref qg, .int xl, .int xo, .int xs, .int xv, .int xp])), (hm, .inr (1, [.ref qc, .int mw, .int mf, .int mz])), (qc, .inl (cI, 149, .inl mc)), (hi, .inr (2, [.ref qb, .int ic])), (qb, .inl (cI, 24, .inl ib)), (qa, .inl (cI, 16, .inl xa)), (qg, .inl (cI, 4, .inl xg))] r := by
  intro sz
  refine Met.ofW (cc := b_A_tries) (maxL := 2) (ret := some .int) (by decide) rfl ?_
  intro p e s m args below meth c s₁ B hml hv
  obtain ⟨rfl, hsz, hP, hK, hD0⟩ := hv
  have hx := B.exec
  have hb := B.bytes
  have hr := B.returns
  have hts := atoms_spec (ws := w_A_tries) B.pre
  have hown : s.vm.findClass R_A = some m.cls := findClass_of_methodNamed B.named
  have hlocks := B.notSynchronized
  subst hsz
  have hD := hD0.self (sz := s.heap.size)
  generalize hAe : va_A [(ha, .inr (0, [.ref hm, .ref hi, .ref qa, .ref qg, .int xl, .int xo, .int xs, .int xv, .int xp])), (hm, .inr (1, [.ref qc, .int mw, .int mf, .int mz])), (qc, .inl (cI, 149, .inl mc)), (hi, .inr (2, [.ref qb, .int ic])), (qb, .inl (cI, 24, .inl ib)), (qa, .inl (cI, 16, .inl xa)), (qg, .inl (cI, 4, .inl xg))] s.heap.size = A at hD ⊢
  have hA : ∀ q : Nat, s.heap.size ≤ q → A q := fun q h => by rw [← hAe]; exact Or.inr h
  have hS : va_S A s.heap s.heap [] := va_S.rf
  have hP : va_P (dC, dI) vwCl [(ha, .inr (0, [.ref hm, .ref hi, .ref qa, .ref qg, .int xl, .int xo, .int xs, .int xv, .int xp])), (hm, .inr (1, [.ref qc, .int mw, .int mf, .int mz])), (qc, .inl (cI, 149, .inl mc)), (hi, .inr (2, [.ref qb, .int ic])), (qb, .inl (cI, 24, .inl ib)), (qa, .inl (cI, 16, .inl xa)), (qg, .inl (cI, 4, .inl xg))] s.heap := hP
  have hl := lv_entry ([.ref ha, .int a1]) (n := 2) (Nat.le_of_ble_eq_true rfl)
  rw [lg_entry_eq]
  generalize (lg_sl ([.ref ha, .int a1]) ++ List.replicate (2 - (lg_sl ([.ref ha, .int a1])).length) Slot.unset).toArray = ls at hl ⊢
  have hl : lv_has ls 2 [(0, .ref ha), (1, .int a1)] := hl
  have inA : ∀ w ∈ u_ws R_A F_A 9, w ∈ w_A_tries := fun w h => List.mem_cons_of_mem _ (in_A w h)
  have kf10 := hts _ (List.mem_cons_of_mem _ wq91)
  have kf34 := hts _ (List.mem_cons_of_mem _ wq96)
  rw [fA_tries] at hf
  refine lv_iload_n hx hb d_A_tries_0 rfl (lv_at hl 1 rfl) ?_
  obtain ⟨r1, hg, hf⟩ := bd1_some hf
  refine xsz (ctA_isApplet l dC dI cI a1 r1 hg) ⟨hx, hb, hml, hown, hts⟩ (va_cwS 1 hts (gS wq203 wq204 wq43 wq205) rfl rfl rfl (by decide +kernel) ⟨Nat.le_of_ble_eq_true rfl, Nat.le_of_ble_eq_true rfl⟩) hK hP hD hS hA rfl hl.1 rfl (Nat.le_of_ble_eq_true rfl) d_A_tries_1 ⟨Nat.zero_le _, Nat.zero_le _⟩ (fun H locs hn1 hP hD hS => ?_)
  refine lv_if_ne (tgt := 10) hx hb d_A_tries_4 rfl (fun hc2 => ?_) (fun hc2 => ?_)
  · have hf := ifn hf hc2
    refine lv_aload_n hx hb d_A_tries_10 rfl (lv_at hl 0 rfl) ?_
    refine va_get (D := (dC, dI)) (ci := 0) (v := .int xo) (C := R_A) (T := F_A) (N := 9) hx hb hts inA hown hK hP 0 rfl rfl 5 (by decide) kf34 (fun _ h9 => h9) rfl d_A_tries_11 ?_
    refine lv_if_eq (tgt := 31) hx hb d_A_tries_14 rfl (fun hc3 => ?_) (fun hc3 => ?_)
    · have hf := ift hf hc3
      refine lv_iconst (v := (-1)) hx hb d_A_tries_31 (by decide) ?_
      have e1_ := lf1 hf
      subst e1_
      have hP9 := hP.sub (ws' := [(ha, .inr (0, [.ref hm, .ref hi, .ref qa, .ref qg, .int xl, .int xo, .int xs, .int xv, .int xp])), (hm, .inr (1, [.ref qc, .int mw, .int mf, .int mz])), (qc, .inl (cI, 149, .inl mc)), (hi, .inr (2, [.ref qb, .int ic])), (qb, .inl (cI, 24, .inl ib)), (qa, .inl (cI, 16, .inl xa)), (qg, .inl (cI, 4, .inl xg))]) [0, 1, 2, 3, 4, 5, 6] rfl
      have hD9 := hD.sub (ws' := [(ha, .inr (0, [.ref hm, .ref hi, .ref qa, .ref qg, .int xl, .int xo, .int xs, .int xv, .int xp])), (hm, .inr (1, [.ref qc, .int mw, .int mf, .int mz])), (qc, .inl (cI, 149, .inl mc)), (hi, .inr (2, [.ref qb, .int ic])), (qb, .inl (cI, 24, .inl ib)), (qa, .inl (cI, 16, .inl xa)), (qg, .inl (cI, 4, .inl xg))]) [0, 1, 2, 3, 4, 5, 6] (by decide) rfl
      exact W.iret (v := (-1)) hx hb hr (fun t ht hW => ⟨⟨(-1), (), rfl, rfl, by rw [ht]; exact hP9, va_K.moved hW.alike hK, hD9⟩, hS.F ht⟩) hS.2.2 d_A_tries_32
    have hf := ifn hf hc3
    refine lv_aload_n hx hb d_A_tries_17 rfl (lv_at hl 0 rfl) ?_
    refine va_get (D := (dC, dI)) (ci := 0) (v := .ref hm) (C := R_A) (T := F_A) (N := 9) hx hb hts inA hown hK hP 0 rfl rfl 0 (by decide) kf10 (fun _ h9 => h9) rfl d_A_tries_18 ?_
    refine lv_iload_n hx hb d_A_tries_21 rfl (lv_at hl 1 rfl) ?_
    obtain ⟨r4, hg, hf⟩ := bd1_some hf
    refine xsi (ctA_triesPlace l dC dI cI a1 r4 hg) ⟨hx, hb, hml, hown, hts⟩ (va_cwS 1 hts (gS wq222 wq223 wq43 wq224) rfl rfl rfl (by decide +kernel) ⟨Nat.le_of_ble_eq_true rfl, Nat.le_of_ble_eq_true rfl⟩) hK hP hD hS hA rfl hl.1 rfl (Nat.le_of_ble_eq_true rfl) d_A_tries_22 ⟨Nat.zero_le _, Nat.zero_le _⟩ (fun H locs hP hD hS => ?_)
    obtain ⟨r5, hg, hf⟩ := bd1_some hf
    refine xci (wr := [(ha, .inr (0, [.ref hm, .ref hi, .ref qa, .ref qg, .int xl, .int xo, .int xs, .int xv, .int xp])), (hi, .inr (2, [.ref qb, .int ic])), (qb, .inl (cI, 24, .inl ib)), (qa, .inl (cI, 16, .inl xa)), (qg, .inl (cI, 4, .inl xg))]) (ctM_at l dC dI cI hm qc mc mw mf mz r4 r5 hg) ⟨hx, hb, hml, hown, hts⟩ (cwV (C := R_M) 1 hts (gV wq229 wq230 wq231 wq44 wq232) rfl rfl rfl (by decide +kernel) ⟨Nat.le_of_ble_eq_true rfl, Nat.le_of_ble_eq_true rfl⟩) hK hP hD hS hA [1, 2] [0, 3, 4, 5, 6] rfl rfl rfl rfl (by decide) (ci := 1) (q0 := 1) rfl rfl rfl rfl hl.1 rfl (Nat.le_of_ble_eq_true rfl) d_A_tries_25 ⟨Nat.zero_le _, Nat.zero_le _⟩ (fun H locs hP hD hS => ?_)
    have hP : va_P (dC, dI) vwCl [(ha, .inr (0, [.ref hm, .ref hi, .ref qa, .ref qg, .int xl, .int xo, .int xs, .int xv, .int xp])), (hi, .inr (2, [.ref qb, .int ic])), (qb, .inl (cI, 24, .inl ib)), (qa, .inl (cI, 16, .inl xa)), (qg, .inl (cI, 4, .inl xg)), (hm, .inr (1, [.ref qc, .int mw, .int mf, .int mz])), (qc, .inl (cI, 149, .inl mc))] H := hP
    have hD : va_D A [(ha, .inr (0, [.ref hm, .ref hi, .ref qa, .ref qg, .int xl, .int xo, .int xs, .int xv, .int xp])), (hi, .inr (2, [.ref qb, .int ic])), (qb, .inl (cI, 24, .inl ib)), (qa, .inl (cI, 16, .inl xa)), (qg, .inl (cI, 4, .inl xg)), (hm, .inr (1, [.ref qc, .int mw, .int mf, .int mz])), (qc, .inl (cI, 149, .inl mc))] := hD
    refine lv_goto (tgt := 32) hx hb d_A_tries_28 rfl ?_
    have e1_ := lf1 hf
    subst e1_
    have hP9 := hP.sub (ws' := [(ha, .inr (0, [.ref hm, .ref hi, .ref qa, .ref qg, .int xl, .int xo, .int xs, .int xv, .int xp])), (hm, .inr (1, [.ref qc, .int mw, .int mf, .int mz])), (qc, .inl (cI, 149, .inl mc)), (hi, .inr (2, [.ref qb, .int ic])), (qb, .inl (cI, 24, .inl ib)), (qa, .inl (cI, 16, .inl xa)), (qg, .inl (cI, 4, .inl xg))]) [0, 5, 6, 1, 2, 3, 4] rfl
    have hD9 := hD.sub (ws' := [(ha, .inr (0, [.ref hm, .ref hi, .ref qa, .ref qg, .int xl, .int xo, .int xs, .int xv, .int xp])), (hm, .inr (1, [.ref qc, .int mw, .int mf, .int mz])), (qc, .inl (cI, 149, .inl mc)), (hi, .inr (2, [.ref qb, .int ic])), (qb, .inl (cI, 24, .inl ib)), (qa, .inl (cI, 16, .inl xa)), (qg, .inl (cI, 4, .inl xg))]) [0, 5, 6, 1, 2, 3, 4] (by decide) rfl
    exact W.iret (v := r5) hx hb hr (fun t ht hW => ⟨⟨r5, (), rfl, rfl, by rw [ht]; exact hP9, va_K.moved hW.alike hK, hD9⟩, hS.F ht⟩) hS.2.2 d_A_tries_32
  have hf := ift hf hc2
  refine lv_bipush (v := (-2)) hx hb d_A_tries_7 (by decide) ?_
  have e1_ := lf1 hf
  subst e1_
  have hP9 := hP.sub (ws' := [(ha, .inr (0, [.ref hm, .ref hi, .ref qa, .ref qg, .int xl, .int xo, .int xs, .int xv, .int xp])), (hm, .inr (1, [.ref qc, .int mw, .int mf, .int mz])), (qc, .inl (cI, 149, .inl mc)), (hi, .inr (2, [.ref qb, .int ic])), (qb, .inl (cI, 24, .inl ib)), (qa, .inl (cI, 16, .inl xa)), (qg, .inl (cI, 4, .inl xg))]) [0, 1, 2, 3, 4, 5, 6] rfl
  have hD9 := hD.sub (ws' := [(ha, .inr (0, [.ref hm, .ref hi, .ref qa, .ref qg, .int xl, .int xo, .int xs, .int xv, .int xp])), (hm, .inr (1, [.ref qc, .int mw, .int mf, .int mz])), (qc, .inl (cI, 149, .inl mc)), (hi, .inr (2, [.ref qb, .int ic])), (qb, .inl (cI, 24, .inl ib)), (qa, .inl (cI, 16, .inl xa)), (qg, .inl (cI, 4, .inl xg))]) [0, 1, 2, 3, 4, 5, 6] (by decide) rfl
  exact W.iret (v := (-2)) hx hb hr (fun t ht hW => ⟨⟨(-2), (), rfl, rfl, by rw [ht]; exact hP9, va_K.moved hW.alike hK, hD9⟩, hS.F ht⟩) hS.2.2 d_A_tries_9
