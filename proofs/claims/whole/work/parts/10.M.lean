theorem d_M_init_0 : decode b_M_init 0 = .ok (.aload_n 0, 1) := by decide +kernel
theorem d_M_init_1 : decode b_M_init 1 = .ok (.invokespecial 5, 3) := by decide +kernel
theorem d_M_init_4 : decode b_M_init 4 = .ok (.aload_n 0, 1) := by decide +kernel
theorem d_M_init_5 : decode b_M_init 5 = .ok (.sipush 149, 3) := by decide +kernel
theorem d_M_init_8 : decode b_M_init 8 = .ok (.newarray .int, 2) := by decide +kernel
theorem d_M_init_10 : decode b_M_init 10 = .ok (.putfield 11, 3) := by decide +kernel
theorem d_M_init_13 : decode b_M_init 13 = .ok (.iconst 0, 1) := by decide +kernel
theorem d_M_init_14 : decode b_M_init 14 = .ok (.istore_n 1, 1) := by decide +kernel
theorem d_M_init_15 : decode b_M_init 15 = .ok (.iload_n 1, 1) := by decide +kernel
theorem d_M_init_16 : decode b_M_init 16 = .ok (.iconst 4, 1) := by decide +kernel
theorem d_M_init_17 : decode b_M_init 17 = .ok (.if_icmp .ge 19, 3) := by decide +kernel
theorem d_M_init_20 : decode b_M_init 20 = .ok (.aload_n 0, 1) := by decide +kernel
theorem d_M_init_21 : decode b_M_init 21 = .ok (.getfield 11, 3) := by decide +kernel
theorem d_M_init_24 : decode b_M_init 24 = .ok (.bipush 72, 2) := by decide +kernel
theorem d_M_init_26 : decode b_M_init 26 = .ok (.iload_n 1, 1) := by decide +kernel
theorem d_M_init_27 : decode b_M_init 27 = .ok (.iadd, 1) := by decide +kernel
theorem d_M_init_28 : decode b_M_init 28 = .ok (.iconst 3, 1) := by decide +kernel
theorem d_M_init_29 : decode b_M_init 29 = .ok (.iastore, 1) := by decide +kernel
theorem d_M_init_30 : decode b_M_init 30 = .ok (.iinc 1 1, 3) := by decide +kernel
theorem d_M_init_33 : decode b_M_init 33 = .ok (.goto (-18), 3) := by decide +kernel
theorem d_M_init_36 : decode b_M_init 36 = .ok (.aload_n 0, 1) := by decide +kernel
theorem d_M_init_37 : decode b_M_init 37 = .ok (.iconst (-1), 1) := by decide +kernel
theorem d_M_init_38 : decode b_M_init 38 = .ok (.putfield 15, 3) := by decide +kernel
theorem d_M_init_41 : decode b_M_init 41 = .ok (.return_, 1) := by decide +kernel
def fM_init_L15 : Nat → StM → Int32 → Option (StM)
  | 0, _, _ => none
  | n + 1, (mc, mw, mf, mz), v1 => if 4 ≤ v1 then (some (mc, mw, mf, (-1))) else (ix (72 + v1) 149 fun j2 => fM_init_L15 n (upd mc j2 3, mw, mf, mz) (v1 + 1))
def fM_init : Option (StM) := fM_init_L15 300 (fun _ => 0, 0, 0, 0) 0
set_option maxHeartbeats 4000000 in
set_option maxRecDepth 100000 in
theorem ctM_init (l : Launch) (dC : Nat → ClassId) (dI : Nat → Nat → Nat) (cI : ClassId) (hm : Nat) (mc' : Nat → Int32) (mw' : Int32) (mf' : Int32) (mz' : Int32) (hf : fM_init = some (mc', mw', mf', mz')) : CtN l y_M_init w_M_init ({ frames := 1, cells := 1, slots := 149, locals := 12 }) (dC, dI) [(cI, .int)] [.ref hm] [(hm, .inr (1, [.null, .int 0, .int 0, .int 0]))] (fun u : Nat => [(hm, .inr (1, [.ref (u), .int mw', .int mf', .int mz'])), ((u), .inl (cI, 149, .inl mc'))]) 1 149 := by
  intro sz
  refine Met.ofW (cc := b_M_init) (maxL := 2) (ret := none) (by decide) rfl ?_
  intro p e s m args below meth c s₁ B hml hv
  obtain ⟨rfl, hsz, hP, hK, hD0⟩ := hv
  have hx := B.exec
  have hb := B.bytes
  have hr := B.returns
  have hts := atoms_spec (ws := w_M_init) B.pre
  have hown : s.vm.findClass R_M = some m.cls := findClass_of_methodNamed B.named
  have hlocks := B.notSynchronized
  have hin : meth.name = "<init>" := (name_of_methodNamed B.named B.method).1
  subst hsz
  have hD := hD0.self (sz := s.heap.size)
  generalize hAe : va_A [(hm, .inr (1, [.null, .int 0, .int 0, .int 0]))] s.heap.size = A at hD ⊢
  have hA : ∀ q : Nat, s.heap.size ≤ q → A q := fun q h => by rw [← hAe]; exact Or.inr h
  have hS : va_S A s.heap s.heap [] := va_S.rf
  have hP : va_P (dC, dI) vwCl [(hm, .inr (1, [.null, .int 0, .int 0, .int 0]))] s.heap := hP
  have hl := lv_entry ([.ref hm]) (n := 2) (Nat.le_of_ble_eq_true rfl)
  rw [lg_entry_eq]
  generalize (lg_sl ([.ref hm]) ++ List.replicate (2 - (lg_sl ([.ref hm])).length) Slot.unset).toArray = ls at hl ⊢
  have hl : lv_has ls 2 [(0, .ref hm)] := hl
  have inM : ∀ w ∈ u_ws R_M F_M 4, w ∈ w_M_init := fun w h => List.mem_cons_of_mem _ (in_M w h)
  have ka0 := hts _ (List.mem_cons_of_mem _ wq77)
  have kf11 := hts _ (List.mem_cons_of_mem _ wq64)
  have kf15 := hts _ (List.mem_cons_of_mem _ wq67)
  have km5 := hts _ (List.mem_cons_of_mem _ wq63)
  have ko0 := hts _ (List.mem_cons_of_mem _ wq56)
  have ko1 := hts _ (List.mem_cons_of_mem _ wq57)
  rw [fM_init] at hf
  refine lv_aload_n hx hb d_M_init_0 rfl (lv_at hl 0 rfl) ?_
  refine W.objInit hx hb hown km5 ko0 ko1 rfl (by rw [hml]; exact hl.1) rfl d_M_init_1 (Nat.le_of_ble_eq_true rfl) (Nat.le_of_ble_eq_true rfl) ?_
  refine W.eq (g2 := F0 m 4 ls []) rfl ?_
  refine lv_aload_n hx hb d_M_init_4 rfl (lv_at hl 0 rfl) ?_
  refine lv_sipush (v := 149) hx hb d_M_init_5 (by decide) ?_
  refine xnewa (N := 149) hx hb ka0 hK hP hD hS hA (by decide) (by decide) (by decide) (Nat.le_of_ble_eq_true rfl) (Nat.le_of_ble_eq_true rfl) d_M_init_8 (fun qc H hP hD hS => ?_)
  have hP : va_P (dC, dI) vwCl [(hm, .inr (1, [.null, .int 0, .int 0, .int 0])), (qc, .inl (cI, 149, .inl (fun _ => 0)))] H := hP
  have hD : va_D A [(hm, .inr (1, [.null, .int 0, .int 0, .int 0])), (qc, .inl (cI, 149, .inl (fun _ => 0)))] := hD
  refine va_putF (D := (dC, dI)) (ci := 1) (v := .ref qc) (ty := .array .int) (C := R_M) (T := F_M) (N := 4) hx hb hts inM t_M t_M_ok n_M hown hK hP hD hS 0 rfl rfl 0 (by decide) kf11 (fun _ h9 => h9) rfl hin rfl (by decide +kernel) rfl rfl (Nat.le_of_ble_eq_true rfl) d_M_init_10 (fun H locs hP hD hS => ?_)
  have hP : va_P (dC, dI) vwCl [(hm, .inr (1, [.ref qc, .int 0, .int 0, .int 0])), (qc, .inl (cI, 149, .inl (fun _ => 0)))] H := hP
  have hD : va_D A [(hm, .inr (1, [.ref qc, .int 0, .int 0, .int 0])), (qc, .inl (cI, 149, .inl (fun _ => 0)))] := hD
  refine lv_iconst (v := 0) hx hb d_M_init_13 (by decide) ?_
  refine lv_istore_n hx hb d_M_init_14 rfl hl (by decide) rfl (fun ls hl => ?_)
  have hl : lv_has ls 2 [(1, .int 0), (0, .ref hm)] := hl
  have hl := lv_sub (l' := [(0, .ref hm), (1, .int 0)]) hl [1, 0] rfl
  refine xloop (σ := (Nat → Int32) × (Int32) × (Int32) × (Int32) × (Int32)) (pc := 15) (fun n x H locs ls => va_P (dC, dI) vwCl [(hm, .inr (1, [.ref qc, .int (x.2.1), .int (x.2.2.1), .int (x.2.2.2.1)])), (qc, .inl (cI, 149, .inl (x.1)))] H ∧ va_D A [(hm, .inr (1, [.ref qc, .int (x.2.1), .int (x.2.2.1), .int (x.2.2.2.1)])), (qc, .inl (cI, 149, .inl (x.1)))] ∧ va_S A s.heap H locs ∧ lv_has ls 2 [(0, .ref hm), (1, .int (x.2.2.2.2))] ∧ fM_init_L15 n (x.1, x.2.1, x.2.2.1, x.2.2.2.1) x.2.2.2.2 = some (mc', mw', mf', mz')) ?_ (fun x H locs ls h => by have h9 := h.2.2.2.2; rw [fM_init_L15] at h9; cases h9) 300 (fun _ => 0, 0, 0, 0, 0) _ _ ls ⟨hP, hD, hS, hl, hf⟩
  intro n ih x H locs ls hI
  obtain ⟨mc, mw, mf, mz, v1⟩ := x
  obtain ⟨hP, hD, hS, hl, hf⟩ := hI
  have hP : va_P (dC, dI) vwCl [(hm, .inr (1, [.ref qc, .int mw, .int mf, .int mz])), (qc, .inl (cI, 149, .inl mc))] H := hP
  have hD : va_D A [(hm, .inr (1, [.ref qc, .int mw, .int mf, .int mz])), (qc, .inl (cI, 149, .inl mc))] := hD
  have hl : lv_has ls 2 [(0, .ref hm), (1, .int v1)] := hl
  rw [fM_init_L15] at hf
  refine lv_iload_n hx hb d_M_init_15 rfl (lv_at hl 1 rfl) ?_
  refine lv_iconst (v := 4) hx hb d_M_init_16 (by decide) ?_
  refine lv_icmp_ge (tgt := 36) hx hb d_M_init_17 rfl (fun hc1 => ?_) (fun hc1 => ?_)
  · have hf := ift hf hc1
    refine lv_aload_n hx hb d_M_init_36 rfl (lv_at hl 0 rfl) ?_
    refine lv_iconst (v := (-1)) hx hb d_M_init_37 (by decide) ?_
    refine va_put (D := (dC, dI)) (ci := 1) (v := .int (-1)) (ty := .int) (C := R_M) (T := F_M) (N := 4) hx hb hts inM t_M t_M_ok n_M hown hK hP hD hS 0 rfl rfl 3 (by decide) kf15 (fun _ h9 => h9) rfl (by decide +kernel) rfl rfl (Nat.le_of_ble_eq_true rfl) d_M_init_38 (fun H locs hP hD hS => ?_)
    have hP : va_P (dC, dI) vwCl [(hm, .inr (1, [.ref qc, .int mw, .int mf, .int (-1)])), (qc, .inl (cI, 149, .inl mc))] H := hP
    have hD : va_D A [(hm, .inr (1, [.ref qc, .int mw, .int mf, .int (-1)])), (qc, .inl (cI, 149, .inl mc))] := hD
    obtain ⟨e1_, e2_, e3_, e4_⟩ := lf4 hf
    subst e1_; subst e2_; subst e3_; subst e4_
    have hP9 := hP.sub (ws' := [(hm, .inr (1, [.ref qc, .int mw, .int mf, .int (-1)])), (qc, .inl (cI, 149, .inl mc))]) [0, 1] rfl
    have hD9 := hD.sub (ws' := [(hm, .inr (1, [.ref qc, .int mw, .int mf, .int (-1)])), (qc, .inl (cI, 149, .inl mc))]) [0, 1] (by decide) rfl
    refine W.widen (k := 1) (n := 149) (Nat.le_of_ble_eq_true rfl) (Nat.le_of_ble_eq_true rfl) ?_
    exact W.vret hx hb hr (fun t ht hW => ⟨⟨qc, rfl, trivial, by rw [ht]; exact hP9, va_K.moved hW.alike hK, hD9⟩, hS.F ht⟩) hS.2.2 d_M_init_41
  have hf := ifn hf hc1
  refine lv_aload_n hx hb d_M_init_20 rfl (lv_at hl 0 rfl) ?_
  refine va_get (D := (dC, dI)) (ci := 1) (v := .ref qc) (C := R_M) (T := F_M) (N := 4) hx hb hts inM hown hK hP 0 rfl rfl 0 (by decide) kf11 (fun _ h9 => h9) rfl d_M_init_21 ?_
  refine lv_bipush (v := 72) hx hb d_M_init_24 (by decide) ?_
  refine lv_iload_n hx hb d_M_init_26 rfl (lv_at hl 1 rfl) ?_
  refine lv_iadd hx hb d_M_init_27 ?_
  refine lv_iconst (v := 3) hx hb d_M_init_28 (by decide) ?_
  obtain ⟨hin_, hf⟩ := ix_some hf
  refine va_iast hx hb hK hP hD hS 1 0 rfl rfl hin_ d_M_init_29 (fun H locs hP hD hS => ?_)
  have hP : va_P (dC, dI) vwCl [(hm, .inr (1, [.ref qc, .int mw, .int mf, .int mz])), (qc, .inl (cI, 149, .inl (upd mc (72 + v1 : Int32).toNatClampNeg 3)))] H := hP
  have hD : va_D A [(hm, .inr (1, [.ref qc, .int mw, .int mf, .int mz])), (qc, .inl (cI, 149, .inl (upd mc (72 + v1 : Int32).toNatClampNeg 3)))] := hD
  refine lv_iinc (v := v1 + 1) hx hb d_M_init_30 hl (k := 1) rfl rfl (by decide) rfl (fun ls hl => ?_)
  have hl : lv_has ls 2 [(1, .int (v1 + 1)), (0, .ref hm)] := hl
  refine lv_goto (tgt := 15) hx hb d_M_init_33 rfl ?_
  have hl := lv_sub (l' := [(0, .ref hm), (1, .int (v1 + 1))]) hl [1, 0] rfl
  exact ih (upd mc (72 + v1 : Int32).toNatClampNeg 3, mw, mf, mz, v1 + 1) _ _ ls ⟨hP, hD, hS, hl, hf⟩
theorem d_M_at_0 : decode b_M_at 0 = .ok (.aload_n 0, 1) := by decide +kernel
theorem d_M_at_1 : decode b_M_at 1 = .ok (.getfield 11, 3) := by decide +kernel
theorem d_M_at_4 : decode b_M_at 4 = .ok (.iload_n 1, 1) := by decide +kernel
theorem d_M_at_5 : decode b_M_at 5 = .ok (.iaload, 1) := by decide +kernel
theorem d_M_at_6 : decode b_M_at 6 = .ok (.ireturn, 1) := by decide +kernel
def fM_at (σ : StM) (a1 : Int32) : Option (Int32) := match σ with | (mc, mw, mf, mz) => ix a1 149 fun j1 => some (mc j1)
set_option maxHeartbeats 4000000 in
set_option maxRecDepth 100000 in
theorem ctM_at (l : Launch) (dC : Nat → ClassId) (dI : Nat → Nat → Nat) (cI : ClassId) (hm qc : Nat) (mc : Nat → Int32) (mw : Int32) (mf : Int32) (mz : Int32) (a1 : Int32) (r : Int32) (hf : fM_at (mc, mw, mf, mz) a1 = some r) : CtI l y_M_at w_M_at ({ frames := 0, cells := 0, slots := 0, locals := 0 }) (dC, dI) [(cI, .int)] [.ref hm, .int a1] [(hm, .inr (1, [.ref qc, .int mw, .int mf, .int mz])), (qc, .inl (cI, 149, .inl mc))] [(hm, .inr (1, [.ref qc, .int mw, .int mf, .int mz])), (qc, .inl (cI, 149, .inl mc))] r := by
  intro sz
  refine Met.ofW (cc := b_M_at) (maxL := 2) (ret := some .int) (by decide) rfl ?_
  intro p e s m args below meth c s₁ B hml hv
  obtain ⟨rfl, hsz, hP, hK, hD0⟩ := hv
  have hx := B.exec
  have hb := B.bytes
  have hr := B.returns
  have hts := atoms_spec (ws := w_M_at) B.pre
  have hown : s.vm.findClass R_M = some m.cls := findClass_of_methodNamed B.named
  have hlocks := B.notSynchronized
  subst hsz
  have hD := hD0.self (sz := s.heap.size)
  generalize hAe : va_A [(hm, .inr (1, [.ref qc, .int mw, .int mf, .int mz])), (qc, .inl (cI, 149, .inl mc))] s.heap.size = A at hD ⊢
  have hA : ∀ q : Nat, s.heap.size ≤ q → A q := fun q h => by rw [← hAe]; exact Or.inr h
  have hS : va_S A s.heap s.heap [] := va_S.rf
  have hP : va_P (dC, dI) vwCl [(hm, .inr (1, [.ref qc, .int mw, .int mf, .int mz])), (qc, .inl (cI, 149, .inl mc))] s.heap := hP
  have hl := lv_entry ([.ref hm, .int a1]) (n := 2) (Nat.le_of_ble_eq_true rfl)
  rw [lg_entry_eq]
  generalize (lg_sl ([.ref hm, .int a1]) ++ List.replicate (2 - (lg_sl ([.ref hm, .int a1])).length) Slot.unset).toArray = ls at hl ⊢
  have hl : lv_has ls 2 [(0, .ref hm), (1, .int a1)] := hl
  have inM : ∀ w ∈ u_ws R_M F_M 4, w ∈ w_M_at := fun w h => List.mem_cons_of_mem _ (in_M w h)
  have kf11 := hts _ (List.mem_cons_of_mem _ wq64)
  rw [fM_at] at hf
  refine lv_aload_n hx hb d_M_at_0 rfl (lv_at hl 0 rfl) ?_
  refine va_get (D := (dC, dI)) (ci := 1) (v := .ref qc) (C := R_M) (T := F_M) (N := 4) hx hb hts inM hown hK hP 0 rfl rfl 0 (by decide) kf11 (fun _ h9 => h9) rfl d_M_at_1 ?_
  refine lv_iload_n hx hb d_M_at_4 rfl (lv_at hl 1 rfl) ?_
  obtain ⟨hin_, hf⟩ := ix_some hf
  refine va_iald hx hb hK hP 1 0 rfl rfl hin_ d_M_at_5 ?_
  have e1_ := lf1 hf
  subst e1_
  have hP9 := hP.sub (ws' := [(hm, .inr (1, [.ref qc, .int mw, .int mf, .int mz])), (qc, .inl (cI, 149, .inl mc))]) [0, 1] rfl
  have hD9 := hD.sub (ws' := [(hm, .inr (1, [.ref qc, .int mw, .int mf, .int mz])), (qc, .inl (cI, 149, .inl mc))]) [0, 1] (by decide) rfl
  exact W.iret (v := mc (a1 : Int32).toNatClampNeg) hx hb hr (fun t ht hW => ⟨⟨mc (a1 : Int32).toNatClampNeg, (), rfl, rfl, by rw [ht]; exact hP9, va_K.moved hW.alike hK, hD9⟩, hS.F ht⟩) hS.2.2 d_M_at_6
theorem d_M_count_0 : decode b_M_count 0 = .ok (.aload_n 0, 1) := by decide +kernel
theorem d_M_count_1 : decode b_M_count 1 = .ok (.getfield 11, 3) := by decide +kernel
theorem d_M_count_4 : decode b_M_count 4 = .ok (.sipush 148, 3) := by decide +kernel
theorem d_M_count_7 : decode b_M_count 7 = .ok (.iaload, 1) := by decide +kernel
theorem d_M_count_8 : decode b_M_count 8 = .ok (.ireturn, 1) := by decide +kernel
def fM_count (σ : StM) : Option (Int32) := match σ with | (mc, mw, mf, mz) => ix 148 149 fun j1 => some (mc j1)
set_option maxHeartbeats 4000000 in
set_option maxRecDepth 100000 in
theorem ctM_count (l : Launch) (dC : Nat → ClassId) (dI : Nat → Nat → Nat) (cI : ClassId) (hm qc : Nat) (mc : Nat → Int32) (mw : Int32) (mf : Int32) (mz : Int32) (r : Int32) (hf : fM_count (mc, mw, mf, mz) = some r) : CtI l y_M_count w_M_count ({ frames := 0, cells := 0, slots := 0, locals := 0 }) (dC, dI) [(cI, .int)] [.ref hm] [(hm, .inr (1, [.ref qc, .int mw, .int mf, .int mz])), (qc, .inl (cI, 149, .inl mc))] [(hm, .inr (1, [.ref qc, .int mw, .int mf, .int mz])), (qc, .inl (cI, 149, .inl mc))] r := by
  intro sz
  refine Met.ofW (cc := b_M_count) (maxL := 1) (ret := some .int) (by decide) rfl ?_
  intro p e s m args below meth c s₁ B hml hv
  obtain ⟨rfl, hsz, hP, hK, hD0⟩ := hv
  have hx := B.exec
  have hb := B.bytes
  have hr := B.returns
  have hts := atoms_spec (ws := w_M_count) B.pre
  have hown : s.vm.findClass R_M = some m.cls := findClass_of_methodNamed B.named
  have hlocks := B.notSynchronized
  subst hsz
  have hD := hD0.self (sz := s.heap.size)
  generalize hAe : va_A [(hm, .inr (1, [.ref qc, .int mw, .int mf, .int mz])), (qc, .inl (cI, 149, .inl mc))] s.heap.size = A at hD ⊢
  have hA : ∀ q : Nat, s.heap.size ≤ q → A q := fun q h => by rw [← hAe]; exact Or.inr h
  have hS : va_S A s.heap s.heap [] := va_S.rf
  have hP : va_P (dC, dI) vwCl [(hm, .inr (1, [.ref qc, .int mw, .int mf, .int mz])), (qc, .inl (cI, 149, .inl mc))] s.heap := hP
  have hl := lv_entry ([.ref hm]) (n := 1) (Nat.le_of_ble_eq_true rfl)
  rw [lg_entry_eq]
  generalize (lg_sl ([.ref hm]) ++ List.replicate (1 - (lg_sl ([.ref hm])).length) Slot.unset).toArray = ls at hl ⊢
  have hl : lv_has ls 1 [(0, .ref hm)] := hl
  have inM : ∀ w ∈ u_ws R_M F_M 4, w ∈ w_M_count := fun w h => List.mem_cons_of_mem _ (in_M w h)
  have kf11 := hts _ (List.mem_cons_of_mem _ wq64)
  rw [fM_count] at hf
  refine lv_aload_n hx hb d_M_count_0 rfl (lv_at hl 0 rfl) ?_
  refine va_get (D := (dC, dI)) (ci := 1) (v := .ref qc) (C := R_M) (T := F_M) (N := 4) hx hb hts inM hown hK hP 0 rfl rfl 0 (by decide) kf11 (fun _ h9 => h9) rfl d_M_count_1 ?_
  refine lv_sipush (v := 148) hx hb d_M_count_4 (by decide) ?_
  obtain ⟨hin_, hf⟩ := ix_some hf
  refine va_iald hx hb hK hP 1 0 rfl rfl hin_ d_M_count_7 ?_
  have e1_ := lf1 hf
  subst e1_
  have hP9 := hP.sub (ws' := [(hm, .inr (1, [.ref qc, .int mw, .int mf, .int mz])), (qc, .inl (cI, 149, .inl mc))]) [0, 1] rfl
  have hD9 := hD.sub (ws' := [(hm, .inr (1, [.ref qc, .int mw, .int mf, .int mz])), (qc, .inl (cI, 149, .inl mc))]) [0, 1] (by decide) rfl
  exact W.iret (v := mc (148 : Int32).toNatClampNeg) hx hb hr (fun t ht hW => ⟨⟨mc (148 : Int32).toNatClampNeg, (), rfl, rfl, by rw [ht]; exact hP9, va_K.moved hW.alike hK, hD9⟩, hS.F ht⟩) hS.2.2 d_M_count_8
theorem d_M_written_0 : decode b_M_written 0 = .ok (.aload_n 0, 1) := by decide +kernel
theorem d_M_written_1 : decode b_M_written 1 = .ok (.getfield 19, 3) := by decide +kernel
theorem d_M_written_4 : decode b_M_written 4 = .ok (.ireturn, 1) := by decide +kernel
def fM_written (σ : StM) : Option (Int32) := match σ with | (mc, mw, mf, mz) => some mw
set_option maxHeartbeats 4000000 in
set_option maxRecDepth 100000 in
theorem ctM_written (l : Launch) (dC : Nat → ClassId) (dI : Nat → Nat → Nat) (cI : ClassId) (hm qc : Nat) (mc : Nat → Int32) (mw : Int32) (mf : Int32) (mz : Int32) (r : Int32) (hf : fM_written (mc, mw, mf, mz) = some r) : CtI l y_M_written w_M_written ({ frames := 0, cells := 0, slots := 0, locals := 0 }) (dC, dI) [(cI, .int)] [.ref hm] [(hm, .inr (1, [.ref qc, .int mw, .int mf, .int mz])), (qc, .inl (cI, 149, .inl mc))] [(hm, .inr (1, [.ref qc, .int mw, .int mf, .int mz])), (qc, .inl (cI, 149, .inl mc))] r := by
  intro sz
  refine Met.ofW (cc := b_M_written) (maxL := 1) (ret := some .int) (by decide) rfl ?_
  intro p e s m args below meth c s₁ B hml hv
  obtain ⟨rfl, hsz, hP, hK, hD0⟩ := hv
  have hx := B.exec
  have hb := B.bytes
  have hr := B.returns
  have hts := atoms_spec (ws := w_M_written) B.pre
  have hown : s.vm.findClass R_M = some m.cls := findClass_of_methodNamed B.named
  have hlocks := B.notSynchronized
  subst hsz
  have hD := hD0.self (sz := s.heap.size)
  generalize hAe : va_A [(hm, .inr (1, [.ref qc, .int mw, .int mf, .int mz])), (qc, .inl (cI, 149, .inl mc))] s.heap.size = A at hD ⊢
  have hA : ∀ q : Nat, s.heap.size ≤ q → A q := fun q h => by rw [← hAe]; exact Or.inr h
  have hS : va_S A s.heap s.heap [] := va_S.rf
  have hP : va_P (dC, dI) vwCl [(hm, .inr (1, [.ref qc, .int mw, .int mf, .int mz])), (qc, .inl (cI, 149, .inl mc))] s.heap := hP
  have hl := lv_entry ([.ref hm]) (n := 1) (Nat.le_of_ble_eq_true rfl)
  rw [lg_entry_eq]
  generalize (lg_sl ([.ref hm]) ++ List.replicate (1 - (lg_sl ([.ref hm])).length) Slot.unset).toArray = ls at hl ⊢
  have hl : lv_has ls 1 [(0, .ref hm)] := hl
  have inM : ∀ w ∈ u_ws R_M F_M 4, w ∈ w_M_written := fun w h => List.mem_cons_of_mem _ (in_M w h)
  have kf19 := hts _ (List.mem_cons_of_mem _ wq65)
  rw [fM_written] at hf
  refine lv_aload_n hx hb d_M_written_0 rfl (lv_at hl 0 rfl) ?_
  refine va_get (D := (dC, dI)) (ci := 1) (v := .int mw) (C := R_M) (T := F_M) (N := 4) hx hb hts inM hown hK hP 0 rfl rfl 1 (by decide) kf19 (fun _ h9 => h9) rfl d_M_written_1 ?_
  have e1_ := lf1 hf
  subst e1_
  have hP9 := hP.sub (ws' := [(hm, .inr (1, [.ref qc, .int mw, .int mf, .int mz])), (qc, .inl (cI, 149, .inl mc))]) [0, 1] rfl
  have hD9 := hD.sub (ws' := [(hm, .inr (1, [.ref qc, .int mw, .int mf, .int mz])), (qc, .inl (cI, 149, .inl mc))]) [0, 1] (by decide) rfl
  exact W.iret (v := mw) hx hb hr (fun t ht hW => ⟨⟨mw, (), rfl, rfl, by rw [ht]; exact hP9, va_K.moved hW.alike hK, hD9⟩, hS.F ht⟩) hS.2.2 d_M_written_4
theorem d_M_failed_0 : decode b_M_failed 0 = .ok (.aload_n 0, 1) := by decide +kernel
theorem d_M_failed_1 : decode b_M_failed 1 = .ok (.getfield 22, 3) := by decide +kernel
theorem d_M_failed_4 : decode b_M_failed 4 = .ok (.ireturn, 1) := by decide +kernel
def fM_failed (σ : StM) : Option (Int32) := match σ with | (mc, mw, mf, mz) => some mf
set_option maxHeartbeats 4000000 in
set_option maxRecDepth 100000 in
theorem ctM_failed (l : Launch) (dC : Nat → ClassId) (dI : Nat → Nat → Nat) (cI : ClassId) (hm qc : Nat) (mc : Nat → Int32) (mw : Int32) (mf : Int32) (mz : Int32) (r : Int32) (hf : fM_failed (mc, mw, mf, mz) = some r) : CtI l y_M_failed w_M_failed ({ frames := 0, cells := 0, slots := 0, locals := 0 }) (dC, dI) [(cI, .int)] [.ref hm] [(hm, .inr (1, [.ref qc, .int mw, .int mf, .int mz])), (qc, .inl (cI, 149, .inl mc))] [(hm, .inr (1, [.ref qc, .int mw, .int mf, .int mz])), (qc, .inl (cI, 149, .inl mc))] r := by
  intro sz
  refine Met.ofW (cc := b_M_failed) (maxL := 1) (ret := some .int) (by decide) rfl ?_
  intro p e s m args below meth c s₁ B hml hv
  obtain ⟨rfl, hsz, hP, hK, hD0⟩ := hv
  have hx := B.exec
  have hb := B.bytes
  have hr := B.returns
  have hts := atoms_spec (ws := w_M_failed) B.pre
  have hown : s.vm.findClass R_M = some m.cls := findClass_of_methodNamed B.named
  have hlocks := B.notSynchronized
  subst hsz
  have hD := hD0.self (sz := s.heap.size)
  generalize hAe : va_A [(hm, .inr (1, [.ref qc, .int mw, .int mf, .int mz])), (qc, .inl (cI, 149, .inl mc))] s.heap.size = A at hD ⊢
  have hA : ∀ q : Nat, s.heap.size ≤ q → A q := fun q h => by rw [← hAe]; exact Or.inr h
  have hS : va_S A s.heap s.heap [] := va_S.rf
  have hP : va_P (dC, dI) vwCl [(hm, .inr (1, [.ref qc, .int mw, .int mf, .int mz])), (qc, .inl (cI, 149, .inl mc))] s.heap := hP
  have hl := lv_entry ([.ref hm]) (n := 1) (Nat.le_of_ble_eq_true rfl)
  rw [lg_entry_eq]
  generalize (lg_sl ([.ref hm]) ++ List.replicate (1 - (lg_sl ([.ref hm])).length) Slot.unset).toArray = ls at hl ⊢
  have hl : lv_has ls 1 [(0, .ref hm)] := hl
  have inM : ∀ w ∈ u_ws R_M F_M 4, w ∈ w_M_failed := fun w h => List.mem_cons_of_mem _ (in_M w h)
  have kf22 := hts _ (List.mem_cons_of_mem _ wq66)
  rw [fM_failed] at hf
  refine lv_aload_n hx hb d_M_failed_0 rfl (lv_at hl 0 rfl) ?_
  refine va_get (D := (dC, dI)) (ci := 1) (v := .int mf) (C := R_M) (T := F_M) (N := 4) hx hb hts inM hown hK hP 0 rfl rfl 2 (by decide) kf22 (fun _ h9 => h9) rfl d_M_failed_1 ?_
  have e1_ := lf1 hf
  subst e1_
  have hP9 := hP.sub (ws' := [(hm, .inr (1, [.ref qc, .int mw, .int mf, .int mz])), (qc, .inl (cI, 149, .inl mc))]) [0, 1] rfl
  have hD9 := hD.sub (ws' := [(hm, .inr (1, [.ref qc, .int mw, .int mf, .int mz])), (qc, .inl (cI, 149, .inl mc))]) [0, 1] (by decide) rfl
  exact W.iret (v := mf) hx hb hr (fun t ht hW => ⟨⟨mf, (), rfl, rfl, by rw [ht]; exact hP9, va_K.moved hW.alike hK, hD9⟩, hS.F ht⟩) hS.2.2 d_M_failed_4
theorem d_M_arm_0 : decode b_M_arm 0 = .ok (.aload_n 0, 1) := by decide +kernel
theorem d_M_arm_1 : decode b_M_arm 1 = .ok (.iload_n 1, 1) := by decide +kernel
theorem d_M_arm_2 : decode b_M_arm 2 = .ok (.putfield 15, 3) := by decide +kernel
theorem d_M_arm_5 : decode b_M_arm 5 = .ok (.return_, 1) := by decide +kernel
def fM_arm (σ : StM) (a1 : Int32) : Option (StM) := match σ with | (mc, mw, mf, mz) => some (mc, mw, mf, a1)
set_option maxHeartbeats 4000000 in
set_option maxRecDepth 100000 in
theorem ctM_arm (l : Launch) (dC : Nat → ClassId) (dI : Nat → Nat → Nat) (cI : ClassId) (hm qc : Nat) (mc : Nat → Int32) (mw : Int32) (mf : Int32) (mz : Int32) (a1 : Int32) (mc' : Nat → Int32) (mw' : Int32) (mf' : Int32) (mz' : Int32) (hf : fM_arm (mc, mw, mf, mz) a1 = some (mc', mw', mf', mz')) : CtV l y_M_arm w_M_arm ({ frames := 0, cells := 0, slots := 0, locals := 0 }) (dC, dI) [(cI, .int)] [.ref hm, .int a1] [(hm, .inr (1, [.ref qc, .int mw, .int mf, .int mz])), (qc, .inl (cI, 149, .inl mc))] [(hm, .inr (1, [.ref qc, .int mw', .int mf', .int mz'])), (qc, .inl (cI, 149, .inl mc'))] := by
  intro sz
  refine Met.ofW (cc := b_M_arm) (maxL := 2) (ret := none) (by decide) rfl ?_
  intro p e s m args below meth c s₁ B hml hv
  obtain ⟨rfl, hsz, hP, hK, hD0⟩ := hv
  have hx := B.exec
  have hb := B.bytes
  have hr := B.returns
  have hts := atoms_spec (ws := w_M_arm) B.pre
  have hown : s.vm.findClass R_M = some m.cls := findClass_of_methodNamed B.named
  have hlocks := B.notSynchronized
  subst hsz
  have hD := hD0.self (sz := s.heap.size)
  generalize hAe : va_A [(hm, .inr (1, [.ref qc, .int mw, .int mf, .int mz])), (qc, .inl (cI, 149, .inl mc))] s.heap.size = A at hD ⊢
  have hA : ∀ q : Nat, s.heap.size ≤ q → A q := fun q h => by rw [← hAe]; exact Or.inr h
  have hS : va_S A s.heap s.heap [] := va_S.rf
  have hP : va_P (dC, dI) vwCl [(hm, .inr (1, [.ref qc, .int mw, .int mf, .int mz])), (qc, .inl (cI, 149, .inl mc))] s.heap := hP
  have hl := lv_entry ([.ref hm, .int a1]) (n := 2) (Nat.le_of_ble_eq_true rfl)
  rw [lg_entry_eq]
  generalize (lg_sl ([.ref hm, .int a1]) ++ List.replicate (2 - (lg_sl ([.ref hm, .int a1])).length) Slot.unset).toArray = ls at hl ⊢
  have hl : lv_has ls 2 [(0, .ref hm), (1, .int a1)] := hl
  have inM : ∀ w ∈ u_ws R_M F_M 4, w ∈ w_M_arm := fun w h => List.mem_cons_of_mem _ (in_M w h)
  have kf15 := hts _ (List.mem_cons_of_mem _ wq67)
  rw [fM_arm] at hf
  refine lv_aload_n hx hb d_M_arm_0 rfl (lv_at hl 0 rfl) ?_
  refine lv_iload_n hx hb d_M_arm_1 rfl (lv_at hl 1 rfl) ?_
  refine va_put (D := (dC, dI)) (ci := 1) (v := .int a1) (ty := .int) (C := R_M) (T := F_M) (N := 4) hx hb hts inM t_M t_M_ok n_M hown hK hP hD hS 0 rfl rfl 3 (by decide) kf15 (fun _ h9 => h9) rfl (by decide +kernel) rfl rfl (Nat.le_of_ble_eq_true rfl) d_M_arm_2 (fun H locs hP hD hS => ?_)
  have hP : va_P (dC, dI) vwCl [(hm, .inr (1, [.ref qc, .int mw, .int mf, .int a1])), (qc, .inl (cI, 149, .inl mc))] H := hP
  have hD : va_D A [(hm, .inr (1, [.ref qc, .int mw, .int mf, .int a1])), (qc, .inl (cI, 149, .inl mc))] := hD
  obtain ⟨e1_, e2_, e3_, e4_⟩ := lf4 hf
  subst e1_; subst e2_; subst e3_; subst e4_
  have hP9 := hP.sub (ws' := [(hm, .inr (1, [.ref qc, .int mw, .int mf, .int a1])), (qc, .inl (cI, 149, .inl mc))]) [0, 1] rfl
  have hD9 := hD.sub (ws' := [(hm, .inr (1, [.ref qc, .int mw, .int mf, .int a1])), (qc, .inl (cI, 149, .inl mc))]) [0, 1] (by decide) rfl
  exact W.vret hx hb hr (fun t ht hW => ⟨⟨(), rfl, trivial, by rw [ht]; exact hP9, va_K.moved hW.alike hK, hD9⟩, hS.F ht⟩) hS.2.2 d_M_arm_5
theorem d_M_write_0 : decode b_M_write 0 = .ok (.aload_n 0, 1) := by decide +kernel
theorem d_M_write_1 : decode b_M_write 1 = .ok (.getfield 15, 3) := by decide +kernel
theorem d_M_write_4 : decode b_M_write 4 = .ok (.ifCond .ne 20, 3) := by decide +kernel
theorem d_M_write_7 : decode b_M_write 7 = .ok (.aload_n 0, 1) := by decide +kernel
theorem d_M_write_8 : decode b_M_write 8 = .ok (.iconst (-1), 1) := by decide +kernel
theorem d_M_write_9 : decode b_M_write 9 = .ok (.putfield 15, 3) := by decide +kernel
theorem d_M_write_12 : decode b_M_write 12 = .ok (.aload_n 0, 1) := by decide +kernel
theorem d_M_write_13 : decode b_M_write 13 = .ok (.dup, 1) := by decide +kernel
theorem d_M_write_14 : decode b_M_write 14 = .ok (.getfield 22, 3) := by decide +kernel
theorem d_M_write_17 : decode b_M_write 17 = .ok (.iconst 1, 1) := by decide +kernel
theorem d_M_write_18 : decode b_M_write 18 = .ok (.iadd, 1) := by decide +kernel
theorem d_M_write_19 : decode b_M_write 19 = .ok (.putfield 22, 3) := by decide +kernel
theorem d_M_write_22 : decode b_M_write 22 = .ok (.iconst 0, 1) := by decide +kernel
theorem d_M_write_23 : decode b_M_write 23 = .ok (.ireturn, 1) := by decide +kernel
theorem d_M_write_24 : decode b_M_write 24 = .ok (.aload_n 0, 1) := by decide +kernel
theorem d_M_write_25 : decode b_M_write 25 = .ok (.getfield 15, 3) := by decide +kernel
theorem d_M_write_28 : decode b_M_write 28 = .ok (.ifCond .le 13, 3) := by decide +kernel
theorem d_M_write_31 : decode b_M_write 31 = .ok (.aload_n 0, 1) := by decide +kernel
theorem d_M_write_32 : decode b_M_write 32 = .ok (.dup, 1) := by decide +kernel
theorem d_M_write_33 : decode b_M_write 33 = .ok (.getfield 15, 3) := by decide +kernel
theorem d_M_write_36 : decode b_M_write 36 = .ok (.iconst 1, 1) := by decide +kernel
theorem d_M_write_37 : decode b_M_write 37 = .ok (.isub, 1) := by decide +kernel
theorem d_M_write_38 : decode b_M_write 38 = .ok (.putfield 15, 3) := by decide +kernel
theorem d_M_write_41 : decode b_M_write 41 = .ok (.aload_n 0, 1) := by decide +kernel
theorem d_M_write_42 : decode b_M_write 42 = .ok (.getfield 11, 3) := by decide +kernel
theorem d_M_write_45 : decode b_M_write 45 = .ok (.iload_n 1, 1) := by decide +kernel
theorem d_M_write_46 : decode b_M_write 46 = .ok (.iload_n 2, 1) := by decide +kernel
theorem d_M_write_47 : decode b_M_write 47 = .ok (.iastore, 1) := by decide +kernel
theorem d_M_write_48 : decode b_M_write 48 = .ok (.aload_n 0, 1) := by decide +kernel
theorem d_M_write_49 : decode b_M_write 49 = .ok (.dup, 1) := by decide +kernel
theorem d_M_write_50 : decode b_M_write 50 = .ok (.getfield 19, 3) := by decide +kernel
theorem d_M_write_53 : decode b_M_write 53 = .ok (.iconst 1, 1) := by decide +kernel
theorem d_M_write_54 : decode b_M_write 54 = .ok (.iadd, 1) := by decide +kernel
theorem d_M_write_55 : decode b_M_write 55 = .ok (.putfield 19, 3) := by decide +kernel
theorem d_M_write_58 : decode b_M_write 58 = .ok (.iconst 1, 1) := by decide +kernel
theorem d_M_write_59 : decode b_M_write 59 = .ok (.ireturn, 1) := by decide +kernel
def fM_write (σ : StM) (a1 : Int32) (a2 : Int32) : Option (Int32 × StM) := match σ with | (mc, mw, mf, mz) => if mz = 0 then (some (0, mc, mw, mf + 1, (-1))) else (if mz ≤ 0 then (ix a1 149 fun j3 => some (1, upd mc j3 a2, mw + 1, mf, mz)) else (ix a1 149 fun j4 => some (1, upd mc j4 a2, mw + 1, mf, mz - 1)))
set_option maxHeartbeats 4000000 in
set_option maxRecDepth 100000 in
theorem ctM_write (l : Launch) (dC : Nat → ClassId) (dI : Nat → Nat → Nat) (cI : ClassId) (hm qc : Nat) (mc : Nat → Int32) (mw : Int32) (mf : Int32) (mz : Int32) (a1 : Int32) (a2 : Int32) (r : Int32) (mc' : Nat → Int32) (mw' : Int32) (mf' : Int32) (mz' : Int32) (hf : fM_write (mc, mw, mf, mz) a1 a2 = some (r, mc', mw', mf', mz')) : CtZ l y_M_write w_M_write ({ frames := 0, cells := 0, slots := 0, locals := 0 }) (dC, dI) [(cI, .int)] [.ref hm, .int a1, .int a2] [(hm, .inr (1, [.ref qc, .int mw, .int mf, .int mz])), (qc, .inl (cI, 149, .inl mc))] [(hm, .inr (1, [.ref qc, .int mw', .int mf', .int mz'])), (qc, .inl (cI, 149, .inl mc'))] r := by
  intro sz
  refine Met.ofW (cc := b_M_write) (maxL := 3) (ret := some .boolean) (by decide) rfl ?_
  intro p e s m args below meth c s₁ B hml hv
  obtain ⟨rfl, hsz, hP, hK, hD0⟩ := hv
  have hx := B.exec
  have hb := B.bytes
  have hr := B.returns
  have hts := atoms_spec (ws := w_M_write) B.pre
  have hown : s.vm.findClass R_M = some m.cls := findClass_of_methodNamed B.named
  have hlocks := B.notSynchronized
  subst hsz
  have hD := hD0.self (sz := s.heap.size)
  generalize hAe : va_A [(hm, .inr (1, [.ref qc, .int mw, .int mf, .int mz])), (qc, .inl (cI, 149, .inl mc))] s.heap.size = A at hD ⊢
  have hA : ∀ q : Nat, s.heap.size ≤ q → A q := fun q h => by rw [← hAe]; exact Or.inr h
  have hS : va_S A s.heap s.heap [] := va_S.rf
  have hP : va_P (dC, dI) vwCl [(hm, .inr (1, [.ref qc, .int mw, .int mf, .int mz])), (qc, .inl (cI, 149, .inl mc))] s.heap := hP
  have hl := lv_entry ([.ref hm, .int a1, .int a2]) (n := 3) (Nat.le_of_ble_eq_true rfl)
  rw [lg_entry_eq]
  generalize (lg_sl ([.ref hm, .int a1, .int a2]) ++ List.replicate (3 - (lg_sl ([.ref hm, .int a1, .int a2])).length) Slot.unset).toArray = ls at hl ⊢
  have hl : lv_has ls 3 [(0, .ref hm), (1, .int a1), (2, .int a2)] := hl
  have inM : ∀ w ∈ u_ws R_M F_M 4, w ∈ w_M_write := fun w h => List.mem_cons_of_mem _ (in_M w h)
  have kf11 := hts _ (List.mem_cons_of_mem _ wq64)
  have kf15 := hts _ (List.mem_cons_of_mem _ wq67)
  have kf19 := hts _ (List.mem_cons_of_mem _ wq65)
  have kf22 := hts _ (List.mem_cons_of_mem _ wq66)
  rw [fM_write] at hf
  refine lv_aload_n hx hb d_M_write_0 rfl (lv_at hl 0 rfl) ?_
  refine va_get (D := (dC, dI)) (ci := 1) (v := .int mz) (C := R_M) (T := F_M) (N := 4) hx hb hts inM hown hK hP 0 rfl rfl 3 (by decide) kf15 (fun _ h9 => h9) rfl d_M_write_1 ?_
  refine lv_if_ne (tgt := 24) hx hb d_M_write_4 rfl (fun hc1 => ?_) (fun hc1 => ?_)
  · have hf := ifn hf hc1
    refine lv_aload_n hx hb d_M_write_24 rfl (lv_at hl 0 rfl) ?_
    refine va_get (D := (dC, dI)) (ci := 1) (v := .int mz) (C := R_M) (T := F_M) (N := 4) hx hb hts inM hown hK hP 0 rfl rfl 3 (by decide) kf15 (fun _ h9 => h9) rfl d_M_write_25 ?_
    refine lv_if_le (tgt := 41) hx hb d_M_write_28 rfl (fun hc2 => ?_) (fun hc2 => ?_)
    · have hf := ift hf hc2
      refine lv_aload_n hx hb d_M_write_41 rfl (lv_at hl 0 rfl) ?_
      refine va_get (D := (dC, dI)) (ci := 1) (v := .ref qc) (C := R_M) (T := F_M) (N := 4) hx hb hts inM hown hK hP 0 rfl rfl 0 (by decide) kf11 (fun _ h9 => h9) rfl d_M_write_42 ?_
      refine lv_iload_n hx hb d_M_write_45 rfl (lv_at hl 1 rfl) ?_
      refine lv_iload_n hx hb d_M_write_46 rfl (lv_at hl 2 rfl) ?_
      obtain ⟨hin_, hf⟩ := ix_some hf
      refine va_iast hx hb hK hP hD hS 1 0 rfl rfl hin_ d_M_write_47 (fun H locs hP hD hS => ?_)
      have hP : va_P (dC, dI) vwCl [(hm, .inr (1, [.ref qc, .int mw, .int mf, .int mz])), (qc, .inl (cI, 149, .inl (upd mc (a1 : Int32).toNatClampNeg a2)))] H := hP
      have hD : va_D A [(hm, .inr (1, [.ref qc, .int mw, .int mf, .int mz])), (qc, .inl (cI, 149, .inl (upd mc (a1 : Int32).toNatClampNeg a2)))] := hD
      refine lv_aload_n hx hb d_M_write_48 rfl (lv_at hl 0 rfl) ?_
      refine lv_dup hx hb d_M_write_49 rfl ?_
      refine va_get (D := (dC, dI)) (ci := 1) (v := .int mw) (C := R_M) (T := F_M) (N := 4) hx hb hts inM hown hK hP 0 rfl rfl 1 (by decide) kf19 (fun _ h9 => h9) rfl d_M_write_50 ?_
      refine lv_iconst (v := 1) hx hb d_M_write_53 (by decide) ?_
      refine lv_iadd hx hb d_M_write_54 ?_
      refine va_put (D := (dC, dI)) (ci := 1) (v := .int (mw + 1)) (ty := .int) (C := R_M) (T := F_M) (N := 4) hx hb hts inM t_M t_M_ok n_M hown hK hP hD hS 0 rfl rfl 1 (by decide) kf19 (fun _ h9 => h9) rfl (by decide +kernel) rfl rfl (Nat.le_of_ble_eq_true rfl) d_M_write_55 (fun H locs hP hD hS => ?_)
      have hP : va_P (dC, dI) vwCl [(hm, .inr (1, [.ref qc, .int (mw + 1), .int mf, .int mz])), (qc, .inl (cI, 149, .inl (upd mc (a1 : Int32).toNatClampNeg a2)))] H := hP
      have hD : va_D A [(hm, .inr (1, [.ref qc, .int (mw + 1), .int mf, .int mz])), (qc, .inl (cI, 149, .inl (upd mc (a1 : Int32).toNatClampNeg a2)))] := hD
      refine lv_iconst (v := 1) hx hb d_M_write_58 (by decide) ?_
      obtain ⟨e1_, e2_, e3_, e4_, e5_⟩ := lf5 hf
      subst e1_; subst e2_; subst e3_; subst e4_; subst e5_
      have hP9 := hP.sub (ws' := [(hm, .inr (1, [.ref qc, .int (mw + 1), .int mf, .int mz])), (qc, .inl (cI, 149, .inl (upd mc (a1 : Int32).toNatClampNeg a2)))]) [0, 1] rfl
      have hD9 := hD.sub (ws' := [(hm, .inr (1, [.ref qc, .int (mw + 1), .int mf, .int mz])), (qc, .inl (cI, 149, .inl (upd mc (a1 : Int32).toNatClampNeg a2)))]) [0, 1] (by decide) rfl
      exact W.zret (v := 1) (ty := .boolean) hx hb hr rfl (fun t ht hW => ⟨⟨1, (), rfl, ⟨rfl, rfl⟩, by rw [ht]; exact hP9, va_K.moved hW.alike hK, hD9⟩, hS.F ht⟩) hS.2.2 d_M_write_59
    have hf := ifn hf hc2
    refine lv_aload_n hx hb d_M_write_31 rfl (lv_at hl 0 rfl) ?_
    refine lv_dup hx hb d_M_write_32 rfl ?_
    refine va_get (D := (dC, dI)) (ci := 1) (v := .int mz) (C := R_M) (T := F_M) (N := 4) hx hb hts inM hown hK hP 0 rfl rfl 3 (by decide) kf15 (fun _ h9 => h9) rfl d_M_write_33 ?_
    refine lv_iconst (v := 1) hx hb d_M_write_36 (by decide) ?_
    refine lv_isub hx hb d_M_write_37 ?_
    refine va_put (D := (dC, dI)) (ci := 1) (v := .int (mz - 1)) (ty := .int) (C := R_M) (T := F_M) (N := 4) hx hb hts inM t_M t_M_ok n_M hown hK hP hD hS 0 rfl rfl 3 (by decide) kf15 (fun _ h9 => h9) rfl (by decide +kernel) rfl rfl (Nat.le_of_ble_eq_true rfl) d_M_write_38 (fun H locs hP hD hS => ?_)
    have hP : va_P (dC, dI) vwCl [(hm, .inr (1, [.ref qc, .int mw, .int mf, .int (mz - 1)])), (qc, .inl (cI, 149, .inl mc))] H := hP
    have hD : va_D A [(hm, .inr (1, [.ref qc, .int mw, .int mf, .int (mz - 1)])), (qc, .inl (cI, 149, .inl mc))] := hD
    refine lv_aload_n hx hb d_M_write_41 rfl (lv_at hl 0 rfl) ?_
    refine va_get (D := (dC, dI)) (ci := 1) (v := .ref qc) (C := R_M) (T := F_M) (N := 4) hx hb hts inM hown hK hP 0 rfl rfl 0 (by decide) kf11 (fun _ h9 => h9) rfl d_M_write_42 ?_
    refine lv_iload_n hx hb d_M_write_45 rfl (lv_at hl 1 rfl) ?_
    refine lv_iload_n hx hb d_M_write_46 rfl (lv_at hl 2 rfl) ?_
    obtain ⟨hin_, hf⟩ := ix_some hf
    refine va_iast hx hb hK hP hD hS 1 0 rfl rfl hin_ d_M_write_47 (fun H locs hP hD hS => ?_)
    have hP : va_P (dC, dI) vwCl [(hm, .inr (1, [.ref qc, .int mw, .int mf, .int (mz - 1)])), (qc, .inl (cI, 149, .inl (upd mc (a1 : Int32).toNatClampNeg a2)))] H := hP
    have hD : va_D A [(hm, .inr (1, [.ref qc, .int mw, .int mf, .int (mz - 1)])), (qc, .inl (cI, 149, .inl (upd mc (a1 : Int32).toNatClampNeg a2)))] := hD
    refine lv_aload_n hx hb d_M_write_48 rfl (lv_at hl 0 rfl) ?_
    refine lv_dup hx hb d_M_write_49 rfl ?_
    refine va_get (D := (dC, dI)) (ci := 1) (v := .int mw) (C := R_M) (T := F_M) (N := 4) hx hb hts inM hown hK hP 0 rfl rfl 1 (by decide) kf19 (fun _ h9 => h9) rfl d_M_write_50 ?_
    refine lv_iconst (v := 1) hx hb d_M_write_53 (by decide) ?_
    refine lv_iadd hx hb d_M_write_54 ?_
    refine va_put (D := (dC, dI)) (ci := 1) (v := .int (mw + 1)) (ty := .int) (C := R_M) (T := F_M) (N := 4) hx hb hts inM t_M t_M_ok n_M hown hK hP hD hS 0 rfl rfl 1 (by decide) kf19 (fun _ h9 => h9) rfl (by decide +kernel) rfl rfl (Nat.le_of_ble_eq_true rfl) d_M_write_55 (fun H locs hP hD hS => ?_)
    have hP : va_P (dC, dI) vwCl [(hm, .inr (1, [.ref qc, .int (mw + 1), .int mf, .int (mz - 1)])), (qc, .inl (cI, 149, .inl (upd mc (a1 : Int32).toNatClampNeg a2)))] H := hP
    have hD : va_D A [(hm, .inr (1, [.ref qc, .int (mw + 1), .int mf, .int (mz - 1)])), (qc, .inl (cI, 149, .inl (upd mc (a1 : Int32).toNatClampNeg a2)))] := hD
    refine lv_iconst (v := 1) hx hb d_M_write_58 (by decide) ?_
    obtain ⟨e1_, e2_, e3_, e4_, e5_⟩ := lf5 hf
    subst e1_; subst e2_; subst e3_; subst e4_; subst e5_
    have hP9 := hP.sub (ws' := [(hm, .inr (1, [.ref qc, .int (mw + 1), .int mf, .int (mz - 1)])), (qc, .inl (cI, 149, .inl (upd mc (a1 : Int32).toNatClampNeg a2)))]) [0, 1] rfl
    have hD9 := hD.sub (ws' := [(hm, .inr (1, [.ref qc, .int (mw + 1), .int mf, .int (mz - 1)])), (qc, .inl (cI, 149, .inl (upd mc (a1 : Int32).toNatClampNeg a2)))]) [0, 1] (by decide) rfl
    exact W.zret (v := 1) (ty := .boolean) hx hb hr rfl (fun t ht hW => ⟨⟨1, (), rfl, ⟨rfl, rfl⟩, by rw [ht]; exact hP9, va_K.moved hW.alike hK, hD9⟩, hS.F ht⟩) hS.2.2 d_M_write_59
  have hf := ift hf hc1
  refine lv_aload_n hx hb d_M_write_7 rfl (lv_at hl 0 rfl) ?_
  refine lv_iconst (v := (-1)) hx hb d_M_write_8 (by decide) ?_
  refine va_put (D := (dC, dI)) (ci := 1) (v := .int (-1)) (ty := .int) (C := R_M) (T := F_M) (N := 4) hx hb hts inM t_M t_M_ok n_M hown hK hP hD hS 0 rfl rfl 3 (by decide) kf15 (fun _ h9 => h9) rfl (by decide +kernel) rfl rfl (Nat.le_of_ble_eq_true rfl) d_M_write_9 (fun H locs hP hD hS => ?_)
  have hP : va_P (dC, dI) vwCl [(hm, .inr (1, [.ref qc, .int mw, .int mf, .int (-1)])), (qc, .inl (cI, 149, .inl mc))] H := hP
  have hD : va_D A [(hm, .inr (1, [.ref qc, .int mw, .int mf, .int (-1)])), (qc, .inl (cI, 149, .inl mc))] := hD
  refine lv_aload_n hx hb d_M_write_12 rfl (lv_at hl 0 rfl) ?_
  refine lv_dup hx hb d_M_write_13 rfl ?_
  refine va_get (D := (dC, dI)) (ci := 1) (v := .int mf) (C := R_M) (T := F_M) (N := 4) hx hb hts inM hown hK hP 0 rfl rfl 2 (by decide) kf22 (fun _ h9 => h9) rfl d_M_write_14 ?_
  refine lv_iconst (v := 1) hx hb d_M_write_17 (by decide) ?_
  refine lv_iadd hx hb d_M_write_18 ?_
  refine va_put (D := (dC, dI)) (ci := 1) (v := .int (mf + 1)) (ty := .int) (C := R_M) (T := F_M) (N := 4) hx hb hts inM t_M t_M_ok n_M hown hK hP hD hS 0 rfl rfl 2 (by decide) kf22 (fun _ h9 => h9) rfl (by decide +kernel) rfl rfl (Nat.le_of_ble_eq_true rfl) d_M_write_19 (fun H locs hP hD hS => ?_)
  have hP : va_P (dC, dI) vwCl [(hm, .inr (1, [.ref qc, .int mw, .int (mf + 1), .int (-1)])), (qc, .inl (cI, 149, .inl mc))] H := hP
  have hD : va_D A [(hm, .inr (1, [.ref qc, .int mw, .int (mf + 1), .int (-1)])), (qc, .inl (cI, 149, .inl mc))] := hD
  refine lv_iconst (v := 0) hx hb d_M_write_22 (by decide) ?_
  obtain ⟨e1_, e2_, e3_, e4_, e5_⟩ := lf5 hf
  subst e1_; subst e2_; subst e3_; subst e4_; subst e5_
  have hP9 := hP.sub (ws' := [(hm, .inr (1, [.ref qc, .int mw, .int (mf + 1), .int (-1)])), (qc, .inl (cI, 149, .inl mc))]) [0, 1] rfl
  have hD9 := hD.sub (ws' := [(hm, .inr (1, [.ref qc, .int mw, .int (mf + 1), .int (-1)])), (qc, .inl (cI, 149, .inl mc))]) [0, 1] (by decide) rfl
  exact W.zret (v := 0) (ty := .boolean) hx hb hr rfl (fun t ht hW => ⟨⟨0, (), rfl, ⟨rfl, rfl⟩, by rw [ht]; exact hP9, va_K.moved hW.alike hK, hD9⟩, hS.F ht⟩) hS.2.2 d_M_write_23
theorem d_M_change_0 : decode b_M_change 0 = .ok (.bipush 108, 2) := by decide +kernel
theorem d_M_change_2 : decode b_M_change 2 = .ok (.iconst 2, 1) := by decide +kernel
theorem d_M_change_3 : decode b_M_change 3 = .ok (.aload_n 0, 1) := by decide +kernel
theorem d_M_change_4 : decode b_M_change 4 = .ok (.invokevirtual 25, 3) := by decide +kernel
theorem d_M_change_7 : decode b_M_change 7 = .ok (.imul, 1) := by decide +kernel
theorem d_M_change_8 : decode b_M_change 8 = .ok (.iadd, 1) := by decide +kernel
theorem d_M_change_9 : decode b_M_change 9 = .ok (.istore_n 3, 1) := by decide +kernel
theorem d_M_change_10 : decode b_M_change 10 = .ok (.aload_n 0, 1) := by decide +kernel
theorem d_M_change_11 : decode b_M_change 11 = .ok (.iload_n 3, 1) := by decide +kernel
theorem d_M_change_12 : decode b_M_change 12 = .ok (.iload_n 1, 1) := by decide +kernel
theorem d_M_change_13 : decode b_M_change 13 = .ok (.invokevirtual 29, 3) := by decide +kernel
theorem d_M_change_16 : decode b_M_change 16 = .ok (.ifCond .eq 48, 3) := by decide +kernel
theorem d_M_change_19 : decode b_M_change 19 = .ok (.aload_n 0, 1) := by decide +kernel
theorem d_M_change_20 : decode b_M_change 20 = .ok (.iload_n 3, 1) := by decide +kernel
theorem d_M_change_21 : decode b_M_change 21 = .ok (.iconst 1, 1) := by decide +kernel
theorem d_M_change_22 : decode b_M_change 22 = .ok (.iadd, 1) := by decide +kernel
theorem d_M_change_23 : decode b_M_change 23 = .ok (.aload_n 0, 1) := by decide +kernel
theorem d_M_change_24 : decode b_M_change 24 = .ok (.getfield 11, 3) := by decide +kernel
theorem d_M_change_27 : decode b_M_change 27 = .ok (.iload_n 1, 1) := by decide +kernel
theorem d_M_change_28 : decode b_M_change 28 = .ok (.iaload, 1) := by decide +kernel
theorem d_M_change_29 : decode b_M_change 29 = .ok (.invokevirtual 29, 3) := by decide +kernel
theorem d_M_change_32 : decode b_M_change 32 = .ok (.ifCond .eq 32, 3) := by decide +kernel
theorem d_M_change_35 : decode b_M_change 35 = .ok (.aload_n 0, 1) := by decide +kernel
theorem d_M_change_36 : decode b_M_change 36 = .ok (.sipush 148, 3) := by decide +kernel
theorem d_M_change_39 : decode b_M_change 39 = .ok (.aload_n 0, 1) := by decide +kernel
theorem d_M_change_40 : decode b_M_change 40 = .ok (.invokevirtual 25, 3) := by decide +kernel
theorem d_M_change_43 : decode b_M_change 43 = .ok (.iconst 1, 1) := by decide +kernel
theorem d_M_change_44 : decode b_M_change 44 = .ok (.iadd, 1) := by decide +kernel
theorem d_M_change_45 : decode b_M_change 45 = .ok (.invokevirtual 29, 3) := by decide +kernel
theorem d_M_change_48 : decode b_M_change 48 = .ok (.ifCond .eq 16, 3) := by decide +kernel
theorem d_M_change_51 : decode b_M_change 51 = .ok (.aload_n 0, 1) := by decide +kernel
theorem d_M_change_52 : decode b_M_change 52 = .ok (.iload_n 1, 1) := by decide +kernel
theorem d_M_change_53 : decode b_M_change 53 = .ok (.iload_n 2, 1) := by decide +kernel
theorem d_M_change_54 : decode b_M_change 54 = .ok (.invokevirtual 29, 3) := by decide +kernel
theorem d_M_change_57 : decode b_M_change 57 = .ok (.ifCond .eq 7, 3) := by decide +kernel
theorem d_M_change_60 : decode b_M_change 60 = .ok (.iconst 1, 1) := by decide +kernel
theorem d_M_change_61 : decode b_M_change 61 = .ok (.goto 4, 3) := by decide +kernel
theorem d_M_change_64 : decode b_M_change 64 = .ok (.iconst 0, 1) := by decide +kernel
theorem d_M_change_65 : decode b_M_change 65 = .ok (.ireturn, 1) := by decide +kernel
def fM_change (σ : StM) (a1 : Int32) (a2 : Int32) : Option (Int32 × StM) := match σ with | (mc, mw, mf, mz) => bd1 (fM_count (mc, mw, mf, mz)) fun r1 => bd5 (fM_write (mc, mw, mf, mz) (108 + (2 * r1)) a1) fun r2 mc2 mw2 mf2 mz2 => if r2 = 0 then (some (0, mc2, mw2, mf2, mz2)) else (ix a1 149 fun j4 => bd5 (fM_write (mc2, mw2, mf2, mz2) ((108 + (2 * r1)) + 1) (mc2 j4)) fun r5 mc5 mw5 mf5 mz5 => if r5 = 0 then (some (0, mc5, mw5, mf5, mz5)) else (bd1 (fM_count (mc5, mw5, mf5, mz5)) fun r7 => bd5 (fM_write (mc5, mw5, mf5, mz5) 148 (r7 + 1)) fun r8 mc8 mw8 mf8 mz8 => if r8 = 0 then (some (0, mc8, mw8, mf8, mz8)) else (bd5 (fM_write (mc8, mw8, mf8, mz8) a1 a2) fun r10 mc10 mw10 mf10 mz10 => if r10 = 0 then (some (0, mc10, mw10, mf10, mz10)) else (some (1, mc10, mw10, mf10, mz10)))))
set_option maxHeartbeats 4000000 in
set_option maxRecDepth 100000 in
theorem ctM_change (l : Launch) (dC : Nat → ClassId) (dI : Nat → Nat → Nat) (cI : ClassId) (hm qc : Nat) (mc : Nat → Int32) (mw : Int32) (mf : Int32) (mz : Int32) (a1 : Int32) (a2 : Int32) (r : Int32) (mc' : Nat → Int32) (mw' : Int32) (mf' : Int32) (mz' : Int32) (hf : fM_change (mc, mw, mf, mz) a1 a2 = some (r, mc', mw', mf', mz')) : CtZ l y_M_change w_M_change ({ frames := 1, cells := 0, slots := 0, locals := 22 }) (dC, dI) [(cI, .int)] [.ref hm, .int a1, .int a2] [(hm, .inr (1, [.ref qc, .int mw, .int mf, .int mz])), (qc, .inl (cI, 149, .inl mc))] [(hm, .inr (1, [.ref qc, .int mw', .int mf', .int mz'])), (qc, .inl (cI, 149, .inl mc'))] r := by
  intro sz
  refine Met.ofW (cc := b_M_change) (maxL := 4) (ret := some .boolean) (by decide) rfl ?_
  intro p e s m args below meth c s₁ B hml hv
  obtain ⟨rfl, hsz, hP, hK, hD0⟩ := hv
  have hx := B.exec
  have hb := B.bytes
  have hr := B.returns
  have hts := atoms_spec (ws := w_M_change) B.pre
  have hown : s.vm.findClass R_M = some m.cls := findClass_of_methodNamed B.named
  have hlocks := B.notSynchronized
  subst hsz
  have hD := hD0.self (sz := s.heap.size)
  generalize hAe : va_A [(hm, .inr (1, [.ref qc, .int mw, .int mf, .int mz])), (qc, .inl (cI, 149, .inl mc))] s.heap.size = A at hD ⊢
  have hA : ∀ q : Nat, s.heap.size ≤ q → A q := fun q h => by rw [← hAe]; exact Or.inr h
  have hS : va_S A s.heap s.heap [] := va_S.rf
  have hP : va_P (dC, dI) vwCl [(hm, .inr (1, [.ref qc, .int mw, .int mf, .int mz])), (qc, .inl (cI, 149, .inl mc))] s.heap := hP
  have hl := lv_entry ([.ref hm, .int a1, .int a2]) (n := 4) (Nat.le_of_ble_eq_true rfl)
  rw [lg_entry_eq]
  generalize (lg_sl ([.ref hm, .int a1, .int a2]) ++ List.replicate (4 - (lg_sl ([.ref hm, .int a1, .int a2])).length) Slot.unset).toArray = ls at hl ⊢
  have hl : lv_has ls 4 [(0, .ref hm), (1, .int a1), (2, .int a2)] := hl
  have inM : ∀ w ∈ u_ws R_M F_M 4, w ∈ w_M_change := fun w h => List.mem_cons_of_mem _ (in_M w h)
  have kf11 := hts _ (List.mem_cons_of_mem _ wq64)
  rw [fM_change] at hf
  refine lv_bipush (v := 108) hx hb d_M_change_0 (by decide) ?_
  refine lv_iconst (v := 2) hx hb d_M_change_2 (by decide) ?_
  refine lv_aload_n hx hb d_M_change_3 rfl (lv_at hl 0 rfl) ?_
  obtain ⟨r1, hg, hf⟩ := bd1_some hf
  refine xci (wr := []) (ctM_count l dC dI cI hm qc mc mw mf mz r1 hg) ⟨hx, hb, hml, hown, hts⟩ (cwV (C := R_M) 0 hts (gV wq210 wq211 wq212 wq44 wq213) rfl rfl rfl (by decide +kernel) ⟨Nat.le_of_ble_eq_true rfl, Nat.le_of_ble_eq_true rfl⟩) hK hP hD hS hA [0, 1] [] rfl rfl rfl rfl (by decide) (ci := 1) (q0 := 0) rfl rfl rfl rfl hl.1 rfl (Nat.le_of_ble_eq_true rfl) d_M_change_4 ⟨Nat.zero_le _, Nat.zero_le _⟩ (fun H locs hP hD hS => ?_)
  have hP : va_P (dC, dI) vwCl [(hm, .inr (1, [.ref qc, .int mw, .int mf, .int mz])), (qc, .inl (cI, 149, .inl mc))] H := hP
  have hD : va_D A [(hm, .inr (1, [.ref qc, .int mw, .int mf, .int mz])), (qc, .inl (cI, 149, .inl mc))] := hD
  refine lv_imul hx hb d_M_change_7 ?_
  refine lv_iadd hx hb d_M_change_8 ?_
  refine lv_istore_n hx hb d_M_change_9 rfl hl (by decide) rfl (fun ls hl => ?_)
  have hl : lv_has ls 4 [(3, .int (108 + (2 * r1))), (0, .ref hm), (1, .int a1), (2, .int a2)] := hl
  refine lv_aload_n hx hb d_M_change_10 rfl (lv_at hl 1 rfl) ?_
  refine lv_iload_n hx hb d_M_change_11 rfl (lv_at hl 0 rfl) ?_
  refine lv_iload_n hx hb d_M_change_12 rfl (lv_at hl 2 rfl) ?_
  obtain ⟨r2, mc2, mw2, mf2, mz2, hg, hf⟩ := bd5_some hf
  refine xcz (wr := []) (ctM_write l dC dI cI hm qc mc mw mf mz (108 + (2 * r1)) a1 r2 mc2 mw2 mf2 mz2 hg) ⟨hx, hb, hml, hown, hts⟩ (cwV (C := R_M) 2 hts (gV wq214 wq215 wq216 wq44 wq217) rfl rfl rfl (by decide +kernel) ⟨Nat.le_of_ble_eq_true rfl, Nat.le_of_ble_eq_true rfl⟩) hK hP hD hS hA [0, 1] [] rfl rfl rfl rfl (by decide) (ci := 1) (q0 := 0) rfl rfl rfl rfl hl.1 rfl (Nat.le_of_ble_eq_true rfl) d_M_change_13 ⟨Nat.zero_le _, Nat.zero_le _⟩ (fun H locs hn2 hP hD hS => ?_)
  have hP : va_P (dC, dI) vwCl [(hm, .inr (1, [.ref qc, .int mw2, .int mf2, .int mz2])), (qc, .inl (cI, 149, .inl mc2))] H := hP
  have hD : va_D A [(hm, .inr (1, [.ref qc, .int mw2, .int mf2, .int mz2])), (qc, .inl (cI, 149, .inl mc2))] := hD
  refine lv_if_eq (tgt := 64) hx hb d_M_change_16 rfl (fun hc3 => ?_) (fun hc3 => ?_)
  · have hf := ift hf hc3
    refine lv_iconst (v := 0) hx hb d_M_change_64 (by decide) ?_
    obtain ⟨e1_, e2_, e3_, e4_, e5_⟩ := lf5 hf
    subst e1_; subst e2_; subst e3_; subst e4_; subst e5_
    have hP9 := hP.sub (ws' := [(hm, .inr (1, [.ref qc, .int mw2, .int mf2, .int mz2])), (qc, .inl (cI, 149, .inl mc2))]) [0, 1] rfl
    have hD9 := hD.sub (ws' := [(hm, .inr (1, [.ref qc, .int mw2, .int mf2, .int mz2])), (qc, .inl (cI, 149, .inl mc2))]) [0, 1] (by decide) rfl
    exact W.zret (v := 0) (ty := .boolean) hx hb hr rfl (fun t ht hW => ⟨⟨0, (), rfl, ⟨rfl, rfl⟩, by rw [ht]; exact hP9, va_K.moved hW.alike hK, hD9⟩, hS.F ht⟩) hS.2.2 d_M_change_65
  have hf := ifn hf hc3
  refine lv_aload_n hx hb d_M_change_19 rfl (lv_at hl 1 rfl) ?_
  refine lv_iload_n hx hb d_M_change_20 rfl (lv_at hl 0 rfl) ?_
  refine lv_iconst (v := 1) hx hb d_M_change_21 (by decide) ?_
  refine lv_iadd hx hb d_M_change_22 ?_
  refine lv_aload_n hx hb d_M_change_23 rfl (lv_at hl 1 rfl) ?_
  refine va_get (D := (dC, dI)) (ci := 1) (v := .ref qc) (C := R_M) (T := F_M) (N := 4) hx hb hts inM hown hK hP 0 rfl rfl 0 (by decide) kf11 (fun _ h9 => h9) rfl d_M_change_24 ?_
  refine lv_iload_n hx hb d_M_change_27 rfl (lv_at hl 2 rfl) ?_
  obtain ⟨hin_, hf⟩ := ix_some hf
  refine va_iald hx hb hK hP 1 0 rfl rfl hin_ d_M_change_28 ?_
  obtain ⟨r5, mc5, mw5, mf5, mz5, hg, hf⟩ := bd5_some hf
  refine xcz (wr := []) (ctM_write l dC dI cI hm qc mc2 mw2 mf2 mz2 ((108 + (2 * r1)) + 1) (mc2 (a1 : Int32).toNatClampNeg) r5 mc5 mw5 mf5 mz5 hg) ⟨hx, hb, hml, hown, hts⟩ (cwV (C := R_M) 2 hts (gV wq214 wq215 wq216 wq44 wq217) rfl rfl rfl (by decide +kernel) ⟨Nat.le_of_ble_eq_true rfl, Nat.le_of_ble_eq_true rfl⟩) hK hP hD hS hA [0, 1] [] rfl rfl rfl rfl (by decide) (ci := 1) (q0 := 0) rfl rfl rfl rfl hl.1 rfl (Nat.le_of_ble_eq_true rfl) d_M_change_29 ⟨Nat.zero_le _, Nat.zero_le _⟩ (fun H locs hn5 hP hD hS => ?_)
  have hP : va_P (dC, dI) vwCl [(hm, .inr (1, [.ref qc, .int mw5, .int mf5, .int mz5])), (qc, .inl (cI, 149, .inl mc5))] H := hP
  have hD : va_D A [(hm, .inr (1, [.ref qc, .int mw5, .int mf5, .int mz5])), (qc, .inl (cI, 149, .inl mc5))] := hD
  refine lv_if_eq (tgt := 64) hx hb d_M_change_32 rfl (fun hc6 => ?_) (fun hc6 => ?_)
  · have hf := ift hf hc6
    refine lv_iconst (v := 0) hx hb d_M_change_64 (by decide) ?_
    obtain ⟨e1_, e2_, e3_, e4_, e5_⟩ := lf5 hf
    subst e1_; subst e2_; subst e3_; subst e4_; subst e5_
    have hP9 := hP.sub (ws' := [(hm, .inr (1, [.ref qc, .int mw5, .int mf5, .int mz5])), (qc, .inl (cI, 149, .inl mc5))]) [0, 1] rfl
    have hD9 := hD.sub (ws' := [(hm, .inr (1, [.ref qc, .int mw5, .int mf5, .int mz5])), (qc, .inl (cI, 149, .inl mc5))]) [0, 1] (by decide) rfl
    exact W.zret (v := 0) (ty := .boolean) hx hb hr rfl (fun t ht hW => ⟨⟨0, (), rfl, ⟨rfl, rfl⟩, by rw [ht]; exact hP9, va_K.moved hW.alike hK, hD9⟩, hS.F ht⟩) hS.2.2 d_M_change_65
  have hf := ifn hf hc6
  refine lv_aload_n hx hb d_M_change_35 rfl (lv_at hl 1 rfl) ?_
  refine lv_sipush (v := 148) hx hb d_M_change_36 (by decide) ?_
  refine lv_aload_n hx hb d_M_change_39 rfl (lv_at hl 1 rfl) ?_
  obtain ⟨r7, hg, hf⟩ := bd1_some hf
  refine xci (wr := []) (ctM_count l dC dI cI hm qc mc5 mw5 mf5 mz5 r7 hg) ⟨hx, hb, hml, hown, hts⟩ (cwV (C := R_M) 0 hts (gV wq210 wq211 wq212 wq44 wq213) rfl rfl rfl (by decide +kernel) ⟨Nat.le_of_ble_eq_true rfl, Nat.le_of_ble_eq_true rfl⟩) hK hP hD hS hA [0, 1] [] rfl rfl rfl rfl (by decide) (ci := 1) (q0 := 0) rfl rfl rfl rfl hl.1 rfl (Nat.le_of_ble_eq_true rfl) d_M_change_40 ⟨Nat.zero_le _, Nat.zero_le _⟩ (fun H locs hP hD hS => ?_)
  have hP : va_P (dC, dI) vwCl [(hm, .inr (1, [.ref qc, .int mw5, .int mf5, .int mz5])), (qc, .inl (cI, 149, .inl mc5))] H := hP
  have hD : va_D A [(hm, .inr (1, [.ref qc, .int mw5, .int mf5, .int mz5])), (qc, .inl (cI, 149, .inl mc5))] := hD
  refine lv_iconst (v := 1) hx hb d_M_change_43 (by decide) ?_
  refine lv_iadd hx hb d_M_change_44 ?_
  obtain ⟨r8, mc8, mw8, mf8, mz8, hg, hf⟩ := bd5_some hf
  refine xcz (wr := []) (ctM_write l dC dI cI hm qc mc5 mw5 mf5 mz5 148 (r7 + 1) r8 mc8 mw8 mf8 mz8 hg) ⟨hx, hb, hml, hown, hts⟩ (cwV (C := R_M) 2 hts (gV wq214 wq215 wq216 wq44 wq217) rfl rfl rfl (by decide +kernel) ⟨Nat.le_of_ble_eq_true rfl, Nat.le_of_ble_eq_true rfl⟩) hK hP hD hS hA [0, 1] [] rfl rfl rfl rfl (by decide) (ci := 1) (q0 := 0) rfl rfl rfl rfl hl.1 rfl (Nat.le_of_ble_eq_true rfl) d_M_change_45 ⟨Nat.zero_le _, Nat.zero_le _⟩ (fun H locs hn8 hP hD hS => ?_)
  have hP : va_P (dC, dI) vwCl [(hm, .inr (1, [.ref qc, .int mw8, .int mf8, .int mz8])), (qc, .inl (cI, 149, .inl mc8))] H := hP
  have hD : va_D A [(hm, .inr (1, [.ref qc, .int mw8, .int mf8, .int mz8])), (qc, .inl (cI, 149, .inl mc8))] := hD
  refine lv_if_eq (tgt := 64) hx hb d_M_change_48 rfl (fun hc9 => ?_) (fun hc9 => ?_)
  · have hf := ift hf hc9
    refine lv_iconst (v := 0) hx hb d_M_change_64 (by decide) ?_
    obtain ⟨e1_, e2_, e3_, e4_, e5_⟩ := lf5 hf
    subst e1_; subst e2_; subst e3_; subst e4_; subst e5_
    have hP9 := hP.sub (ws' := [(hm, .inr (1, [.ref qc, .int mw8, .int mf8, .int mz8])), (qc, .inl (cI, 149, .inl mc8))]) [0, 1] rfl
    have hD9 := hD.sub (ws' := [(hm, .inr (1, [.ref qc, .int mw8, .int mf8, .int mz8])), (qc, .inl (cI, 149, .inl mc8))]) [0, 1] (by decide) rfl
    exact W.zret (v := 0) (ty := .boolean) hx hb hr rfl (fun t ht hW => ⟨⟨0, (), rfl, ⟨rfl, rfl⟩, by rw [ht]; exact hP9, va_K.moved hW.alike hK, hD9⟩, hS.F ht⟩) hS.2.2 d_M_change_65
  have hf := ifn hf hc9
  refine lv_aload_n hx hb d_M_change_51 rfl (lv_at hl 1 rfl) ?_
  refine lv_iload_n hx hb d_M_change_52 rfl (lv_at hl 2 rfl) ?_
  refine lv_iload_n hx hb d_M_change_53 rfl (lv_at hl 3 rfl) ?_
  obtain ⟨r10, mc10, mw10, mf10, mz10, hg, hf⟩ := bd5_some hf
  refine xcz (wr := []) (ctM_write l dC dI cI hm qc mc8 mw8 mf8 mz8 a1 a2 r10 mc10 mw10 mf10 mz10 hg) ⟨hx, hb, hml, hown, hts⟩ (cwV (C := R_M) 2 hts (gV wq214 wq215 wq216 wq44 wq217) rfl rfl rfl (by decide +kernel) ⟨Nat.le_of_ble_eq_true rfl, Nat.le_of_ble_eq_true rfl⟩) hK hP hD hS hA [0, 1] [] rfl rfl rfl rfl (by decide) (ci := 1) (q0 := 0) rfl rfl rfl rfl hl.1 rfl (Nat.le_of_ble_eq_true rfl) d_M_change_54 ⟨Nat.zero_le _, Nat.zero_le _⟩ (fun H locs hn10 hP hD hS => ?_)
  have hP : va_P (dC, dI) vwCl [(hm, .inr (1, [.ref qc, .int mw10, .int mf10, .int mz10])), (qc, .inl (cI, 149, .inl mc10))] H := hP
  have hD : va_D A [(hm, .inr (1, [.ref qc, .int mw10, .int mf10, .int mz10])), (qc, .inl (cI, 149, .inl mc10))] := hD
  refine lv_if_eq (tgt := 64) hx hb d_M_change_57 rfl (fun hc11 => ?_) (fun hc11 => ?_)
  · have hf := ift hf hc11
    refine lv_iconst (v := 0) hx hb d_M_change_64 (by decide) ?_
    obtain ⟨e1_, e2_, e3_, e4_, e5_⟩ := lf5 hf
    subst e1_; subst e2_; subst e3_; subst e4_; subst e5_
    have hP9 := hP.sub (ws' := [(hm, .inr (1, [.ref qc, .int mw10, .int mf10, .int mz10])), (qc, .inl (cI, 149, .inl mc10))]) [0, 1] rfl
    have hD9 := hD.sub (ws' := [(hm, .inr (1, [.ref qc, .int mw10, .int mf10, .int mz10])), (qc, .inl (cI, 149, .inl mc10))]) [0, 1] (by decide) rfl
    exact W.zret (v := 0) (ty := .boolean) hx hb hr rfl (fun t ht hW => ⟨⟨0, (), rfl, ⟨rfl, rfl⟩, by rw [ht]; exact hP9, va_K.moved hW.alike hK, hD9⟩, hS.F ht⟩) hS.2.2 d_M_change_65
  have hf := ifn hf hc11
  refine lv_iconst (v := 1) hx hb d_M_change_60 (by decide) ?_
  refine lv_goto (tgt := 65) hx hb d_M_change_61 rfl ?_
  obtain ⟨e1_, e2_, e3_, e4_, e5_⟩ := lf5 hf
  subst e1_; subst e2_; subst e3_; subst e4_; subst e5_
  have hP9 := hP.sub (ws' := [(hm, .inr (1, [.ref qc, .int mw10, .int mf10, .int mz10])), (qc, .inl (cI, 149, .inl mc10))]) [0, 1] rfl
  have hD9 := hD.sub (ws' := [(hm, .inr (1, [.ref qc, .int mw10, .int mf10, .int mz10])), (qc, .inl (cI, 149, .inl mc10))]) [0, 1] (by decide) rfl
  exact W.zret (v := 1) (ty := .boolean) hx hb hr rfl (fun t ht hW => ⟨⟨1, (), rfl, ⟨rfl, rfl⟩, by rw [ht]; exact hP9, va_K.moved hW.alike hK, hD9⟩, hS.F ht⟩) hS.2.2 d_M_change_65
theorem d_M_settle_0 : decode b_M_settle 0 = .ok (.aload_n 0, 1) := by decide +kernel
theorem d_M_settle_1 : decode b_M_settle 1 = .ok (.invokevirtual 25, 3) := by decide +kernel
theorem d_M_settle_4 : decode b_M_settle 4 = .ok (.ifCond .eq 14, 3) := by decide +kernel
theorem d_M_settle_7 : decode b_M_settle 7 = .ok (.aload_n 0, 1) := by decide +kernel
theorem d_M_settle_8 : decode b_M_settle 8 = .ok (.sipush 148, 3) := by decide +kernel
theorem d_M_settle_11 : decode b_M_settle 11 = .ok (.iconst 0, 1) := by decide +kernel
theorem d_M_settle_12 : decode b_M_settle 12 = .ok (.invokevirtual 29, 3) := by decide +kernel
theorem d_M_settle_15 : decode b_M_settle 15 = .ok (.ifCond .eq 7, 3) := by decide +kernel
theorem d_M_settle_18 : decode b_M_settle 18 = .ok (.iconst 1, 1) := by decide +kernel
theorem d_M_settle_19 : decode b_M_settle 19 = .ok (.goto 4, 3) := by decide +kernel
theorem d_M_settle_22 : decode b_M_settle 22 = .ok (.iconst 0, 1) := by decide +kernel
theorem d_M_settle_23 : decode b_M_settle 23 = .ok (.ireturn, 1) := by decide +kernel
def fM_settle (σ : StM) : Option (Int32 × StM) := match σ with | (mc, mw, mf, mz) => bd1 (fM_count (mc, mw, mf, mz)) fun r1 => if r1 = 0 then (some (1, mc, mw, mf, mz)) else (bd5 (fM_write (mc, mw, mf, mz) 148 0) fun r3 mc3 mw3 mf3 mz3 => if r3 = 0 then (some (0, mc3, mw3, mf3, mz3)) else (some (1, mc3, mw3, mf3, mz3)))
set_option maxHeartbeats 4000000 in
set_option maxRecDepth 100000 in
theorem ctM_settle (l : Launch) (dC : Nat → ClassId) (dI : Nat → Nat → Nat) (cI : ClassId) (hm qc : Nat) (mc : Nat → Int32) (mw : Int32) (mf : Int32) (mz : Int32) (r : Int32) (mc' : Nat → Int32) (mw' : Int32) (mf' : Int32) (mz' : Int32) (hf : fM_settle (mc, mw, mf, mz) = some (r, mc', mw', mf', mz')) : CtZ l y_M_settle w_M_settle ({ frames := 1, cells := 0, slots := 0, locals := 22 }) (dC, dI) [(cI, .int)] [.ref hm] [(hm, .inr (1, [.ref qc, .int mw, .int mf, .int mz])), (qc, .inl (cI, 149, .inl mc))] [(hm, .inr (1, [.ref qc, .int mw', .int mf', .int mz'])), (qc, .inl (cI, 149, .inl mc'))] r := by
  intro sz
  refine Met.ofW (cc := b_M_settle) (maxL := 1) (ret := some .boolean) (by decide) rfl ?_
  intro p e s m args below meth c s₁ B hml hv
  obtain ⟨rfl, hsz, hP, hK, hD0⟩ := hv
  have hx := B.exec
  have hb := B.bytes
  have hr := B.returns
  have hts := atoms_spec (ws := w_M_settle) B.pre
  have hown : s.vm.findClass R_M = some m.cls := findClass_of_methodNamed B.named
  have hlocks := B.notSynchronized
  subst hsz
  have hD := hD0.self (sz := s.heap.size)
  generalize hAe : va_A [(hm, .inr (1, [.ref qc, .int mw, .int mf, .int mz])), (qc, .inl (cI, 149, .inl mc))] s.heap.size = A at hD ⊢
  have hA : ∀ q : Nat, s.heap.size ≤ q → A q := fun q h => by rw [← hAe]; exact Or.inr h
  have hS : va_S A s.heap s.heap [] := va_S.rf
  have hP : va_P (dC, dI) vwCl [(hm, .inr (1, [.ref qc, .int mw, .int mf, .int mz])), (qc, .inl (cI, 149, .inl mc))] s.heap := hP
  have hl := lv_entry ([.ref hm]) (n := 1) (Nat.le_of_ble_eq_true rfl)
  rw [lg_entry_eq]
  generalize (lg_sl ([.ref hm]) ++ List.replicate (1 - (lg_sl ([.ref hm])).length) Slot.unset).toArray = ls at hl ⊢
  have hl : lv_has ls 1 [(0, .ref hm)] := hl
  rw [fM_settle] at hf
  refine lv_aload_n hx hb d_M_settle_0 rfl (lv_at hl 0 rfl) ?_
  obtain ⟨r1, hg, hf⟩ := bd1_some hf
  refine xci (wr := []) (ctM_count l dC dI cI hm qc mc mw mf mz r1 hg) ⟨hx, hb, hml, hown, hts⟩ (cwV (C := R_M) 0 hts (gV wq210 wq211 wq212 wq44 wq213) rfl rfl rfl (by decide +kernel) ⟨Nat.le_of_ble_eq_true rfl, Nat.le_of_ble_eq_true rfl⟩) hK hP hD hS hA [0, 1] [] rfl rfl rfl rfl (by decide) (ci := 1) (q0 := 0) rfl rfl rfl rfl hl.1 rfl (Nat.le_of_ble_eq_true rfl) d_M_settle_1 ⟨Nat.zero_le _, Nat.zero_le _⟩ (fun H locs hP hD hS => ?_)
  have hP : va_P (dC, dI) vwCl [(hm, .inr (1, [.ref qc, .int mw, .int mf, .int mz])), (qc, .inl (cI, 149, .inl mc))] H := hP
  have hD : va_D A [(hm, .inr (1, [.ref qc, .int mw, .int mf, .int mz])), (qc, .inl (cI, 149, .inl mc))] := hD
  refine lv_if_eq (tgt := 18) hx hb d_M_settle_4 rfl (fun hc2 => ?_) (fun hc2 => ?_)
  · have hf := ift hf hc2
    refine lv_iconst (v := 1) hx hb d_M_settle_18 (by decide) ?_
    refine lv_goto (tgt := 23) hx hb d_M_settle_19 rfl ?_
    obtain ⟨e1_, e2_, e3_, e4_, e5_⟩ := lf5 hf
    subst e1_; subst e2_; subst e3_; subst e4_; subst e5_
    have hP9 := hP.sub (ws' := [(hm, .inr (1, [.ref qc, .int mw, .int mf, .int mz])), (qc, .inl (cI, 149, .inl mc))]) [0, 1] rfl
    have hD9 := hD.sub (ws' := [(hm, .inr (1, [.ref qc, .int mw, .int mf, .int mz])), (qc, .inl (cI, 149, .inl mc))]) [0, 1] (by decide) rfl
    exact W.zret (v := 1) (ty := .boolean) hx hb hr rfl (fun t ht hW => ⟨⟨1, (), rfl, ⟨rfl, rfl⟩, by rw [ht]; exact hP9, va_K.moved hW.alike hK, hD9⟩, hS.F ht⟩) hS.2.2 d_M_settle_23
  have hf := ifn hf hc2
  refine lv_aload_n hx hb d_M_settle_7 rfl (lv_at hl 0 rfl) ?_
  refine lv_sipush (v := 148) hx hb d_M_settle_8 (by decide) ?_
  refine lv_iconst (v := 0) hx hb d_M_settle_11 (by decide) ?_
  obtain ⟨r3, mc3, mw3, mf3, mz3, hg, hf⟩ := bd5_some hf
  refine xcz (wr := []) (ctM_write l dC dI cI hm qc mc mw mf mz 148 0 r3 mc3 mw3 mf3 mz3 hg) ⟨hx, hb, hml, hown, hts⟩ (cwV (C := R_M) 2 hts (gV wq214 wq215 wq216 wq44 wq217) rfl rfl rfl (by decide +kernel) ⟨Nat.le_of_ble_eq_true rfl, Nat.le_of_ble_eq_true rfl⟩) hK hP hD hS hA [0, 1] [] rfl rfl rfl rfl (by decide) (ci := 1) (q0 := 0) rfl rfl rfl rfl hl.1 rfl (Nat.le_of_ble_eq_true rfl) d_M_settle_12 ⟨Nat.zero_le _, Nat.zero_le _⟩ (fun H locs hn3 hP hD hS => ?_)
  have hP : va_P (dC, dI) vwCl [(hm, .inr (1, [.ref qc, .int mw3, .int mf3, .int mz3])), (qc, .inl (cI, 149, .inl mc3))] H := hP
  have hD : va_D A [(hm, .inr (1, [.ref qc, .int mw3, .int mf3, .int mz3])), (qc, .inl (cI, 149, .inl mc3))] := hD
  refine lv_if_eq (tgt := 22) hx hb d_M_settle_15 rfl (fun hc4 => ?_) (fun hc4 => ?_)
  · have hf := ift hf hc4
    refine lv_iconst (v := 0) hx hb d_M_settle_22 (by decide) ?_
    obtain ⟨e1_, e2_, e3_, e4_, e5_⟩ := lf5 hf
    subst e1_; subst e2_; subst e3_; subst e4_; subst e5_
    have hP9 := hP.sub (ws' := [(hm, .inr (1, [.ref qc, .int mw3, .int mf3, .int mz3])), (qc, .inl (cI, 149, .inl mc3))]) [0, 1] rfl
    have hD9 := hD.sub (ws' := [(hm, .inr (1, [.ref qc, .int mw3, .int mf3, .int mz3])), (qc, .inl (cI, 149, .inl mc3))]) [0, 1] (by decide) rfl
    exact W.zret (v := 0) (ty := .boolean) hx hb hr rfl (fun t ht hW => ⟨⟨0, (), rfl, ⟨rfl, rfl⟩, by rw [ht]; exact hP9, va_K.moved hW.alike hK, hD9⟩, hS.F ht⟩) hS.2.2 d_M_settle_23
  have hf := ifn hf hc4
  refine lv_iconst (v := 1) hx hb d_M_settle_18 (by decide) ?_
  refine lv_goto (tgt := 23) hx hb d_M_settle_19 rfl ?_
  obtain ⟨e1_, e2_, e3_, e4_, e5_⟩ := lf5 hf
  subst e1_; subst e2_; subst e3_; subst e4_; subst e5_
  have hP9 := hP.sub (ws' := [(hm, .inr (1, [.ref qc, .int mw3, .int mf3, .int mz3])), (qc, .inl (cI, 149, .inl mc3))]) [0, 1] rfl
  have hD9 := hD.sub (ws' := [(hm, .inr (1, [.ref qc, .int mw3, .int mf3, .int mz3])), (qc, .inl (cI, 149, .inl mc3))]) [0, 1] (by decide) rfl
  exact W.zret (v := 1) (ty := .boolean) hx hb hr rfl (fun t ht hW => ⟨⟨1, (), rfl, ⟨rfl, rfl⟩, by rw [ht]; exact hP9, va_K.moved hW.alike hK, hD9⟩, hS.F ht⟩) hS.2.2 d_M_settle_23
theorem d_M_undo_0 : decode b_M_undo 0 = .ok (.aload_n 0, 1) := by decide +kernel
theorem d_M_undo_1 : decode b_M_undo 1 = .ok (.invokevirtual 25, 3) := by decide +kernel
theorem d_M_undo_4 : decode b_M_undo 4 = .ok (.iconst 1, 1) := by decide +kernel
theorem d_M_undo_5 : decode b_M_undo 5 = .ok (.isub, 1) := by decide +kernel
theorem d_M_undo_6 : decode b_M_undo 6 = .ok (.istore_n 1, 1) := by decide +kernel
theorem d_M_undo_7 : decode b_M_undo 7 = .ok (.iload_n 1, 1) := by decide +kernel
theorem d_M_undo_8 : decode b_M_undo 8 = .ok (.ifCond .lt 39, 3) := by decide +kernel
theorem d_M_undo_11 : decode b_M_undo 11 = .ok (.bipush 108, 2) := by decide +kernel
theorem d_M_undo_13 : decode b_M_undo 13 = .ok (.iconst 2, 1) := by decide +kernel
theorem d_M_undo_14 : decode b_M_undo 14 = .ok (.iload_n 1, 1) := by decide +kernel
theorem d_M_undo_15 : decode b_M_undo 15 = .ok (.imul, 1) := by decide +kernel
theorem d_M_undo_16 : decode b_M_undo 16 = .ok (.iadd, 1) := by decide +kernel
theorem d_M_undo_17 : decode b_M_undo 17 = .ok (.istore_n 2, 1) := by decide +kernel
theorem d_M_undo_18 : decode b_M_undo 18 = .ok (.aload_n 0, 1) := by decide +kernel
theorem d_M_undo_19 : decode b_M_undo 19 = .ok (.aload_n 0, 1) := by decide +kernel
theorem d_M_undo_20 : decode b_M_undo 20 = .ok (.getfield 11, 3) := by decide +kernel
theorem d_M_undo_23 : decode b_M_undo 23 = .ok (.iload_n 2, 1) := by decide +kernel
theorem d_M_undo_24 : decode b_M_undo 24 = .ok (.iaload, 1) := by decide +kernel
theorem d_M_undo_25 : decode b_M_undo 25 = .ok (.aload_n 0, 1) := by decide +kernel
theorem d_M_undo_26 : decode b_M_undo 26 = .ok (.getfield 11, 3) := by decide +kernel
theorem d_M_undo_29 : decode b_M_undo 29 = .ok (.iload_n 2, 1) := by decide +kernel
theorem d_M_undo_30 : decode b_M_undo 30 = .ok (.iconst 1, 1) := by decide +kernel
theorem d_M_undo_31 : decode b_M_undo 31 = .ok (.iadd, 1) := by decide +kernel
theorem d_M_undo_32 : decode b_M_undo 32 = .ok (.iaload, 1) := by decide +kernel
theorem d_M_undo_33 : decode b_M_undo 33 = .ok (.invokevirtual 29, 3) := by decide +kernel
theorem d_M_undo_36 : decode b_M_undo 36 = .ok (.ifCond .ne 5, 3) := by decide +kernel
theorem d_M_undo_39 : decode b_M_undo 39 = .ok (.iconst 0, 1) := by decide +kernel
theorem d_M_undo_40 : decode b_M_undo 40 = .ok (.ireturn, 1) := by decide +kernel
theorem d_M_undo_41 : decode b_M_undo 41 = .ok (.iinc 1 (-1), 3) := by decide +kernel
theorem d_M_undo_44 : decode b_M_undo 44 = .ok (.goto (-37), 3) := by decide +kernel
theorem d_M_undo_47 : decode b_M_undo 47 = .ok (.aload_n 0, 1) := by decide +kernel
theorem d_M_undo_48 : decode b_M_undo 48 = .ok (.invokevirtual 33, 3) := by decide +kernel
theorem d_M_undo_51 : decode b_M_undo 51 = .ok (.ireturn, 1) := by decide +kernel
def fM_undo_L7 : Nat → StM → Int32 → Option (Int32 × StM)
  | 0, _, _ => none
  | n + 1, (mc, mw, mf, mz), v1 => if v1 < 0 then (bd5 (fM_settle (mc, mw, mf, mz)) fun r3 mc3 mw3 mf3 mz3 => some (r3, mc3, mw3, mf3, mz3)) else (ix (108 + (2 * v1)) 149 fun j4 => ix ((108 + (2 * v1)) + 1) 149 fun j5 => bd5 (fM_write (mc, mw, mf, mz) (mc j4) (mc j5)) fun r6 mc6 mw6 mf6 mz6 => if r6 = 0 then (some (0, mc6, mw6, mf6, mz6)) else (fM_undo_L7 n (mc6, mw6, mf6, mz6) (v1 + (-1))))
def fM_undo (σ : StM) : Option (Int32 × StM) := match σ with | (mc, mw, mf, mz) => bd1 (fM_count (mc, mw, mf, mz)) fun r1 => fM_undo_L7 300 (mc, mw, mf, mz) (r1 - 1)
set_option maxHeartbeats 4000000 in
set_option maxRecDepth 100000 in
theorem ctM_undo (l : Launch) (dC : Nat → ClassId) (dI : Nat → Nat → Nat) (cI : ClassId) (hm qc : Nat) (mc : Nat → Int32) (mw : Int32) (mf : Int32) (mz : Int32) (r : Int32) (mc' : Nat → Int32) (mw' : Int32) (mf' : Int32) (mz' : Int32) (hf : fM_undo (mc, mw, mf, mz) = some (r, mc', mw', mf', mz')) : CtZ l y_M_undo w_M_undo ({ frames := 2, cells := 0, slots := 0, locals := 42 }) (dC, dI) [(cI, .int)] [.ref hm] [(hm, .inr (1, [.ref qc, .int mw, .int mf, .int mz])), (qc, .inl (cI, 149, .inl mc))] [(hm, .inr (1, [.ref qc, .int mw', .int mf', .int mz'])), (qc, .inl (cI, 149, .inl mc'))] r := by
  intro sz
  refine Met.ofW (cc := b_M_undo) (maxL := 3) (ret := some .boolean) (by decide) rfl ?_
  intro p e s m args below meth c s₁ B hml hv
  obtain ⟨rfl, hsz, hP, hK, hD0⟩ := hv
  have hx := B.exec
  have hb := B.bytes
  have hr := B.returns
  have hts := atoms_spec (ws := w_M_undo) B.pre
  have hown : s.vm.findClass R_M = some m.cls := findClass_of_methodNamed B.named
  have hlocks := B.notSynchronized
  subst hsz
  have hD := hD0.self (sz := s.heap.size)
  generalize hAe : va_A [(hm, .inr (1, [.ref qc, .int mw, .int mf, .int mz])), (qc, .inl (cI, 149, .inl mc))] s.heap.size = A at hD ⊢
  have hA : ∀ q : Nat, s.heap.size ≤ q → A q := fun q h => by rw [← hAe]; exact Or.inr h
  have hS : va_S A s.heap s.heap [] := va_S.rf
  have hP : va_P (dC, dI) vwCl [(hm, .inr (1, [.ref qc, .int mw, .int mf, .int mz])), (qc, .inl (cI, 149, .inl mc))] s.heap := hP
  have hl := lv_entry ([.ref hm]) (n := 3) (Nat.le_of_ble_eq_true rfl)
  rw [lg_entry_eq]
  generalize (lg_sl ([.ref hm]) ++ List.replicate (3 - (lg_sl ([.ref hm])).length) Slot.unset).toArray = ls at hl ⊢
  have hl : lv_has ls 3 [(0, .ref hm)] := hl
  have inM : ∀ w ∈ u_ws R_M F_M 4, w ∈ w_M_undo := fun w h => List.mem_cons_of_mem _ (in_M w h)
  have kf11 := hts _ (List.mem_cons_of_mem _ wq64)
  rw [fM_undo] at hf
  refine lv_aload_n hx hb d_M_undo_0 rfl (lv_at hl 0 rfl) ?_
  obtain ⟨r1, hg, hf⟩ := bd1_some hf
  refine xci (wr := []) (ctM_count l dC dI cI hm qc mc mw mf mz r1 hg) ⟨hx, hb, hml, hown, hts⟩ (cwV (C := R_M) 0 hts (gV wq210 wq211 wq212 wq44 wq213) rfl rfl rfl (by decide +kernel) ⟨Nat.le_of_ble_eq_true rfl, Nat.le_of_ble_eq_true rfl⟩) hK hP hD hS hA [0, 1] [] rfl rfl rfl rfl (by decide) (ci := 1) (q0 := 0) rfl rfl rfl rfl hl.1 rfl (Nat.le_of_ble_eq_true rfl) d_M_undo_1 ⟨Nat.zero_le _, Nat.zero_le _⟩ (fun H locs hP hD hS => ?_)
  have hP : va_P (dC, dI) vwCl [(hm, .inr (1, [.ref qc, .int mw, .int mf, .int mz])), (qc, .inl (cI, 149, .inl mc))] H := hP
  have hD : va_D A [(hm, .inr (1, [.ref qc, .int mw, .int mf, .int mz])), (qc, .inl (cI, 149, .inl mc))] := hD
  refine lv_iconst (v := 1) hx hb d_M_undo_4 (by decide) ?_
  refine lv_isub hx hb d_M_undo_5 ?_
  refine lv_istore_n hx hb d_M_undo_6 rfl hl (by decide) rfl (fun ls hl => ?_)
  have hl : lv_has ls 3 [(1, .int (r1 - 1)), (0, .ref hm)] := hl
  have hl := lv_sub (l' := [(0, .ref hm), (1, .int (r1 - 1))]) hl [1, 0] rfl
  refine xloop (σ := (Nat → Int32) × (Int32) × (Int32) × (Int32) × (Int32)) (pc := 7) (fun n x H locs ls => va_P (dC, dI) vwCl [(hm, .inr (1, [.ref qc, .int (x.2.1), .int (x.2.2.1), .int (x.2.2.2.1)])), (qc, .inl (cI, 149, .inl (x.1)))] H ∧ va_D A [(hm, .inr (1, [.ref qc, .int (x.2.1), .int (x.2.2.1), .int (x.2.2.2.1)])), (qc, .inl (cI, 149, .inl (x.1)))] ∧ va_S A s.heap H locs ∧ lv_has ls 3 [(0, .ref hm), (1, .int (x.2.2.2.2))] ∧ fM_undo_L7 n (x.1, x.2.1, x.2.2.1, x.2.2.2.1) x.2.2.2.2 = some (r, mc', mw', mf', mz')) ?_ (fun x H locs ls h => by have h9 := h.2.2.2.2; rw [fM_undo_L7] at h9; cases h9) 300 (mc, mw, mf, mz, r1 - 1) _ _ ls ⟨hP, hD, hS, hl, hf⟩
  intro n ih x H locs ls hI
  obtain ⟨mc, mw, mf, mz, v1⟩ := x
  obtain ⟨hP, hD, hS, hl, hf⟩ := hI
  have hP : va_P (dC, dI) vwCl [(hm, .inr (1, [.ref qc, .int mw, .int mf, .int mz])), (qc, .inl (cI, 149, .inl mc))] H := hP
  have hD : va_D A [(hm, .inr (1, [.ref qc, .int mw, .int mf, .int mz])), (qc, .inl (cI, 149, .inl mc))] := hD
  have hl : lv_has ls 3 [(0, .ref hm), (1, .int v1)] := hl
  rw [fM_undo_L7] at hf
  refine lv_iload_n hx hb d_M_undo_7 rfl (lv_at hl 1 rfl) ?_
  refine lv_if_lt (tgt := 47) hx hb d_M_undo_8 rfl (fun hc2 => ?_) (fun hc2 => ?_)
  · have hf := ift hf hc2
    refine lv_aload_n hx hb d_M_undo_47 rfl (lv_at hl 0 rfl) ?_
    obtain ⟨r3, mc3, mw3, mf3, mz3, hg, hf⟩ := bd5_some hf
    refine xcz (wr := []) (ctM_settle l dC dI cI hm qc mc mw mf mz r3 mc3 mw3 mf3 mz3 hg) ⟨hx, hb, hml, hown, hts⟩ (cwV (C := R_M) 0 hts (gV wq218 wq219 wq220 wq44 wq221) rfl rfl rfl (by decide +kernel) ⟨Nat.le_of_ble_eq_true rfl, Nat.le_of_ble_eq_true rfl⟩) hK hP hD hS hA [0, 1] [] rfl rfl rfl rfl (by decide) (ci := 1) (q0 := 0) rfl rfl rfl rfl hl.1 rfl (Nat.le_of_ble_eq_true rfl) d_M_undo_48 ⟨Nat.zero_le _, Nat.zero_le _⟩ (fun H locs hn3 hP hD hS => ?_)
    have hP : va_P (dC, dI) vwCl [(hm, .inr (1, [.ref qc, .int mw3, .int mf3, .int mz3])), (qc, .inl (cI, 149, .inl mc3))] H := hP
    have hD : va_D A [(hm, .inr (1, [.ref qc, .int mw3, .int mf3, .int mz3])), (qc, .inl (cI, 149, .inl mc3))] := hD
    obtain ⟨e1_, e2_, e3_, e4_, e5_⟩ := lf5 hf
    subst e1_; subst e2_; subst e3_; subst e4_; subst e5_
    have hP9 := hP.sub (ws' := [(hm, .inr (1, [.ref qc, .int mw3, .int mf3, .int mz3])), (qc, .inl (cI, 149, .inl mc3))]) [0, 1] rfl
    have hD9 := hD.sub (ws' := [(hm, .inr (1, [.ref qc, .int mw3, .int mf3, .int mz3])), (qc, .inl (cI, 149, .inl mc3))]) [0, 1] (by decide) rfl
    exact W.zret (v := r3) (ty := .boolean) hx hb hr hn3 (fun t ht hW => ⟨⟨r3, (), rfl, ⟨rfl, hn3⟩, by rw [ht]; exact hP9, va_K.moved hW.alike hK, hD9⟩, hS.F ht⟩) hS.2.2 d_M_undo_51
  have hf := ifn hf hc2
  refine lv_bipush (v := 108) hx hb d_M_undo_11 (by decide) ?_
  refine lv_iconst (v := 2) hx hb d_M_undo_13 (by decide) ?_
  refine lv_iload_n hx hb d_M_undo_14 rfl (lv_at hl 1 rfl) ?_
  refine lv_imul hx hb d_M_undo_15 ?_
  refine lv_iadd hx hb d_M_undo_16 ?_
  refine lv_istore_n hx hb d_M_undo_17 rfl hl (by decide) rfl (fun ls hl => ?_)
  have hl : lv_has ls 3 [(2, .int (108 + (2 * v1))), (0, .ref hm), (1, .int v1)] := hl
  refine lv_aload_n hx hb d_M_undo_18 rfl (lv_at hl 1 rfl) ?_
  refine lv_aload_n hx hb d_M_undo_19 rfl (lv_at hl 1 rfl) ?_
  refine va_get (D := (dC, dI)) (ci := 1) (v := .ref qc) (C := R_M) (T := F_M) (N := 4) hx hb hts inM hown hK hP 0 rfl rfl 0 (by decide) kf11 (fun _ h9 => h9) rfl d_M_undo_20 ?_
  refine lv_iload_n hx hb d_M_undo_23 rfl (lv_at hl 0 rfl) ?_
  obtain ⟨hin_, hf⟩ := ix_some hf
  refine va_iald hx hb hK hP 1 0 rfl rfl hin_ d_M_undo_24 ?_
  refine lv_aload_n hx hb d_M_undo_25 rfl (lv_at hl 1 rfl) ?_
  refine va_get (D := (dC, dI)) (ci := 1) (v := .ref qc) (C := R_M) (T := F_M) (N := 4) hx hb hts inM hown hK hP 0 rfl rfl 0 (by decide) kf11 (fun _ h9 => h9) rfl d_M_undo_26 ?_
  refine lv_iload_n hx hb d_M_undo_29 rfl (lv_at hl 0 rfl) ?_
  refine lv_iconst (v := 1) hx hb d_M_undo_30 (by decide) ?_
  refine lv_iadd hx hb d_M_undo_31 ?_
  obtain ⟨hin_, hf⟩ := ix_some hf
  refine va_iald hx hb hK hP 1 0 rfl rfl hin_ d_M_undo_32 ?_
  obtain ⟨r6, mc6, mw6, mf6, mz6, hg, hf⟩ := bd5_some hf
  refine xcz (wr := []) (ctM_write l dC dI cI hm qc mc mw mf mz (mc (108 + (2 * v1) : Int32).toNatClampNeg) (mc ((108 + (2 * v1)) + 1 : Int32).toNatClampNeg) r6 mc6 mw6 mf6 mz6 hg) ⟨hx, hb, hml, hown, hts⟩ (cwV (C := R_M) 2 hts (gV wq214 wq215 wq216 wq44 wq217) rfl rfl rfl (by decide +kernel) ⟨Nat.le_of_ble_eq_true rfl, Nat.le_of_ble_eq_true rfl⟩) hK hP hD hS hA [0, 1] [] rfl rfl rfl rfl (by decide) (ci := 1) (q0 := 0) rfl rfl rfl rfl hl.1 rfl (Nat.le_of_ble_eq_true rfl) d_M_undo_33 ⟨Nat.zero_le _, Nat.zero_le _⟩ (fun H locs hn6 hP hD hS => ?_)
  have hP : va_P (dC, dI) vwCl [(hm, .inr (1, [.ref qc, .int mw6, .int mf6, .int mz6])), (qc, .inl (cI, 149, .inl mc6))] H := hP
  have hD : va_D A [(hm, .inr (1, [.ref qc, .int mw6, .int mf6, .int mz6])), (qc, .inl (cI, 149, .inl mc6))] := hD
  refine lv_if_ne (tgt := 41) hx hb d_M_undo_36 rfl (fun hc7 => ?_) (fun hc7 => ?_)
  · have hf := ifn hf hc7
    refine lv_iinc (v := v1 + (-1)) hx hb d_M_undo_41 hl (k := 2) rfl rfl (by decide) rfl (fun ls hl => ?_)
    have hl : lv_has ls 3 [(1, .int (v1 + (-1))), (2, .int (108 + (2 * v1))), (0, .ref hm)] := hl
    refine lv_goto (tgt := 7) hx hb d_M_undo_44 rfl ?_
    have hl := lv_sub (l' := [(0, .ref hm), (1, .int (v1 + (-1)))]) hl [2, 0] rfl
    exact ih (mc6, mw6, mf6, mz6, v1 + (-1)) _ _ ls ⟨hP, hD, hS, hl, hf⟩
  have hf := ift hf hc7
  refine lv_iconst (v := 0) hx hb d_M_undo_39 (by decide) ?_
  obtain ⟨e1_, e2_, e3_, e4_, e5_⟩ := lf5 hf
  subst e1_; subst e2_; subst e3_; subst e4_; subst e5_
  have hP9 := hP.sub (ws' := [(hm, .inr (1, [.ref qc, .int mw6, .int mf6, .int mz6])), (qc, .inl (cI, 149, .inl mc6))]) [0, 1] rfl
  have hD9 := hD.sub (ws' := [(hm, .inr (1, [.ref qc, .int mw6, .int mf6, .int mz6])), (qc, .inl (cI, 149, .inl mc6))]) [0, 1] (by decide) rfl
  exact W.zret (v := 0) (ty := .boolean) hx hb hr rfl (fun t ht hW => ⟨⟨0, (), rfl, ⟨rfl, rfl⟩, by rw [ht]; exact hP9, va_K.moved hW.alike hK, hD9⟩, hS.F ht⟩) hS.2.2 d_M_undo_40
