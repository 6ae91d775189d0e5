theorem d_I_init_0 : decode b_I_init 0 = .ok (.aload_n 0, 1) := by decide +kernel
theorem d_I_init_1 : decode b_I_init 1 = .ok (.invokespecial 1, 3) := by decide +kernel
theorem d_I_init_4 : decode b_I_init 4 = .ok (.aload_n 0, 1) := by decide +kernel
theorem d_I_init_5 : decode b_I_init 5 = .ok (.bipush 24, 2) := by decide +kernel
theorem d_I_init_7 : decode b_I_init 7 = .ok (.newarray .int, 2) := by decide +kernel
theorem d_I_init_9 : decode b_I_init 9 = .ok (.putfield 9, 3) := by decide +kernel
theorem d_I_init_12 : decode b_I_init 12 = .ok (.return_, 1) := by decide +kernel
def fI_init : Option (StI) := some (fun _ => 0, 0)
set_option maxHeartbeats 4000000 in
set_option maxRecDepth 100000 in
theorem ctI_init (l : Launch) (dC : Nat → ClassId) (dI : Nat → Nat → Nat) (cI : ClassId) (hi : Nat) (ib' : Nat → Int32) (ic' : Int32) (hf : fI_init = some (ib', ic')) : CtN l y_I_init w_I_init ({ frames := 1, cells := 1, slots := 24, locals := 12 }) (dC, dI) [(cI, .int)] [.ref hi] [(hi, .inr (2, [.null, .int 0]))] (fun u : Nat => [(hi, .inr (2, [.ref (u), .int ic'])), ((u), .inl (cI, 24, .inl ib'))]) 1 24 := by
  intro sz
  refine Met.ofW (cc := b_I_init) (maxL := 1) (ret := none) (by decide) rfl ?_
  intro p e s m args below meth c s₁ B hml hv
  obtain ⟨rfl, hsz, hP, hK, hD0⟩ := hv
  have hx := B.exec
  have hb := B.bytes
  have hr := B.returns
  have hts := atoms_spec (ws := w_I_init) B.pre
  have hown : s.vm.findClass R_I = some m.cls := findClass_of_methodNamed B.named
  have hlocks := B.notSynchronized
  have hin : meth.name = "<init>" := (name_of_methodNamed B.named B.method).1
  subst hsz
  have hD := hD0.self (sz := s.heap.size)
  generalize hAe : va_A [(hi, .inr (2, [.null, .int 0]))] s.heap.size = A at hD ⊢
  have hA : ∀ q : Nat, s.heap.size ≤ q → A q := fun q h => by rw [← hAe]; exact Or.inr h
  have hS : va_S A s.heap s.heap [] := va_S.rf
  have hP : va_P (dC, dI) vwCl [(hi, .inr (2, [.null, .int 0]))] s.heap := hP
  have hl := lv_entry ([.ref hi]) (n := 1) (Nat.le_of_ble_eq_true rfl)
  rw [lg_entry_eq]
  generalize (lg_sl ([.ref hi]) ++ List.replicate (1 - (lg_sl ([.ref hi])).length) Slot.unset).toArray = ls at hl ⊢
  have hl : lv_has ls 1 [(0, .ref hi)] := hl
  have inI : ∀ w ∈ u_ws R_I F_I 2, w ∈ w_I_init := fun w h => List.mem_cons_of_mem _ (in_I w h)
  have ka0 := hts _ (List.mem_cons_of_mem _ wq77)
  have kf9 := hts _ (List.mem_cons_of_mem _ wq84)
  have km1 := hts _ (List.mem_cons_of_mem _ wq83)
  have ko0 := hts _ (List.mem_cons_of_mem _ wq56)
  have ko1 := hts _ (List.mem_cons_of_mem _ wq57)
  rw [fI_init] at hf
  refine lv_aload_n hx hb d_I_init_0 rfl (lv_at hl 0 rfl) ?_
  refine W.objInit hx hb hown km1 ko0 ko1 rfl (by rw [hml]; exact hl.1) rfl d_I_init_1 (Nat.le_of_ble_eq_true rfl) (Nat.le_of_ble_eq_true rfl) ?_
  refine W.eq (g2 := F0 m 4 ls []) rfl ?_
  refine lv_aload_n hx hb d_I_init_4 rfl (lv_at hl 0 rfl) ?_
  refine lv_bipush (v := 24) hx hb d_I_init_5 (by decide) ?_
  refine xnewa (N := 24) hx hb ka0 hK hP hD hS hA (by decide) (by decide) (by decide) (Nat.le_of_ble_eq_true rfl) (Nat.le_of_ble_eq_true rfl) d_I_init_7 (fun qb H hP hD hS => ?_)
  have hP : va_P (dC, dI) vwCl [(hi, .inr (2, [.null, .int 0])), (qb, .inl (cI, 24, .inl (fun _ => 0)))] H := hP
  have hD : va_D A [(hi, .inr (2, [.null, .int 0])), (qb, .inl (cI, 24, .inl (fun _ => 0)))] := hD
  refine va_putF (D := (dC, dI)) (ci := 2) (v := .ref qb) (ty := .array .int) (C := R_I) (T := F_I) (N := 2) hx hb hts inI t_I t_I_ok n_I hown hK hP hD hS 0 rfl rfl 0 (by decide) kf9 (fun _ h9 => h9) rfl hin rfl (by decide +kernel) rfl rfl (Nat.le_of_ble_eq_true rfl) d_I_init_9 (fun H locs hP hD hS => ?_)
  have hP : va_P (dC, dI) vwCl [(hi, .inr (2, [.ref qb, .int 0])), (qb, .inl (cI, 24, .inl (fun _ => 0)))] H := hP
  have hD : va_D A [(hi, .inr (2, [.ref qb, .int 0])), (qb, .inl (cI, 24, .inl (fun _ => 0)))] := hD
  obtain ⟨e1_, e2_⟩ := lf2 hf
  subst e1_; subst e2_
  have hP9 := hP.sub (ws' := [(hi, .inr (2, [.ref qb, .int 0])), (qb, .inl (cI, 24, .inl (fun _ => 0)))]) [0, 1] rfl
  have hD9 := hD.sub (ws' := [(hi, .inr (2, [.ref qb, .int 0])), (qb, .inl (cI, 24, .inl (fun _ => 0)))]) [0, 1] (by decide) rfl
  refine W.widen (k := 1) (n := 24) (Nat.le_of_ble_eq_true rfl) (Nat.le_of_ble_eq_true rfl) ?_
  exact W.vret hx hb hr (fun t ht hW => ⟨⟨qb, rfl, trivial, by rw [ht]; exact hP9, va_K.moved hW.alike hK, hD9⟩, hS.F ht⟩) hS.2.2 d_I_init_12
theorem d_I_append_0 : decode b_I_append 0 = .ok (.iload_n 3, 1) := by decide +kernel
theorem d_I_append_1 : decode b_I_append 1 = .ok (.iconst 1, 1) := by decide +kernel
theorem d_I_append_2 : decode b_I_append 2 = .ok (.if_icmp .lt 20, 3) := by decide +kernel
theorem d_I_append_5 : decode b_I_append 5 = .ok (.iload_n 3, 1) := by decide +kernel
theorem d_I_append_6 : decode b_I_append 6 = .ok (.bipush 8, 2) := by decide +kernel
theorem d_I_append_8 : decode b_I_append 8 = .ok (.if_icmp .gt 14, 3) := by decide +kernel
theorem d_I_append_11 : decode b_I_append 11 = .ok (.aload_n 0, 1) := by decide +kernel
theorem d_I_append_12 : decode b_I_append 12 = .ok (.getfield 13, 3) := by decide +kernel
theorem d_I_append_15 : decode b_I_append 15 = .ok (.iload_n 3, 1) := by decide +kernel
theorem d_I_append_16 : decode b_I_append 16 = .ok (.iadd, 1) := by decide +kernel
theorem d_I_append_17 : decode b_I_append 17 = .ok (.bipush 24, 2) := by decide +kernel
theorem d_I_append_19 : decode b_I_append 19 = .ok (.if_icmp .le 5, 3) := by decide +kernel
theorem d_I_append_22 : decode b_I_append 22 = .ok (.iconst 0, 1) := by decide +kernel
theorem d_I_append_23 : decode b_I_append 23 = .ok (.ireturn, 1) := by decide +kernel
theorem d_I_append_24 : decode b_I_append 24 = .ok (.iload_n 3, 1) := by decide +kernel
theorem d_I_append_25 : decode b_I_append 25 = .ok (.iconst 1, 1) := by decide +kernel
theorem d_I_append_26 : decode b_I_append 26 = .ok (.isub, 1) := by decide +kernel
theorem d_I_append_27 : decode b_I_append 27 = .ok (.istore 4, 2) := by decide +kernel
theorem d_I_append_29 : decode b_I_append 29 = .ok (.iload 4, 2) := by decide +kernel
theorem d_I_append_31 : decode b_I_append 31 = .ok (.ifCond .lt 40, 3) := by decide +kernel
theorem d_I_append_34 : decode b_I_append 34 = .ok (.aload_n 0, 1) := by decide +kernel
theorem d_I_append_35 : decode b_I_append 35 = .ok (.getfield 9, 3) := by decide +kernel
theorem d_I_append_38 : decode b_I_append 38 = .ok (.aload_n 0, 1) := by decide +kernel
theorem d_I_append_39 : decode b_I_append 39 = .ok (.getfield 13, 3) := by decide +kernel
theorem d_I_append_42 : decode b_I_append 42 = .ok (.lload_n 1, 1) := by decide +kernel
theorem d_I_append_43 : decode b_I_append 43 = .ok (.bipush 8, 2) := by decide +kernel
theorem d_I_append_45 : decode b_I_append 45 = .ok (.iload 4, 2) := by decide +kernel
theorem d_I_append_47 : decode b_I_append 47 = .ok (.imul, 1) := by decide +kernel
theorem d_I_append_48 : decode b_I_append 48 = .ok (.lushr, 1) := by decide +kernel
theorem d_I_append_49 : decode b_I_append 49 = .ok (.l2i, 1) := by decide +kernel
theorem d_I_append_50 : decode b_I_append 50 = .ok (.sipush 255, 3) := by decide +kernel
theorem d_I_append_53 : decode b_I_append 53 = .ok (.iand, 1) := by decide +kernel
theorem d_I_append_54 : decode b_I_append 54 = .ok (.iastore, 1) := by decide +kernel
theorem d_I_append_55 : decode b_I_append 55 = .ok (.aload_n 0, 1) := by decide +kernel
theorem d_I_append_56 : decode b_I_append 56 = .ok (.dup, 1) := by decide +kernel
theorem d_I_append_57 : decode b_I_append 57 = .ok (.getfield 13, 3) := by decide +kernel
theorem d_I_append_60 : decode b_I_append 60 = .ok (.iconst 1, 1) := by decide +kernel
theorem d_I_append_61 : decode b_I_append 61 = .ok (.iadd, 1) := by decide +kernel
theorem d_I_append_62 : decode b_I_append 62 = .ok (.putfield 13, 3) := by decide +kernel
theorem d_I_append_65 : decode b_I_append 65 = .ok (.iinc 4 (-1), 3) := by decide +kernel
theorem d_I_append_68 : decode b_I_append 68 = .ok (.goto (-39), 3) := by decide +kernel
theorem d_I_append_71 : decode b_I_append 71 = .ok (.iconst 1, 1) := by decide +kernel
theorem d_I_append_72 : decode b_I_append 72 = .ok (.ireturn, 1) := by decide +kernel
def fI_append_L29 : Nat → StI → Int64 → Int32 → Int32 → Option (Int32 × StI)
  | 0, _, _, _, _ => none
  | n + 1, (ib, ic), v1, v3, v4 => if v4 < 0 then (some (1, ib, ic)) else (ix ic 24 fun j5 => fI_append_L29 n (upd ib j5 ((((v1.toUInt64 >>> ((8 * v4).toInt64.toUInt64 &&& Int64.toUInt64 63)).toInt64).toInt32) &&& 255), ic + 1) v1 v3 (v4 + (-1)))
def fI_append (σ : StI) (a1 : Int64) (a2 : Int32) : Option (Int32 × StI) := match σ with | (ib, ic) => if a2 < 1 then (some (0, ib, ic)) else (if 8 < a2 then (some (0, ib, ic)) else (if (ic + a2) ≤ 24 then (fI_append_L29 300 (ib, ic) a1 a2 (a2 - 1)) else (some (0, ib, ic))))
set_option maxHeartbeats 4000000 in
set_option maxRecDepth 100000 in
theorem ctI_append (l : Launch) (dC : Nat → ClassId) (dI : Nat → Nat → Nat) (cI : ClassId) (hi qb : Nat) (ib : Nat → Int32) (ic : Int32) (a1 : Int64) (a2 : Int32) (r : Int32) (ib' : Nat → Int32) (ic' : Int32) (hf : fI_append (ib, ic) a1 a2 = some (r, ib', ic')) : CtZ l y_I_append w_I_append ({ frames := 0, cells := 0, slots := 0, locals := 0 }) (dC, dI) [(cI, .int)] [.ref hi, .long a1, .int a2] [(hi, .inr (2, [.ref qb, .int ic])), (qb, .inl (cI, 24, .inl ib))] [(hi, .inr (2, [.ref qb, .int ic'])), (qb, .inl (cI, 24, .inl ib'))] r := by
  intro sz
  refine Met.ofW (cc := b_I_append) (maxL := 5) (ret := some .boolean) (by decide) rfl ?_
  intro p e s m args below meth c s₁ B hml hv
  obtain ⟨rfl, hsz, hP, hK, hD0⟩ := hv
  have hx := B.exec
  have hb := B.bytes
  have hr := B.returns
  have hts := atoms_spec (ws := w_I_append) B.pre
  have hown : s.vm.findClass R_I = some m.cls := findClass_of_methodNamed B.named
  have hlocks := B.notSynchronized
  subst hsz
  have hD := hD0.self (sz := s.heap.size)
  generalize hAe : va_A [(hi, .inr (2, [.ref qb, .int ic])), (qb, .inl (cI, 24, .inl ib))] s.heap.size = A at hD ⊢
  have hA : ∀ q : Nat, s.heap.size ≤ q → A q := fun q h => by rw [← hAe]; exact Or.inr h
  have hS : va_S A s.heap s.heap [] := va_S.rf
  have hP : va_P (dC, dI) vwCl [(hi, .inr (2, [.ref qb, .int ic])), (qb, .inl (cI, 24, .inl ib))] s.heap := hP
  have hl := lv_entry ([.ref hi, .long a1, .int a2]) (n := 5) (Nat.le_of_ble_eq_true rfl)
  rw [lg_entry_eq]
  generalize (lg_sl ([.ref hi, .long a1, .int a2]) ++ List.replicate (5 - (lg_sl ([.ref hi, .long a1, .int a2])).length) Slot.unset).toArray = ls at hl ⊢
  have hl : lv_has ls 5 [(0, .ref hi), (1, .long a1), (3, .int a2)] := hl
  have inI : ∀ w ∈ u_ws R_I F_I 2, w ∈ w_I_append := fun w h => List.mem_cons_of_mem _ (in_I w h)
  have kf13 := hts _ (List.mem_cons_of_mem _ wq85)
  have kf9 := hts _ (List.mem_cons_of_mem _ wq84)
  rw [fI_append] at hf
  refine lv_iload_n hx hb d_I_append_0 rfl (lv_at hl 2 rfl) ?_
  refine lv_iconst (v := 1) hx hb d_I_append_1 (by decide) ?_
  refine lv_icmp_lt (tgt := 22) hx hb d_I_append_2 rfl (fun hc1 => ?_) (fun hc1 => ?_)
  · have hf := ift hf hc1
    refine lv_iconst (v := 0) hx hb d_I_append_22 (by decide) ?_
    obtain ⟨e1_, e2_, e3_⟩ := lf3 hf
    subst e1_; subst e2_; subst e3_
    have hP9 := hP.sub (ws' := [(hi, .inr (2, [.ref qb, .int ic])), (qb, .inl (cI, 24, .inl ib))]) [0, 1] rfl
    have hD9 := hD.sub (ws' := [(hi, .inr (2, [.ref qb, .int ic])), (qb, .inl (cI, 24, .inl ib))]) [0, 1] (by decide) rfl
    exact W.zret (v := 0) (ty := .boolean) hx hb hr rfl (fun t ht hW => ⟨⟨0, (), rfl, ⟨rfl, rfl⟩, by rw [ht]; exact hP9, va_K.moved hW.alike hK, hD9⟩, hS.F ht⟩) hS.2.2 d_I_append_23
  have hf := ifn hf hc1
  refine lv_iload_n hx hb d_I_append_5 rfl (lv_at hl 2 rfl) ?_
  refine lv_bipush (v := 8) hx hb d_I_append_6 (by decide) ?_
  refine lv_icmp_gt (tgt := 22) hx hb d_I_append_8 rfl (fun hc2 => ?_) (fun hc2 => ?_)
  · have hf := ift hf hc2
    refine lv_iconst (v := 0) hx hb d_I_append_22 (by decide) ?_
    obtain ⟨e1_, e2_, e3_⟩ := lf3 hf
    subst e1_; subst e2_; subst e3_
    have hP9 := hP.sub (ws' := [(hi, .inr (2, [.ref qb, .int ic])), (qb, .inl (cI, 24, .inl ib))]) [0, 1] rfl
    have hD9 := hD.sub (ws' := [(hi, .inr (2, [.ref qb, .int ic])), (qb, .inl (cI, 24, .inl ib))]) [0, 1] (by decide) rfl
    exact W.zret (v := 0) (ty := .boolean) hx hb hr rfl (fun t ht hW => ⟨⟨0, (), rfl, ⟨rfl, rfl⟩, by rw [ht]; exact hP9, va_K.moved hW.alike hK, hD9⟩, hS.F ht⟩) hS.2.2 d_I_append_23
  have hf := ifn hf hc2
  refine lv_aload_n hx hb d_I_append_11 rfl (lv_at hl 0 rfl) ?_
  refine va_get (D := (dC, dI)) (ci := 2) (v := .int ic) (C := R_I) (T := F_I) (N := 2) hx hb hts inI hown hK hP 0 rfl rfl 1 (by decide) kf13 (fun _ h9 => h9) rfl d_I_append_12 ?_
  refine lv_iload_n hx hb d_I_append_15 rfl (lv_at hl 2 rfl) ?_
  refine lv_iadd hx hb d_I_append_16 ?_
  refine lv_bipush (v := 24) hx hb d_I_append_17 (by decide) ?_
  refine lv_icmp_le (tgt := 24) hx hb d_I_append_19 rfl (fun hc3 => ?_) (fun hc3 => ?_)
  · have hf := ift hf hc3
    refine lv_iload_n hx hb d_I_append_24 rfl (lv_at hl 2 rfl) ?_
    refine lv_iconst (v := 1) hx hb d_I_append_25 (by decide) ?_
    refine lv_isub hx hb d_I_append_26 ?_
    refine lv_istore hx hb d_I_append_27 hl (by decide) rfl (fun ls hl => ?_)
    have hl : lv_has ls 5 [(4, .int (a2 - 1)), (0, .ref hi), (1, .long a1), (3, .int a2)] := hl
    have hl := lv_sub (l' := [(0, .ref hi), (1, .long a1), (3, .int a2), (4, .int (a2 - 1))]) hl [1, 2, 3, 0] rfl
    refine xloop (σ := (Nat → Int32) × (Int32) × (Int64) × (Int32) × (Int32)) (pc := 29) (fun n x H locs ls => va_P (dC, dI) vwCl [(hi, .inr (2, [.ref qb, .int (x.2.1)])), (qb, .inl (cI, 24, .inl (x.1)))] H ∧ va_D A [(hi, .inr (2, [.ref qb, .int (x.2.1)])), (qb, .inl (cI, 24, .inl (x.1)))] ∧ va_S A s.heap H locs ∧ lv_has ls 5 [(0, .ref hi), (1, .long (x.2.2.1)), (3, .int (x.2.2.2.1)), (4, .int (x.2.2.2.2))] ∧ fI_append_L29 n (x.1, x.2.1) x.2.2.1 x.2.2.2.1 x.2.2.2.2 = some (r, ib', ic')) ?_ (fun x H locs ls h => by have h9 := h.2.2.2.2; rw [fI_append_L29] at h9; cases h9) 300 (ib, ic, a1, a2, a2 - 1) _ _ ls ⟨hP, hD, hS, hl, hf⟩
    intro n ih x H locs ls hI
    obtain ⟨ib, ic, v1, v3, v4⟩ := x
    obtain ⟨hP, hD, hS, hl, hf⟩ := hI
    have hP : va_P (dC, dI) vwCl [(hi, .inr (2, [.ref qb, .int ic])), (qb, .inl (cI, 24, .inl ib))] H := hP
    have hD : va_D A [(hi, .inr (2, [.ref qb, .int ic])), (qb, .inl (cI, 24, .inl ib))] := hD
    have hl : lv_has ls 5 [(0, .ref hi), (1, .long v1), (3, .int v3), (4, .int v4)] := hl
    rw [fI_append_L29] at hf
    refine lv_iload hx hb d_I_append_29 (lv_at hl 3 rfl) ?_
    refine lv_if_lt (tgt := 71) hx hb d_I_append_31 rfl (fun hc4 => ?_) (fun hc4 => ?_)
    · have hf := ift hf hc4
      refine lv_iconst (v := 1) hx hb d_I_append_71 (by decide) ?_
      obtain ⟨e1_, e2_, e3_⟩ := lf3 hf
      subst e1_; subst e2_; subst e3_
      have hP9 := hP.sub (ws' := [(hi, .inr (2, [.ref qb, .int ic])), (qb, .inl (cI, 24, .inl ib))]) [0, 1] rfl
      have hD9 := hD.sub (ws' := [(hi, .inr (2, [.ref qb, .int ic])), (qb, .inl (cI, 24, .inl ib))]) [0, 1] (by decide) rfl
      exact W.zret (v := 1) (ty := .boolean) hx hb hr rfl (fun t ht hW => ⟨⟨1, (), rfl, ⟨rfl, rfl⟩, by rw [ht]; exact hP9, va_K.moved hW.alike hK, hD9⟩, hS.F ht⟩) hS.2.2 d_I_append_72
    have hf := ifn hf hc4
    refine lv_aload_n hx hb d_I_append_34 rfl (lv_at hl 0 rfl) ?_
    refine va_get (D := (dC, dI)) (ci := 2) (v := .ref qb) (C := R_I) (T := F_I) (N := 2) hx hb hts inI hown hK hP 0 rfl rfl 0 (by decide) kf9 (fun _ h9 => h9) rfl d_I_append_35 ?_
    refine lv_aload_n hx hb d_I_append_38 rfl (lv_at hl 0 rfl) ?_
    refine va_get (D := (dC, dI)) (ci := 2) (v := .int ic) (C := R_I) (T := F_I) (N := 2) hx hb hts inI hown hK hP 0 rfl rfl 1 (by decide) kf13 (fun _ h9 => h9) rfl d_I_append_39 ?_
    refine lv_lload_n hx hb d_I_append_42 rfl (lv_at hl 1 rfl) ?_
    refine lv_bipush (v := 8) hx hb d_I_append_43 (by decide) ?_
    refine lv_iload hx hb d_I_append_45 (lv_at hl 3 rfl) ?_
    refine lv_imul hx hb d_I_append_47 ?_
    refine lv_lushr (v := (v1.toUInt64 >>> ((8 * v4).toInt64.toUInt64 &&& Int64.toUInt64 63)).toInt64) hx hb d_I_append_48 rfl ?_
    refine lv_l2i (v := ((v1.toUInt64 >>> ((8 * v4).toInt64.toUInt64 &&& Int64.toUInt64 63)).toInt64).toInt32) hx hb d_I_append_49 rfl ?_
    refine lv_sipush (v := 255) hx hb d_I_append_50 (by decide) ?_
    refine lv_iand hx hb d_I_append_53 ?_
    obtain ⟨hin_, hf⟩ := ix_some hf
    refine va_iast hx hb hK hP hD hS 1 0 rfl rfl hin_ d_I_append_54 (fun H locs hP hD hS => ?_)
    have hP : va_P (dC, dI) vwCl [(hi, .inr (2, [.ref qb, .int ic])), (qb, .inl (cI, 24, .inl (upd ib (ic : Int32).toNatClampNeg ((((v1.toUInt64 >>> ((8 * v4).toInt64.toUInt64 &&& Int64.toUInt64 63)).toInt64).toInt32) &&& 255))))] H := hP
    have hD : va_D A [(hi, .inr (2, [.ref qb, .int ic])), (qb, .inl (cI, 24, .inl (upd ib (ic : Int32).toNatClampNeg ((((v1.toUInt64 >>> ((8 * v4).toInt64.toUInt64 &&& Int64.toUInt64 63)).toInt64).toInt32) &&& 255))))] := hD
    refine lv_aload_n hx hb d_I_append_55 rfl (lv_at hl 0 rfl) ?_
    refine lv_dup hx hb d_I_append_56 rfl ?_
    refine va_get (D := (dC, dI)) (ci := 2) (v := .int ic) (C := R_I) (T := F_I) (N := 2) hx hb hts inI hown hK hP 0 rfl rfl 1 (by decide) kf13 (fun _ h9 => h9) rfl d_I_append_57 ?_
    refine lv_iconst (v := 1) hx hb d_I_append_60 (by decide) ?_
    refine lv_iadd hx hb d_I_append_61 ?_
    refine va_put (D := (dC, dI)) (ci := 2) (v := .int (ic + 1)) (ty := .int) (C := R_I) (T := F_I) (N := 2) hx hb hts inI t_I t_I_ok n_I hown hK hP hD hS 0 rfl rfl 1 (by decide) kf13 (fun _ h9 => h9) rfl (by decide +kernel) rfl rfl (Nat.le_of_ble_eq_true rfl) d_I_append_62 (fun H locs hP hD hS => ?_)
    have hP : va_P (dC, dI) vwCl [(hi, .inr (2, [.ref qb, .int (ic + 1)])), (qb, .inl (cI, 24, .inl (upd ib (ic : Int32).toNatClampNeg ((((v1.toUInt64 >>> ((8 * v4).toInt64.toUInt64 &&& Int64.toUInt64 63)).toInt64).toInt32) &&& 255))))] H := hP
    have hD : va_D A [(hi, .inr (2, [.ref qb, .int (ic + 1)])), (qb, .inl (cI, 24, .inl (upd ib (ic : Int32).toNatClampNeg ((((v1.toUInt64 >>> ((8 * v4).toInt64.toUInt64 &&& Int64.toUInt64 63)).toInt64).toInt32) &&& 255))))] := hD
    refine lv_iinc (v := v4 + (-1)) hx hb d_I_append_65 hl (k := 3) rfl rfl (by decide) rfl (fun ls hl => ?_)
    have hl : lv_has ls 5 [(4, .int (v4 + (-1))), (0, .ref hi), (1, .long v1), (3, .int v3)] := hl
    refine lv_goto (tgt := 29) hx hb d_I_append_68 rfl ?_
    have hl := lv_sub (l' := [(0, .ref hi), (1, .long v1), (3, .int v3), (4, .int (v4 + (-1)))]) hl [1, 2, 3, 0] rfl
    exact ih (upd ib (ic : Int32).toNatClampNeg ((((v1.toUInt64 >>> ((8 * v4).toInt64.toUInt64 &&& Int64.toUInt64 63)).toInt64).toInt32) &&& 255), ic + 1, v1, v3, v4 + (-1)) _ _ ls ⟨hP, hD, hS, hl, hf⟩
  have hf := ifn hf hc3
  refine lv_iconst (v := 0) hx hb d_I_append_22 (by decide) ?_
  obtain ⟨e1_, e2_, e3_⟩ := lf3 hf
  subst e1_; subst e2_; subst e3_
  have hP9 := hP.sub (ws' := [(hi, .inr (2, [.ref qb, .int ic])), (qb, .inl (cI, 24, .inl ib))]) [0, 1] rfl
  have hD9 := hD.sub (ws' := [(hi, .inr (2, [.ref qb, .int ic])), (qb, .inl (cI, 24, .inl ib))]) [0, 1] (by decide) rfl
  exact W.zret (v := 0) (ty := .boolean) hx hb hr rfl (fun t ht hW => ⟨⟨0, (), rfl, ⟨rfl, rfl⟩, by rw [ht]; exact hP9, va_K.moved hW.alike hK, hD9⟩, hS.F ht⟩) hS.2.2 d_I_append_23
theorem d_I_clear_0 : decode b_I_clear 0 = .ok (.aload_n 0, 1) := by decide +kernel
theorem d_I_clear_1 : decode b_I_clear 1 = .ok (.iconst 0, 1) := by decide +kernel
theorem d_I_clear_2 : decode b_I_clear 2 = .ok (.putfield 13, 3) := by decide +kernel
theorem d_I_clear_5 : decode b_I_clear 5 = .ok (.return_, 1) := by decide +kernel
def fI_clear (σ : StI) : Option (StI) := match σ with | (ib, ic) => some (ib, 0)
set_option maxHeartbeats 4000000 in
set_option maxRecDepth 100000 in
theorem ctI_clear (l : Launch) (dC : Nat → ClassId) (dI : Nat → Nat → Nat) (cI : ClassId) (hi qb : Nat) (ib : Nat → Int32) (ic : Int32) (ib' : Nat → Int32) (ic' : Int32) (hf : fI_clear (ib, ic) = some (ib', ic')) : CtV l y_I_clear w_I_clear ({ frames := 0, cells := 0, slots := 0, locals := 0 }) (dC, dI) [(cI, .int)] [.ref hi] [(hi, .inr (2, [.ref qb, .int ic])), (qb, .inl (cI, 24, .inl ib))] [(hi, .inr (2, [.ref qb, .int ic'])), (qb, .inl (cI, 24, .inl ib'))] := by
  intro sz
  refine Met.ofW (cc := b_I_clear) (maxL := 1) (ret := none) (by decide) rfl ?_
  intro p e s m args below meth c s₁ B hml hv
  obtain ⟨rfl, hsz, hP, hK, hD0⟩ := hv
  have hx := B.exec
  have hb := B.bytes
  have hr := B.returns
  have hts := atoms_spec (ws := w_I_clear) B.pre
  have hown : s.vm.findClass R_I = some m.cls := findClass_of_methodNamed B.named
  have hlocks := B.notSynchronized
  subst hsz
  have hD := hD0.self (sz := s.heap.size)
  generalize hAe : va_A [(hi, .inr (2, [.ref qb, .int ic])), (qb, .inl (cI, 24, .inl ib))] s.heap.size = A at hD ⊢
  have hA : ∀ q : Nat, s.heap.size ≤ q → A q := fun q h => by rw [← hAe]; exact Or.inr h
  have hS : va_S A s.heap s.heap [] := va_S.rf
  have hP : va_P (dC, dI) vwCl [(hi, .inr (2, [.ref qb, .int ic])), (qb, .inl (cI, 24, .inl ib))] s.heap := hP
  have hl := lv_entry ([.ref hi]) (n := 1) (Nat.le_of_ble_eq_true rfl)
  rw [lg_entry_eq]
  generalize (lg_sl ([.ref hi]) ++ List.replicate (1 - (lg_sl ([.ref hi])).length) Slot.unset).toArray = ls at hl ⊢
  have hl : lv_has ls 1 [(0, .ref hi)] := hl
  have inI : ∀ w ∈ u_ws R_I F_I 2, w ∈ w_I_clear := fun w h => List.mem_cons_of_mem _ (in_I w h)
  have kf13 := hts _ (List.mem_cons_of_mem _ wq85)
  rw [fI_clear] at hf
  refine lv_aload_n hx hb d_I_clear_0 rfl (lv_at hl 0 rfl) ?_
  refine lv_iconst (v := 0) hx hb d_I_clear_1 (by decide) ?_
  refine va_put (D := (dC, dI)) (ci := 2) (v := .int 0) (ty := .int) (C := R_I) (T := F_I) (N := 2) hx hb hts inI t_I t_I_ok n_I hown hK hP hD hS 0 rfl rfl 1 (by decide) kf13 (fun _ h9 => h9) rfl (by decide +kernel) rfl rfl (Nat.le_of_ble_eq_true rfl) d_I_clear_2 (fun H locs hP hD hS => ?_)
  have hP : va_P (dC, dI) vwCl [(hi, .inr (2, [.ref qb, .int 0])), (qb, .inl (cI, 24, .inl ib))] H := hP
  have hD : va_D A [(hi, .inr (2, [.ref qb, .int 0])), (qb, .inl (cI, 24, .inl ib))] := hD
  obtain ⟨e1_, e2_⟩ := lf2 hf
  subst e1_; subst e2_
  have hP9 := hP.sub (ws' := [(hi, .inr (2, [.ref qb, .int 0])), (qb, .inl (cI, 24, .inl ib))]) [0, 1] rfl
  have hD9 := hD.sub (ws' := [(hi, .inr (2, [.ref qb, .int 0])), (qb, .inl (cI, 24, .inl ib))]) [0, 1] (by decide) rfl
  exact W.vret hx hb hr (fun t ht hW => ⟨⟨(), rfl, trivial, by rw [ht]; exact hP9, va_K.moved hW.alike hK, hD9⟩, hS.F ht⟩) hS.2.2 d_I_clear_5
theorem d_I_size_0 : decode b_I_size 0 = .ok (.aload_n 0, 1) := by decide +kernel
theorem d_I_size_1 : decode b_I_size 1 = .ok (.getfield 13, 3) := by decide +kernel
theorem d_I_size_4 : decode b_I_size 4 = .ok (.ireturn, 1) := by decide +kernel
def fI_size (σ : StI) : Option (Int32) := match σ with | (ib, ic) => some ic
set_option maxHeartbeats 4000000 in
set_option maxRecDepth 100000 in
theorem ctI_size (l : Launch) (dC : Nat → ClassId) (dI : Nat → Nat → Nat) (cI : ClassId) (hi qb : Nat) (ib : Nat → Int32) (ic : Int32) (r : Int32) (hf : fI_size (ib, ic) = some r) : CtI l y_I_size w_I_size ({ frames := 0, cells := 0, slots := 0, locals := 0 }) (dC, dI) [(cI, .int)] [.ref hi] [(hi, .inr (2, [.ref qb, .int ic])), (qb, .inl (cI, 24, .inl ib))] [(hi, .inr (2, [.ref qb, .int ic])), (qb, .inl (cI, 24, .inl ib))] r := by
  intro sz
  refine Met.ofW (cc := b_I_size) (maxL := 1) (ret := some .int) (by decide) rfl ?_
  intro p e s m args below meth c s₁ B hml hv
  obtain ⟨rfl, hsz, hP, hK, hD0⟩ := hv
  have hx := B.exec
  have hb := B.bytes
  have hr := B.returns
  have hts := atoms_spec (ws := w_I_size) B.pre
  have hown : s.vm.findClass R_I = some m.cls := findClass_of_methodNamed B.named
  have hlocks := B.notSynchronized
  subst hsz
  have hD := hD0.self (sz := s.heap.size)
  generalize hAe : va_A [(hi, .inr (2, [.ref qb, .int ic])), (qb, .inl (cI, 24, .inl ib))] s.heap.size = A at hD ⊢
  have hA : ∀ q : Nat, s.heap.size ≤ q → A q := fun q h => by rw [← hAe]; exact Or.inr h
  have hS : va_S A s.heap s.heap [] := va_S.rf
  have hP : va_P (dC, dI) vwCl [(hi, .inr (2, [.ref qb, .int ic])), (qb, .inl (cI, 24, .inl ib))] s.heap := hP
  have hl := lv_entry ([.ref hi]) (n := 1) (Nat.le_of_ble_eq_true rfl)
  rw [lg_entry_eq]
  generalize (lg_sl ([.ref hi]) ++ List.replicate (1 - (lg_sl ([.ref hi])).length) Slot.unset).toArray = ls at hl ⊢
  have hl : lv_has ls 1 [(0, .ref hi)] := hl
  have inI : ∀ w ∈ u_ws R_I F_I 2, w ∈ w_I_size := fun w h => List.mem_cons_of_mem _ (in_I w h)
  have kf13 := hts _ (List.mem_cons_of_mem _ wq85)
  rw [fI_size] at hf
  refine lv_aload_n hx hb d_I_size_0 rfl (lv_at hl 0 rfl) ?_
  refine va_get (D := (dC, dI)) (ci := 2) (v := .int ic) (C := R_I) (T := F_I) (N := 2) hx hb hts inI hown hK hP 0 rfl rfl 1 (by decide) kf13 (fun _ h9 => h9) rfl d_I_size_1 ?_
  have e1_ := lf1 hf
  subst e1_
  have hP9 := hP.sub (ws' := [(hi, .inr (2, [.ref qb, .int ic])), (qb, .inl (cI, 24, .inl ib))]) [0, 1] rfl
  have hD9 := hD.sub (ws' := [(hi, .inr (2, [.ref qb, .int ic])), (qb, .inl (cI, 24, .inl ib))]) [0, 1] (by decide) rfl
  exact W.iret (v := ic) hx hb hr (fun t ht hW => ⟨⟨ic, (), rfl, rfl, by rw [ht]; exact hP9, va_K.moved hW.alike hK, hD9⟩, hS.F ht⟩) hS.2.2 d_I_size_4
theorem d_I_lc_0 : decode b_I_lc 0 = .ok (.aload_n 0, 1) := by decide +kernel
theorem d_I_lc_1 : decode b_I_lc 1 = .ok (.getfield 9, 3) := by decide +kernel
theorem d_I_lc_4 : decode b_I_lc 4 = .ok (.iconst 4, 1) := by decide +kernel
theorem d_I_lc_5 : decode b_I_lc 5 = .ok (.iaload, 1) := by decide +kernel
theorem d_I_lc_6 : decode b_I_lc 6 = .ok (.ireturn, 1) := by decide +kernel
def fI_lc (σ : StI) : Option (Int32) := match σ with | (ib, ic) => ix 4 24 fun j1 => some (ib j1)
set_option maxHeartbeats 4000000 in
set_option maxRecDepth 100000 in
theorem ctI_lc (l : Launch) (dC : Nat → ClassId) (dI : Nat → Nat → Nat) (cI : ClassId) (hi qb : Nat) (ib : Nat → Int32) (ic : Int32) (r : Int32) (hf : fI_lc (ib, ic) = some r) : CtI l y_I_lc w_I_lc ({ frames := 0, cells := 0, slots := 0, locals := 0 }) (dC, dI) [(cI, .int)] [.ref hi] [(hi, .inr (2, [.ref qb, .int ic])), (qb, .inl (cI, 24, .inl ib))] [(hi, .inr (2, [.ref qb, .int ic])), (qb, .inl (cI, 24, .inl ib))] r := by
  intro sz
  refine Met.ofW (cc := b_I_lc) (maxL := 1) (ret := some .int) (by decide) rfl ?_
  intro p e s m args below meth c s₁ B hml hv
  obtain ⟨rfl, hsz, hP, hK, hD0⟩ := hv
  have hx := B.exec
  have hb := B.bytes
  have hr := B.returns
  have hts := atoms_spec (ws := w_I_lc) B.pre
  have hown : s.vm.findClass R_I = some m.cls := findClass_of_methodNamed B.named
  have hlocks := B.notSynchronized
  subst hsz
  have hD := hD0.self (sz := s.heap.size)
  generalize hAe : va_A [(hi, .inr (2, [.ref qb, .int ic])), (qb, .inl (cI, 24, .inl ib))] s.heap.size = A at hD ⊢
  have hA : ∀ q : Nat, s.heap.size ≤ q → A q := fun q h => by rw [← hAe]; exact Or.inr h
  have hS : va_S A s.heap s.heap [] := va_S.rf
  have hP : va_P (dC, dI) vwCl [(hi, .inr (2, [.ref qb, .int ic])), (qb, .inl (cI, 24, .inl ib))] s.heap := hP
  have hl := lv_entry ([.ref hi]) (n := 1) (Nat.le_of_ble_eq_true rfl)
  rw [lg_entry_eq]
  generalize (lg_sl ([.ref hi]) ++ List.replicate (1 - (lg_sl ([.ref hi])).length) Slot.unset).toArray = ls at hl ⊢
  have hl : lv_has ls 1 [(0, .ref hi)] := hl
  have inI : ∀ w ∈ u_ws R_I F_I 2, w ∈ w_I_lc := fun w h => List.mem_cons_of_mem _ (in_I w h)
  have kf9 := hts _ (List.mem_cons_of_mem _ wq84)
  rw [fI_lc] at hf
  refine lv_aload_n hx hb d_I_lc_0 rfl (lv_at hl 0 rfl) ?_
  refine va_get (D := (dC, dI)) (ci := 2) (v := .ref qb) (C := R_I) (T := F_I) (N := 2) hx hb hts inI hown hK hP 0 rfl rfl 0 (by decide) kf9 (fun _ h9 => h9) rfl d_I_lc_1 ?_
  refine lv_iconst (v := 4) hx hb d_I_lc_4 (by decide) ?_
  obtain ⟨hin_, hf⟩ := ix_some hf
  refine va_iald hx hb hK hP 1 0 rfl rfl hin_ d_I_lc_5 ?_
  have e1_ := lf1 hf
  subst e1_
  have hP9 := hP.sub (ws' := [(hi, .inr (2, [.ref qb, .int ic])), (qb, .inl (cI, 24, .inl ib))]) [0, 1] rfl
  have hD9 := hD.sub (ws' := [(hi, .inr (2, [.ref qb, .int ic])), (qb, .inl (cI, 24, .inl ib))]) [0, 1] (by decide) rfl
  exact W.iret (v := ib (4 : Int32).toNatClampNeg) hx hb hr (fun t ht hW => ⟨⟨ib (4 : Int32).toNatClampNeg, (), rfl, rfl, by rw [ht]; exact hP9, va_K.moved hW.alike hK, hD9⟩, hS.F ht⟩) hS.2.2 d_I_lc_6
theorem d_I_shape_0 : decode b_I_shape 0 = .ok (.aload_n 0, 1) := by decide +kernel
theorem d_I_shape_1 : decode b_I_shape 1 = .ok (.getfield 13, 3) := by decide +kernel
theorem d_I_shape_4 : decode b_I_shape 4 = .ok (.iconst 4, 1) := by decide +kernel
theorem d_I_shape_5 : decode b_I_shape 5 = .ok (.if_icmp .ge 5, 3) := by decide +kernel
theorem d_I_shape_8 : decode b_I_shape 8 = .ok (.iconst 0, 1) := by decide +kernel
theorem d_I_shape_9 : decode b_I_shape 9 = .ok (.ireturn, 1) := by decide +kernel
theorem d_I_shape_10 : decode b_I_shape 10 = .ok (.aload_n 0, 1) := by decide +kernel
theorem d_I_shape_11 : decode b_I_shape 11 = .ok (.getfield 13, 3) := by decide +kernel
theorem d_I_shape_14 : decode b_I_shape 14 = .ok (.iconst 4, 1) := by decide +kernel
theorem d_I_shape_15 : decode b_I_shape 15 = .ok (.if_icmp .ne 5, 3) := by decide +kernel
theorem d_I_shape_18 : decode b_I_shape 18 = .ok (.iconst 1, 1) := by decide +kernel
theorem d_I_shape_19 : decode b_I_shape 19 = .ok (.ireturn, 1) := by decide +kernel
theorem d_I_shape_20 : decode b_I_shape 20 = .ok (.aload_n 0, 1) := by decide +kernel
theorem d_I_shape_21 : decode b_I_shape 21 = .ok (.getfield 13, 3) := by decide +kernel
theorem d_I_shape_24 : decode b_I_shape 24 = .ok (.iconst 5, 1) := by decide +kernel
theorem d_I_shape_25 : decode b_I_shape 25 = .ok (.if_icmp .ne 5, 3) := by decide +kernel
theorem d_I_shape_28 : decode b_I_shape 28 = .ok (.iconst 2, 1) := by decide +kernel
theorem d_I_shape_29 : decode b_I_shape 29 = .ok (.ireturn, 1) := by decide +kernel
theorem d_I_shape_30 : decode b_I_shape 30 = .ok (.aload_n 0, 1) := by decide +kernel
theorem d_I_shape_31 : decode b_I_shape 31 = .ok (.invokevirtual 17, 3) := by decide +kernel
theorem d_I_shape_34 : decode b_I_shape 34 = .ok (.ifCond .ne 5, 3) := by decide +kernel
theorem d_I_shape_37 : decode b_I_shape 37 = .ok (.iconst 0, 1) := by decide +kernel
theorem d_I_shape_38 : decode b_I_shape 38 = .ok (.ireturn, 1) := by decide +kernel
theorem d_I_shape_39 : decode b_I_shape 39 = .ok (.aload_n 0, 1) := by decide +kernel
theorem d_I_shape_40 : decode b_I_shape 40 = .ok (.getfield 13, 3) := by decide +kernel
theorem d_I_shape_43 : decode b_I_shape 43 = .ok (.iconst 5, 1) := by decide +kernel
theorem d_I_shape_44 : decode b_I_shape 44 = .ok (.aload_n 0, 1) := by decide +kernel
theorem d_I_shape_45 : decode b_I_shape 45 = .ok (.invokevirtual 17, 3) := by decide +kernel
theorem d_I_shape_48 : decode b_I_shape 48 = .ok (.iadd, 1) := by decide +kernel
theorem d_I_shape_49 : decode b_I_shape 49 = .ok (.if_icmp .ne 5, 3) := by decide +kernel
theorem d_I_shape_52 : decode b_I_shape 52 = .ok (.iconst 3, 1) := by decide +kernel
theorem d_I_shape_53 : decode b_I_shape 53 = .ok (.ireturn, 1) := by decide +kernel
theorem d_I_shape_54 : decode b_I_shape 54 = .ok (.aload_n 0, 1) := by decide +kernel
theorem d_I_shape_55 : decode b_I_shape 55 = .ok (.getfield 13, 3) := by decide +kernel
theorem d_I_shape_58 : decode b_I_shape 58 = .ok (.iconst 5, 1) := by decide +kernel
theorem d_I_shape_59 : decode b_I_shape 59 = .ok (.aload_n 0, 1) := by decide +kernel
theorem d_I_shape_60 : decode b_I_shape 60 = .ok (.invokevirtual 17, 3) := by decide +kernel
theorem d_I_shape_63 : decode b_I_shape 63 = .ok (.iadd, 1) := by decide +kernel
theorem d_I_shape_64 : decode b_I_shape 64 = .ok (.iconst 1, 1) := by decide +kernel
theorem d_I_shape_65 : decode b_I_shape 65 = .ok (.iadd, 1) := by decide +kernel
theorem d_I_shape_66 : decode b_I_shape 66 = .ok (.if_icmp .ne 7, 3) := by decide +kernel
theorem d_I_shape_69 : decode b_I_shape 69 = .ok (.iconst 4, 1) := by decide +kernel
theorem d_I_shape_70 : decode b_I_shape 70 = .ok (.goto 4, 3) := by decide +kernel
theorem d_I_shape_73 : decode b_I_shape 73 = .ok (.iconst 0, 1) := by decide +kernel
theorem d_I_shape_74 : decode b_I_shape 74 = .ok (.ireturn, 1) := by decide +kernel
def fI_shape (σ : StI) : Option (Int32) := match σ with | (ib, ic) => if 4 ≤ ic then (if ic = 4 then (some 1) else (if ic = 5 then (some 2) else (bd1 (fI_lc (ib, ic)) fun r4 => if r4 = 0 then (some 0) else (bd1 (fI_lc (ib, ic)) fun r6 => if ic = (5 + r6) then (some 3) else (bd1 (fI_lc (ib, ic)) fun r8 => if ic = ((5 + r8) + 1) then (some 4) else (some 0)))))) else (some 0)
set_option maxHeartbeats 4000000 in
set_option maxRecDepth 100000 in
theorem ctI_shape (l : Launch) (dC : Nat → ClassId) (dI : Nat → Nat → Nat) (cI : ClassId) (hi qb : Nat) (ib : Nat → Int32) (ic : Int32) (r : Int32) (hf : fI_shape (ib, ic) = some r) : CtI l y_I_shape w_I_shape ({ frames := 1, cells := 0, slots := 0, locals := 20 }) (dC, dI) [(cI, .int)] [.ref hi] [(hi, .inr (2, [.ref qb, .int ic])), (qb, .inl (cI, 24, .inl ib))] [(hi, .inr (2, [.ref qb, .int ic])), (qb, .inl (cI, 24, .inl ib))] r := by
  intro sz
  refine Met.ofW (cc := b_I_shape) (maxL := 1) (ret := some .int) (by decide) rfl ?_
  intro p e s m args below meth c s₁ B hml hv
  obtain ⟨rfl, hsz, hP, hK, hD0⟩ := hv
  have hx := B.exec
  have hb := B.bytes
  have hr := B.returns
  have hts := atoms_spec (ws := w_I_shape) B.pre
  have hown : s.vm.findClass R_I = some m.cls := findClass_of_methodNamed B.named
  have hlocks := B.notSynchronized
  subst hsz
  have hD := hD0.self (sz := s.heap.size)
  generalize hAe : va_A [(hi, .inr (2, [.ref qb, .int ic])), (qb, .inl (cI, 24, .inl ib))] s.heap.size = A at hD ⊢
  have hA : ∀ q : Nat, s.heap.size ≤ q → A q := fun q h => by rw [← hAe]; exact Or.inr h
  have hS : va_S A s.heap s.heap [] := va_S.rf
  have hP : va_P (dC, dI) vwCl [(hi, .inr (2, [.ref qb, .int ic])), (qb, .inl (cI, 24, .inl ib))] s.heap := hP
  have hl := lv_entry ([.ref hi]) (n := 1) (Nat.le_of_ble_eq_true rfl)
  rw [lg_entry_eq]
  generalize (lg_sl ([.ref hi]) ++ List.replicate (1 - (lg_sl ([.ref hi])).length) Slot.unset).toArray = ls at hl ⊢
  have hl : lv_has ls 1 [(0, .ref hi)] := hl
  have inI : ∀ w ∈ u_ws R_I F_I 2, w ∈ w_I_shape := fun w h => List.mem_cons_of_mem _ (in_I w h)
  have kf13 := hts _ (List.mem_cons_of_mem _ wq85)
  rw [fI_shape] at hf
  refine lv_aload_n hx hb d_I_shape_0 rfl (lv_at hl 0 rfl) ?_
  refine va_get (D := (dC, dI)) (ci := 2) (v := .int ic) (C := R_I) (T := F_I) (N := 2) hx hb hts inI hown hK hP 0 rfl rfl 1 (by decide) kf13 (fun _ h9 => h9) rfl d_I_shape_1 ?_
  refine lv_iconst (v := 4) hx hb d_I_shape_4 (by decide) ?_
  refine lv_icmp_ge (tgt := 10) hx hb d_I_shape_5 rfl (fun hc1 => ?_) (fun hc1 => ?_)
  · have hf := ift hf hc1
    refine lv_aload_n hx hb d_I_shape_10 rfl (lv_at hl 0 rfl) ?_
    refine va_get (D := (dC, dI)) (ci := 2) (v := .int ic) (C := R_I) (T := F_I) (N := 2) hx hb hts inI hown hK hP 0 rfl rfl 1 (by decide) kf13 (fun _ h9 => h9) rfl d_I_shape_11 ?_
    refine lv_iconst (v := 4) hx hb d_I_shape_14 (by decide) ?_
    refine lv_icmp_ne (tgt := 20) hx hb d_I_shape_15 rfl (fun hc2 => ?_) (fun hc2 => ?_)
    · have hf := ifn hf hc2
      refine lv_aload_n hx hb d_I_shape_20 rfl (lv_at hl 0 rfl) ?_
      refine va_get (D := (dC, dI)) (ci := 2) (v := .int ic) (C := R_I) (T := F_I) (N := 2) hx hb hts inI hown hK hP 0 rfl rfl 1 (by decide) kf13 (fun _ h9 => h9) rfl d_I_shape_21 ?_
      refine lv_iconst (v := 5) hx hb d_I_shape_24 (by decide) ?_
      refine lv_icmp_ne (tgt := 30) hx hb d_I_shape_25 rfl (fun hc3 => ?_) (fun hc3 => ?_)
      · have hf := ifn hf hc3
        refine lv_aload_n hx hb d_I_shape_30 rfl (lv_at hl 0 rfl) ?_
        obtain ⟨r4, hg, hf⟩ := bd1_some hf
        refine xci (wr := []) (ctI_lc l dC dI cI hi qb ib ic r4 hg) ⟨hx, hb, hml, hown, hts⟩ (cwV (C := R_I) 0 hts (gV wq150 wq151 wq152 wq45 wq153) rfl rfl rfl (by decide +kernel) ⟨Nat.le_of_ble_eq_true rfl, Nat.le_of_ble_eq_true rfl⟩) hK hP hD hS hA [0, 1] [] rfl rfl rfl rfl (by decide) (ci := 2) (q0 := 0) rfl rfl rfl rfl hl.1 rfl (Nat.le_of_ble_eq_true rfl) d_I_shape_31 ⟨Nat.zero_le _, Nat.zero_le _⟩ (fun H locs hP hD hS => ?_)
        have hP : va_P (dC, dI) vwCl [(hi, .inr (2, [.ref qb, .int ic])), (qb, .inl (cI, 24, .inl ib))] H := hP
        have hD : va_D A [(hi, .inr (2, [.ref qb, .int ic])), (qb, .inl (cI, 24, .inl ib))] := hD
        refine lv_if_ne (tgt := 39) hx hb d_I_shape_34 rfl (fun hc5 => ?_) (fun hc5 => ?_)
        · have hf := ifn hf hc5
          refine lv_aload_n hx hb d_I_shape_39 rfl (lv_at hl 0 rfl) ?_
          refine va_get (D := (dC, dI)) (ci := 2) (v := .int ic) (C := R_I) (T := F_I) (N := 2) hx hb hts inI hown hK hP 0 rfl rfl 1 (by decide) kf13 (fun _ h9 => h9) rfl d_I_shape_40 ?_
          refine lv_iconst (v := 5) hx hb d_I_shape_43 (by decide) ?_
          refine lv_aload_n hx hb d_I_shape_44 rfl (lv_at hl 0 rfl) ?_
          obtain ⟨r6, hg, hf⟩ := bd1_some hf
          refine xci (wr := []) (ctI_lc l dC dI cI hi qb ib ic r6 hg) ⟨hx, hb, hml, hown, hts⟩ (cwV (C := R_I) 0 hts (gV wq150 wq151 wq152 wq45 wq153) rfl rfl rfl (by decide +kernel) ⟨Nat.le_of_ble_eq_true rfl, Nat.le_of_ble_eq_true rfl⟩) hK hP hD hS hA [0, 1] [] rfl rfl rfl rfl (by decide) (ci := 2) (q0 := 0) rfl rfl rfl rfl hl.1 rfl (Nat.le_of_ble_eq_true rfl) d_I_shape_45 ⟨Nat.zero_le _, Nat.zero_le _⟩ (fun H locs hP hD hS => ?_)
          have hP : va_P (dC, dI) vwCl [(hi, .inr (2, [.ref qb, .int ic])), (qb, .inl (cI, 24, .inl ib))] H := hP
          have hD : va_D A [(hi, .inr (2, [.ref qb, .int ic])), (qb, .inl (cI, 24, .inl ib))] := hD
          refine lv_iadd hx hb d_I_shape_48 ?_
          refine lv_icmp_ne (tgt := 54) hx hb d_I_shape_49 rfl (fun hc7 => ?_) (fun hc7 => ?_)
          · have hf := ifn hf hc7
            refine lv_aload_n hx hb d_I_shape_54 rfl (lv_at hl 0 rfl) ?_
            refine va_get (D := (dC, dI)) (ci := 2) (v := .int ic) (C := R_I) (T := F_I) (N := 2) hx hb hts inI hown hK hP 0 rfl rfl 1 (by decide) kf13 (fun _ h9 => h9) rfl d_I_shape_55 ?_
            refine lv_iconst (v := 5) hx hb d_I_shape_58 (by decide) ?_
            refine lv_aload_n hx hb d_I_shape_59 rfl (lv_at hl 0 rfl) ?_
            obtain ⟨r8, hg, hf⟩ := bd1_some hf
            refine xci (wr := []) (ctI_lc l dC dI cI hi qb ib ic r8 hg) ⟨hx, hb, hml, hown, hts⟩ (cwV (C := R_I) 0 hts (gV wq150 wq151 wq152 wq45 wq153) rfl rfl rfl (by decide +kernel) ⟨Nat.le_of_ble_eq_true rfl, Nat.le_of_ble_eq_true rfl⟩) hK hP hD hS hA [0, 1] [] rfl rfl rfl rfl (by decide) (ci := 2) (q0 := 0) rfl rfl rfl rfl hl.1 rfl (Nat.le_of_ble_eq_true rfl) d_I_shape_60 ⟨Nat.zero_le _, Nat.zero_le _⟩ (fun H locs hP hD hS => ?_)
            have hP : va_P (dC, dI) vwCl [(hi, .inr (2, [.ref qb, .int ic])), (qb, .inl (cI, 24, .inl ib))] H := hP
            have hD : va_D A [(hi, .inr (2, [.ref qb, .int ic])), (qb, .inl (cI, 24, .inl ib))] := hD
            refine lv_iadd hx hb d_I_shape_63 ?_
            refine lv_iconst (v := 1) hx hb d_I_shape_64 (by decide) ?_
            refine lv_iadd hx hb d_I_shape_65 ?_
            refine lv_icmp_ne (tgt := 73) hx hb d_I_shape_66 rfl (fun hc9 => ?_) (fun hc9 => ?_)
            · have hf := ifn hf hc9
              refine lv_iconst (v := 0) hx hb d_I_shape_73 (by decide) ?_
              have e1_ := lf1 hf
              subst e1_
              have hP9 := hP.sub (ws' := [(hi, .inr (2, [.ref qb, .int ic])), (qb, .inl (cI, 24, .inl ib))]) [0, 1] rfl
              have hD9 := hD.sub (ws' := [(hi, .inr (2, [.ref qb, .int ic])), (qb, .inl (cI, 24, .inl ib))]) [0, 1] (by decide) rfl
              exact W.iret (v := 0) hx hb hr (fun t ht hW => ⟨⟨0, (), rfl, rfl, by rw [ht]; exact hP9, va_K.moved hW.alike hK, hD9⟩, hS.F ht⟩) hS.2.2 d_I_shape_74
            have hf := ift hf hc9
            refine lv_iconst (v := 4) hx hb d_I_shape_69 (by decide) ?_
            refine lv_goto (tgt := 74) hx hb d_I_shape_70 rfl ?_
            have e1_ := lf1 hf
            subst e1_
            have hP9 := hP.sub (ws' := [(hi, .inr (2, [.ref qb, .int ic])), (qb, .inl (cI, 24, .inl ib))]) [0, 1] rfl
            have hD9 := hD.sub (ws' := [(hi, .inr (2, [.ref qb, .int ic])), (qb, .inl (cI, 24, .inl ib))]) [0, 1] (by decide) rfl
            exact W.iret (v := 4) hx hb hr (fun t ht hW => ⟨⟨4, (), rfl, rfl, by rw [ht]; exact hP9, va_K.moved hW.alike hK, hD9⟩, hS.F ht⟩) hS.2.2 d_I_shape_74
          have hf := ift hf hc7
          refine lv_iconst (v := 3) hx hb d_I_shape_52 (by decide) ?_
          have e1_ := lf1 hf
          subst e1_
          have hP9 := hP.sub (ws' := [(hi, .inr (2, [.ref qb, .int ic])), (qb, .inl (cI, 24, .inl ib))]) [0, 1] rfl
          have hD9 := hD.sub (ws' := [(hi, .inr (2, [.ref qb, .int ic])), (qb, .inl (cI, 24, .inl ib))]) [0, 1] (by decide) rfl
          exact W.iret (v := 3) hx hb hr (fun t ht hW => ⟨⟨3, (), rfl, rfl, by rw [ht]; exact hP9, va_K.moved hW.alike hK, hD9⟩, hS.F ht⟩) hS.2.2 d_I_shape_53
        have hf := ift hf hc5
        refine lv_iconst (v := 0) hx hb d_I_shape_37 (by decide) ?_
        have e1_ := lf1 hf
        subst e1_
        have hP9 := hP.sub (ws' := [(hi, .inr (2, [.ref qb, .int ic])), (qb, .inl (cI, 24, .inl ib))]) [0, 1] rfl
        have hD9 := hD.sub (ws' := [(hi, .inr (2, [.ref qb, .int ic])), (qb, .inl (cI, 24, .inl ib))]) [0, 1] (by decide) rfl
        exact W.iret (v := 0) hx hb hr (fun t ht hW => ⟨⟨0, (), rfl, rfl, by rw [ht]; exact hP9, va_K.moved hW.alike hK, hD9⟩, hS.F ht⟩) hS.2.2 d_I_shape_38
      have hf := ift hf hc3
      refine lv_iconst (v := 2) hx hb d_I_shape_28 (by decide) ?_
      have e1_ := lf1 hf
      subst e1_
      have hP9 := hP.sub (ws' := [(hi, .inr (2, [.ref qb, .int ic])), (qb, .inl (cI, 24, .inl ib))]) [0, 1] rfl
      have hD9 := hD.sub (ws' := [(hi, .inr (2, [.ref qb, .int ic])), (qb, .inl (cI, 24, .inl ib))]) [0, 1] (by decide) rfl
      exact W.iret (v := 2) hx hb hr (fun t ht hW => ⟨⟨2, (), rfl, rfl, by rw [ht]; exact hP9, va_K.moved hW.alike hK, hD9⟩, hS.F ht⟩) hS.2.2 d_I_shape_29
    have hf := ift hf hc2
    refine lv_iconst (v := 1) hx hb d_I_shape_18 (by decide) ?_
    have e1_ := lf1 hf
    subst e1_
    have hP9 := hP.sub (ws' := [(hi, .inr (2, [.ref qb, .int ic])), (qb, .inl (cI, 24, .inl ib))]) [0, 1] rfl
    have hD9 := hD.sub (ws' := [(hi, .inr (2, [.ref qb, .int ic])), (qb, .inl (cI, 24, .inl ib))]) [0, 1] (by decide) rfl
    exact W.iret (v := 1) hx hb hr (fun t ht hW => ⟨⟨1, (), rfl, rfl, by rw [ht]; exact hP9, va_K.moved hW.alike hK, hD9⟩, hS.F ht⟩) hS.2.2 d_I_shape_19
  have hf := ifn hf hc1
  refine lv_iconst (v := 0) hx hb d_I_shape_8 (by decide) ?_
  have e1_ := lf1 hf
  subst e1_
  have hP9 := hP.sub (ws' := [(hi, .inr (2, [.ref qb, .int ic])), (qb, .inl (cI, 24, .inl ib))]) [0, 1] rfl
  have hD9 := hD.sub (ws' := [(hi, .inr (2, [.ref qb, .int ic])), (qb, .inl (cI, 24, .inl ib))]) [0, 1] (by decide) rfl
  exact W.iret (v := 0) hx hb hr (fun t ht hW => ⟨⟨0, (), rfl, rfl, by rw [ht]; exact hP9, va_K.moved hW.alike hK, hD9⟩, hS.F ht⟩) hS.2.2 d_I_shape_9
theorem d_I_cardClass_0 : decode b_I_cardClass 0 = .ok (.aload_n 0, 1) := by decide +kernel
theorem d_I_cardClass_1 : decode b_I_cardClass 1 = .ok (.getfield 9, 3) := by decide +kernel
theorem d_I_cardClass_4 : decode b_I_cardClass 4 = .ok (.iconst 0, 1) := by decide +kernel
theorem d_I_cardClass_5 : decode b_I_cardClass 5 = .ok (.iaload, 1) := by decide +kernel
theorem d_I_cardClass_6 : decode b_I_cardClass 6 = .ok (.ireturn, 1) := by decide +kernel
def fI_cardClass (σ : StI) : Option (Int32) := match σ with | (ib, ic) => ix 0 24 fun j1 => some (ib j1)
set_option maxHeartbeats 4000000 in
set_option maxRecDepth 100000 in
theorem ctI_cardClass (l : Launch) (dC : Nat → ClassId) (dI : Nat → Nat → Nat) (cI : ClassId) (hi qb : Nat) (ib : Nat → Int32) (ic : Int32) (r : Int32) (hf : fI_cardClass (ib, ic) = some r) : CtI l y_I_cardClass w_I_cardClass ({ frames := 0, cells := 0, slots := 0, locals := 0 }) (dC, dI) [(cI, .int)] [.ref hi] [(hi, .inr (2, [.ref qb, .int ic])), (qb, .inl (cI, 24, .inl ib))] [(hi, .inr (2, [.ref qb, .int ic])), (qb, .inl (cI, 24, .inl ib))] r := by
  intro sz
  refine Met.ofW (cc := b_I_cardClass) (maxL := 1) (ret := some .int) (by decide) rfl ?_
  intro p e s m args below meth c s₁ B hml hv
  obtain ⟨rfl, hsz, hP, hK, hD0⟩ := hv
  have hx := B.exec
  have hb := B.bytes
  have hr := B.returns
  have hts := atoms_spec (ws := w_I_cardClass) B.pre
  have hown : s.vm.findClass R_I = some m.cls := findClass_of_methodNamed B.named
  have hlocks := B.notSynchronized
  subst hsz
  have hD := hD0.self (sz := s.heap.size)
  generalize hAe : va_A [(hi, .inr (2, [.ref qb, .int ic])), (qb, .inl (cI, 24, .inl ib))] s.heap.size = A at hD ⊢
  have hA : ∀ q : Nat, s.heap.size ≤ q → A q := fun q h => by rw [← hAe]; exact Or.inr h
  have hS : va_S A s.heap s.heap [] := va_S.rf
  have hP : va_P (dC, dI) vwCl [(hi, .inr (2, [.ref qb, .int ic])), (qb, .inl (cI, 24, .inl ib))] s.heap := hP
  have hl := lv_entry ([.ref hi]) (n := 1) (Nat.le_of_ble_eq_true rfl)
  rw [lg_entry_eq]
  generalize (lg_sl ([.ref hi]) ++ List.replicate (1 - (lg_sl ([.ref hi])).length) Slot.unset).toArray = ls at hl ⊢
  have hl : lv_has ls 1 [(0, .ref hi)] := hl
  have inI : ∀ w ∈ u_ws R_I F_I 2, w ∈ w_I_cardClass := fun w h => List.mem_cons_of_mem _ (in_I w h)
  have kf9 := hts _ (List.mem_cons_of_mem _ wq84)
  rw [fI_cardClass] at hf
  refine lv_aload_n hx hb d_I_cardClass_0 rfl (lv_at hl 0 rfl) ?_
  refine va_get (D := (dC, dI)) (ci := 2) (v := .ref qb) (C := R_I) (T := F_I) (N := 2) hx hb hts inI hown hK hP 0 rfl rfl 0 (by decide) kf9 (fun _ h9 => h9) rfl d_I_cardClass_1 ?_
  refine lv_iconst (v := 0) hx hb d_I_cardClass_4 (by decide) ?_
  obtain ⟨hin_, hf⟩ := ix_some hf
  refine va_iald hx hb hK hP 1 0 rfl rfl hin_ d_I_cardClass_5 ?_
  have e1_ := lf1 hf
  subst e1_
  have hP9 := hP.sub (ws' := [(hi, .inr (2, [.ref qb, .int ic])), (qb, .inl (cI, 24, .inl ib))]) [0, 1] rfl
  have hD9 := hD.sub (ws' := [(hi, .inr (2, [.ref qb, .int ic])), (qb, .inl (cI, 24, .inl ib))]) [0, 1] (by decide) rfl
  exact W.iret (v := ib (0 : Int32).toNatClampNeg) hx hb hr (fun t ht hW => ⟨⟨ib (0 : Int32).toNatClampNeg, (), rfl, rfl, by rw [ht]; exact hP9, va_K.moved hW.alike hK, hD9⟩, hS.F ht⟩) hS.2.2 d_I_cardClass_6
theorem d_I_instruction_0 : decode b_I_instruction 0 = .ok (.aload_n 0, 1) := by decide +kernel
theorem d_I_instruction_1 : decode b_I_instruction 1 = .ok (.getfield 9, 3) := by decide +kernel
theorem d_I_instruction_4 : decode b_I_instruction 4 = .ok (.iconst 1, 1) := by decide +kernel
theorem d_I_instruction_5 : decode b_I_instruction 5 = .ok (.iaload, 1) := by decide +kernel
theorem d_I_instruction_6 : decode b_I_instruction 6 = .ok (.ireturn, 1) := by decide +kernel
def fI_instruction (σ : StI) : Option (Int32) := match σ with | (ib, ic) => ix 1 24 fun j1 => some (ib j1)
set_option maxHeartbeats 4000000 in
set_option maxRecDepth 100000 in
theorem ctI_instruction (l : Launch) (dC : Nat → ClassId) (dI : Nat → Nat → Nat) (cI : ClassId) (hi qb : Nat) (ib : Nat → Int32) (ic : Int32) (r : Int32) (hf : fI_instruction (ib, ic) = some r) : CtI l y_I_instruction w_I_instruction ({ frames := 0, cells := 0, slots := 0, locals := 0 }) (dC, dI) [(cI, .int)] [.ref hi] [(hi, .inr (2, [.ref qb, .int ic])), (qb, .inl (cI, 24, .inl ib))] [(hi, .inr (2, [.ref qb, .int ic])), (qb, .inl (cI, 24, .inl ib))] r := by
  intro sz
  refine Met.ofW (cc := b_I_instruction) (maxL := 1) (ret := some .int) (by decide) rfl ?_
  intro p e s m args below meth c s₁ B hml hv
  obtain ⟨rfl, hsz, hP, hK, hD0⟩ := hv
  have hx := B.exec
  have hb := B.bytes
  have hr := B.returns
  have hts := atoms_spec (ws := w_I_instruction) B.pre
  have hown : s.vm.findClass R_I = some m.cls := findClass_of_methodNamed B.named
  have hlocks := B.notSynchronized
  subst hsz
  have hD := hD0.self (sz := s.heap.size)
  generalize hAe : va_A [(hi, .inr (2, [.ref qb, .int ic])), (qb, .inl (cI, 24, .inl ib))] s.heap.size = A at hD ⊢
  have hA : ∀ q : Nat, s.heap.size ≤ q → A q := fun q h => by rw [← hAe]; exact Or.inr h
  have hS : va_S A s.heap s.heap [] := va_S.rf
  have hP : va_P (dC, dI) vwCl [(hi, .inr (2, [.ref qb, .int ic])), (qb, .inl (cI, 24, .inl ib))] s.heap := hP
  have hl := lv_entry ([.ref hi]) (n := 1) (Nat.le_of_ble_eq_true rfl)
  rw [lg_entry_eq]
  generalize (lg_sl ([.ref hi]) ++ List.replicate (1 - (lg_sl ([.ref hi])).length) Slot.unset).toArray = ls at hl ⊢
  have hl : lv_has ls 1 [(0, .ref hi)] := hl
  have inI : ∀ w ∈ u_ws R_I F_I 2, w ∈ w_I_instruction := fun w h => List.mem_cons_of_mem _ (in_I w h)
  have kf9 := hts _ (List.mem_cons_of_mem _ wq84)
  rw [fI_instruction] at hf
  refine lv_aload_n hx hb d_I_instruction_0 rfl (lv_at hl 0 rfl) ?_
  refine va_get (D := (dC, dI)) (ci := 2) (v := .ref qb) (C := R_I) (T := F_I) (N := 2) hx hb hts inI hown hK hP 0 rfl rfl 0 (by decide) kf9 (fun _ h9 => h9) rfl d_I_instruction_1 ?_
  refine lv_iconst (v := 1) hx hb d_I_instruction_4 (by decide) ?_
  obtain ⟨hin_, hf⟩ := ix_some hf
  refine va_iald hx hb hK hP 1 0 rfl rfl hin_ d_I_instruction_5 ?_
  have e1_ := lf1 hf
  subst e1_
  have hP9 := hP.sub (ws' := [(hi, .inr (2, [.ref qb, .int ic])), (qb, .inl (cI, 24, .inl ib))]) [0, 1] rfl
  have hD9 := hD.sub (ws' := [(hi, .inr (2, [.ref qb, .int ic])), (qb, .inl (cI, 24, .inl ib))]) [0, 1] (by decide) rfl
  exact W.iret (v := ib (1 : Int32).toNatClampNeg) hx hb hr (fun t ht hW => ⟨⟨ib (1 : Int32).toNatClampNeg, (), rfl, rfl, by rw [ht]; exact hP9, va_K.moved hW.alike hK, hD9⟩, hS.F ht⟩) hS.2.2 d_I_instruction_6
theorem d_I_p1_0 : decode b_I_p1 0 = .ok (.aload_n 0, 1) := by decide +kernel
theorem d_I_p1_1 : decode b_I_p1 1 = .ok (.getfield 9, 3) := by decide +kernel
theorem d_I_p1_4 : decode b_I_p1 4 = .ok (.iconst 2, 1) := by decide +kernel
theorem d_I_p1_5 : decode b_I_p1 5 = .ok (.iaload, 1) := by decide +kernel
theorem d_I_p1_6 : decode b_I_p1 6 = .ok (.ireturn, 1) := by decide +kernel
def fI_p1 (σ : StI) : Option (Int32) := match σ with | (ib, ic) => ix 2 24 fun j1 => some (ib j1)
set_option maxHeartbeats 4000000 in
set_option maxRecDepth 100000 in
theorem ctI_p1 (l : Launch) (dC : Nat → ClassId) (dI : Nat → Nat → Nat) (cI : ClassId) (hi qb : Nat) (ib : Nat → Int32) (ic : Int32) (r : Int32) (hf : fI_p1 (ib, ic) = some r) : CtI l y_I_p1 w_I_p1 ({ frames := 0, cells := 0, slots := 0, locals := 0 }) (dC, dI) [(cI, .int)] [.ref hi] [(hi, .inr (2, [.ref qb, .int ic])), (qb, .inl (cI, 24, .inl ib))] [(hi, .inr (2, [.ref qb, .int ic])), (qb, .inl (cI, 24, .inl ib))] r := by
  intro sz
  refine Met.ofW (cc := b_I_p1) (maxL := 1) (ret := some .int) (by decide) rfl ?_
  intro p e s m args below meth c s₁ B hml hv
  obtain ⟨rfl, hsz, hP, hK, hD0⟩ := hv
  have hx := B.exec
  have hb := B.bytes
  have hr := B.returns
  have hts := atoms_spec (ws := w_I_p1) B.pre
  have hown : s.vm.findClass R_I = some m.cls := findClass_of_methodNamed B.named
  have hlocks := B.notSynchronized
  subst hsz
  have hD := hD0.self (sz := s.heap.size)
  generalize hAe : va_A [(hi, .inr (2, [.ref qb, .int ic])), (qb, .inl (cI, 24, .inl ib))] s.heap.size = A at hD ⊢
  have hA : ∀ q : Nat, s.heap.size ≤ q → A q := fun q h => by rw [← hAe]; exact Or.inr h
  have hS : va_S A s.heap s.heap [] := va_S.rf
  have hP : va_P (dC, dI) vwCl [(hi, .inr (2, [.ref qb, .int ic])), (qb, .inl (cI, 24, .inl ib))] s.heap := hP
  have hl := lv_entry ([.ref hi]) (n := 1) (Nat.le_of_ble_eq_true rfl)
  rw [lg_entry_eq]
  generalize (lg_sl ([.ref hi]) ++ List.replicate (1 - (lg_sl ([.ref hi])).length) Slot.unset).toArray = ls at hl ⊢
  have hl : lv_has ls 1 [(0, .ref hi)] := hl
  have inI : ∀ w ∈ u_ws R_I F_I 2, w ∈ w_I_p1 := fun w h => List.mem_cons_of_mem _ (in_I w h)
  have kf9 := hts _ (List.mem_cons_of_mem _ wq84)
  rw [fI_p1] at hf
  refine lv_aload_n hx hb d_I_p1_0 rfl (lv_at hl 0 rfl) ?_
  refine va_get (D := (dC, dI)) (ci := 2) (v := .ref qb) (C := R_I) (T := F_I) (N := 2) hx hb hts inI hown hK hP 0 rfl rfl 0 (by decide) kf9 (fun _ h9 => h9) rfl d_I_p1_1 ?_
  refine lv_iconst (v := 2) hx hb d_I_p1_4 (by decide) ?_
  obtain ⟨hin_, hf⟩ := ix_some hf
  refine va_iald hx hb hK hP 1 0 rfl rfl hin_ d_I_p1_5 ?_
  have e1_ := lf1 hf
  subst e1_
  have hP9 := hP.sub (ws' := [(hi, .inr (2, [.ref qb, .int ic])), (qb, .inl (cI, 24, .inl ib))]) [0, 1] rfl
  have hD9 := hD.sub (ws' := [(hi, .inr (2, [.ref qb, .int ic])), (qb, .inl (cI, 24, .inl ib))]) [0, 1] (by decide) rfl
  exact W.iret (v := ib (2 : Int32).toNatClampNeg) hx hb hr (fun t ht hW => ⟨⟨ib (2 : Int32).toNatClampNeg, (), rfl, rfl, by rw [ht]; exact hP9, va_K.moved hW.alike hK, hD9⟩, hS.F ht⟩) hS.2.2 d_I_p1_6
theorem d_I_p2_0 : decode b_I_p2 0 = .ok (.aload_n 0, 1) := by decide +kernel
theorem d_I_p2_1 : decode b_I_p2 1 = .ok (.getfield 9, 3) := by decide +kernel
theorem d_I_p2_4 : decode b_I_p2 4 = .ok (.iconst 3, 1) := by decide +kernel
theorem d_I_p2_5 : decode b_I_p2 5 = .ok (.iaload, 1) := by decide +kernel
theorem d_I_p2_6 : decode b_I_p2 6 = .ok (.ireturn, 1) := by decide +kernel
def fI_p2 (σ : StI) : Option (Int32) := match σ with | (ib, ic) => ix 3 24 fun j1 => some (ib j1)
set_option maxHeartbeats 4000000 in
set_option maxRecDepth 100000 in
theorem ctI_p2 (l : Launch) (dC : Nat → ClassId) (dI : Nat → Nat → Nat) (cI : ClassId) (hi qb : Nat) (ib : Nat → Int32) (ic : Int32) (r : Int32) (hf : fI_p2 (ib, ic) = some r) : CtI l y_I_p2 w_I_p2 ({ frames := 0, cells := 0, slots := 0, locals := 0 }) (dC, dI) [(cI, .int)] [.ref hi] [(hi, .inr (2, [.ref qb, .int ic])), (qb, .inl (cI, 24, .inl ib))] [(hi, .inr (2, [.ref qb, .int ic])), (qb, .inl (cI, 24, .inl ib))] r := by
  intro sz
  refine Met.ofW (cc := b_I_p2) (maxL := 1) (ret := some .int) (by decide) rfl ?_
  intro p e s m args below meth c s₁ B hml hv
  obtain ⟨rfl, hsz, hP, hK, hD0⟩ := hv
  have hx := B.exec
  have hb := B.bytes
  have hr := B.returns
  have hts := atoms_spec (ws := w_I_p2) B.pre
  have hown : s.vm.findClass R_I = some m.cls := findClass_of_methodNamed B.named
  have hlocks := B.notSynchronized
  subst hsz
  have hD := hD0.self (sz := s.heap.size)
  generalize hAe : va_A [(hi, .inr (2, [.ref qb, .int ic])), (qb, .inl (cI, 24, .inl ib))] s.heap.size = A at hD ⊢
  have hA : ∀ q : Nat, s.heap.size ≤ q → A q := fun q h => by rw [← hAe]; exact Or.inr h
  have hS : va_S A s.heap s.heap [] := va_S.rf
  have hP : va_P (dC, dI) vwCl [(hi, .inr (2, [.ref qb, .int ic])), (qb, .inl (cI, 24, .inl ib))] s.heap := hP
  have hl := lv_entry ([.ref hi]) (n := 1) (Nat.le_of_ble_eq_true rfl)
  rw [lg_entry_eq]
  generalize (lg_sl ([.ref hi]) ++ List.replicate (1 - (lg_sl ([.ref hi])).length) Slot.unset).toArray = ls at hl ⊢
  have hl : lv_has ls 1 [(0, .ref hi)] := hl
  have inI : ∀ w ∈ u_ws R_I F_I 2, w ∈ w_I_p2 := fun w h => List.mem_cons_of_mem _ (in_I w h)
  have kf9 := hts _ (List.mem_cons_of_mem _ wq84)
  rw [fI_p2] at hf
  refine lv_aload_n hx hb d_I_p2_0 rfl (lv_at hl 0 rfl) ?_
  refine va_get (D := (dC, dI)) (ci := 2) (v := .ref qb) (C := R_I) (T := F_I) (N := 2) hx hb hts inI hown hK hP 0 rfl rfl 0 (by decide) kf9 (fun _ h9 => h9) rfl d_I_p2_1 ?_
  refine lv_iconst (v := 3) hx hb d_I_p2_4 (by decide) ?_
  obtain ⟨hin_, hf⟩ := ix_some hf
  refine va_iald hx hb hK hP 1 0 rfl rfl hin_ d_I_p2_5 ?_
  have e1_ := lf1 hf
  subst e1_
  have hP9 := hP.sub (ws' := [(hi, .inr (2, [.ref qb, .int ic])), (qb, .inl (cI, 24, .inl ib))]) [0, 1] rfl
  have hD9 := hD.sub (ws' := [(hi, .inr (2, [.ref qb, .int ic])), (qb, .inl (cI, 24, .inl ib))]) [0, 1] (by decide) rfl
  exact W.iret (v := ib (3 : Int32).toNatClampNeg) hx hb hr (fun t ht hW => ⟨⟨ib (3 : Int32).toNatClampNeg, (), rfl, rfl, by rw [ht]; exact hP9, va_K.moved hW.alike hK, hD9⟩, hS.F ht⟩) hS.2.2 d_I_p2_6
theorem d_I_le_0 : decode b_I_le 0 = .ok (.aload_n 0, 1) := by decide +kernel
theorem d_I_le_1 : decode b_I_le 1 = .ok (.getfield 9, 3) := by decide +kernel
theorem d_I_le_4 : decode b_I_le 4 = .ok (.iconst 4, 1) := by decide +kernel
theorem d_I_le_5 : decode b_I_le 5 = .ok (.iaload, 1) := by decide +kernel
theorem d_I_le_6 : decode b_I_le 6 = .ok (.ifCond .ne 9, 3) := by decide +kernel
theorem d_I_le_9 : decode b_I_le 9 = .ok (.sipush 256, 3) := by decide +kernel
theorem d_I_le_12 : decode b_I_le 12 = .ok (.goto 9, 3) := by decide +kernel
theorem d_I_le_15 : decode b_I_le 15 = .ok (.aload_n 0, 1) := by decide +kernel
theorem d_I_le_16 : decode b_I_le 16 = .ok (.getfield 9, 3) := by decide +kernel
theorem d_I_le_19 : decode b_I_le 19 = .ok (.iconst 4, 1) := by decide +kernel
theorem d_I_le_20 : decode b_I_le 20 = .ok (.iaload, 1) := by decide +kernel
theorem d_I_le_21 : decode b_I_le 21 = .ok (.ireturn, 1) := by decide +kernel
def fI_le (σ : StI) : Option (Int32) := match σ with | (ib, ic) => ix 4 24 fun j1 => if (ib j1) = 0 then (some 256) else (ix 4 24 fun j3 => some (ib j3))
set_option maxHeartbeats 4000000 in
set_option maxRecDepth 100000 in
theorem ctI_le (l : Launch) (dC : Nat → ClassId) (dI : Nat → Nat → Nat) (cI : ClassId) (hi qb : Nat) (ib : Nat → Int32) (ic : Int32) (r : Int32) (hf : fI_le (ib, ic) = some r) : CtI l y_I_le w_I_le ({ frames := 0, cells := 0, slots := 0, locals := 0 }) (dC, dI) [(cI, .int)] [.ref hi] [(hi, .inr (2, [.ref qb, .int ic])), (qb, .inl (cI, 24, .inl ib))] [(hi, .inr (2, [.ref qb, .int ic])), (qb, .inl (cI, 24, .inl ib))] r := by
  intro sz
  refine Met.ofW (cc := b_I_le) (maxL := 1) (ret := some .int) (by decide) rfl ?_
  intro p e s m args below meth c s₁ B hml hv
  obtain ⟨rfl, hsz, hP, hK, hD0⟩ := hv
  have hx := B.exec
  have hb := B.bytes
  have hr := B.returns
  have hts := atoms_spec (ws := w_I_le) B.pre
  have hown : s.vm.findClass R_I = some m.cls := findClass_of_methodNamed B.named
  have hlocks := B.notSynchronized
  subst hsz
  have hD := hD0.self (sz := s.heap.size)
  generalize hAe : va_A [(hi, .inr (2, [.ref qb, .int ic])), (qb, .inl (cI, 24, .inl ib))] s.heap.size = A at hD ⊢
  have hA : ∀ q : Nat, s.heap.size ≤ q → A q := fun q h => by rw [← hAe]; exact Or.inr h
  have hS : va_S A s.heap s.heap [] := va_S.rf
  have hP : va_P (dC, dI) vwCl [(hi, .inr (2, [.ref qb, .int ic])), (qb, .inl (cI, 24, .inl ib))] s.heap := hP
  have hl := lv_entry ([.ref hi]) (n := 1) (Nat.le_of_ble_eq_true rfl)
  rw [lg_entry_eq]
  generalize (lg_sl ([.ref hi]) ++ List.replicate (1 - (lg_sl ([.ref hi])).length) Slot.unset).toArray = ls at hl ⊢
  have hl : lv_has ls 1 [(0, .ref hi)] := hl
  have inI : ∀ w ∈ u_ws R_I F_I 2, w ∈ w_I_le := fun w h => List.mem_cons_of_mem _ (in_I w h)
  have kf9 := hts _ (List.mem_cons_of_mem _ wq84)
  rw [fI_le] at hf
  refine lv_aload_n hx hb d_I_le_0 rfl (lv_at hl 0 rfl) ?_
  refine va_get (D := (dC, dI)) (ci := 2) (v := .ref qb) (C := R_I) (T := F_I) (N := 2) hx hb hts inI hown hK hP 0 rfl rfl 0 (by decide) kf9 (fun _ h9 => h9) rfl d_I_le_1 ?_
  refine lv_iconst (v := 4) hx hb d_I_le_4 (by decide) ?_
  obtain ⟨hin_, hf⟩ := ix_some hf
  refine va_iald hx hb hK hP 1 0 rfl rfl hin_ d_I_le_5 ?_
  refine lv_if_ne (tgt := 15) hx hb d_I_le_6 rfl (fun hc2 => ?_) (fun hc2 => ?_)
  · have hf := ifn hf hc2
    refine lv_aload_n hx hb d_I_le_15 rfl (lv_at hl 0 rfl) ?_
    refine va_get (D := (dC, dI)) (ci := 2) (v := .ref qb) (C := R_I) (T := F_I) (N := 2) hx hb hts inI hown hK hP 0 rfl rfl 0 (by decide) kf9 (fun _ h9 => h9) rfl d_I_le_16 ?_
    refine lv_iconst (v := 4) hx hb d_I_le_19 (by decide) ?_
    obtain ⟨hin_, hf⟩ := ix_some hf
    refine va_iald hx hb hK hP 1 0 rfl rfl hin_ d_I_le_20 ?_
    have e1_ := lf1 hf
    subst e1_
    have hP9 := hP.sub (ws' := [(hi, .inr (2, [.ref qb, .int ic])), (qb, .inl (cI, 24, .inl ib))]) [0, 1] rfl
    have hD9 := hD.sub (ws' := [(hi, .inr (2, [.ref qb, .int ic])), (qb, .inl (cI, 24, .inl ib))]) [0, 1] (by decide) rfl
    exact W.iret (v := ib (4 : Int32).toNatClampNeg) hx hb hr (fun t ht hW => ⟨⟨ib (4 : Int32).toNatClampNeg, (), rfl, rfl, by rw [ht]; exact hP9, va_K.moved hW.alike hK, hD9⟩, hS.F ht⟩) hS.2.2 d_I_le_21
  have hf := ift hf hc2
  refine lv_sipush (v := 256) hx hb d_I_le_9 (by decide) ?_
  refine lv_goto (tgt := 21) hx hb d_I_le_12 rfl ?_
  have e1_ := lf1 hf
  subst e1_
  have hP9 := hP.sub (ws' := [(hi, .inr (2, [.ref qb, .int ic])), (qb, .inl (cI, 24, .inl ib))]) [0, 1] rfl
  have hD9 := hD.sub (ws' := [(hi, .inr (2, [.ref qb, .int ic])), (qb, .inl (cI, 24, .inl ib))]) [0, 1] (by decide) rfl
  exact W.iret (v := 256) hx hb hr (fun t ht hW => ⟨⟨256, (), rfl, rfl, by rw [ht]; exact hP9, va_K.moved hW.alike hK, hD9⟩, hS.F ht⟩) hS.2.2 d_I_le_21
theorem d_I_payload_0 : decode b_I_payload 0 = .ok (.aload_n 0, 1) := by decide +kernel
theorem d_I_payload_1 : decode b_I_payload 1 = .ok (.getfield 9, 3) := by decide +kernel
theorem d_I_payload_4 : decode b_I_payload 4 = .ok (.iconst 5, 1) := by decide +kernel
theorem d_I_payload_5 : decode b_I_payload 5 = .ok (.iload_n 1, 1) := by decide +kernel
theorem d_I_payload_6 : decode b_I_payload 6 = .ok (.iadd, 1) := by decide +kernel
theorem d_I_payload_7 : decode b_I_payload 7 = .ok (.iaload, 1) := by decide +kernel
theorem d_I_payload_8 : decode b_I_payload 8 = .ok (.ireturn, 1) := by decide +kernel
def fI_payload (σ : StI) (a1 : Int32) : Option (Int32) := match σ with | (ib, ic) => ix (5 + a1) 24 fun j1 => some (ib j1)
set_option maxHeartbeats 4000000 in
set_option maxRecDepth 100000 in
theorem ctI_payload (l : Launch) (dC : Nat → ClassId) (dI : Nat → Nat → Nat) (cI : ClassId) (hi qb : Nat) (ib : Nat → Int32) (ic : Int32) (a1 : Int32) (r : Int32) (hf : fI_payload (ib, ic) a1 = some r) : CtI l y_I_payload w_I_payload ({ frames := 0, cells := 0, slots := 0, locals := 0 }) (dC, dI) [(cI, .int)] [.ref hi, .int a1] [(hi, .inr (2, [.ref qb, .int ic])), (qb, .inl (cI, 24, .inl ib))] [(hi, .inr (2, [.ref qb, .int ic])), (qb, .inl (cI, 24, .inl ib))] r := by
  intro sz
  refine Met.ofW (cc := b_I_payload) (maxL := 2) (ret := some .int) (by decide) rfl ?_
  intro p e s m args below meth c s₁ B hml hv
  obtain ⟨rfl, hsz, hP, hK, hD0⟩ := hv
  have hx := B.exec
  have hb := B.bytes
  have hr := B.returns
  have hts := atoms_spec (ws := w_I_payload) B.pre
  have hown : s.vm.findClass R_I = some m.cls := findClass_of_methodNamed B.named
  have hlocks := B.notSynchronized
  subst hsz
  have hD := hD0.self (sz := s.heap.size)
  generalize hAe : va_A [(hi, .inr (2, [.ref qb, .int ic])), (qb, .inl (cI, 24, .inl ib))] s.heap.size = A at hD ⊢
  have hA : ∀ q : Nat, s.heap.size ≤ q → A q := fun q h => by rw [← hAe]; exact Or.inr h
  have hS : va_S A s.heap s.heap [] := va_S.rf
  have hP : va_P (dC, dI) vwCl [(hi, .inr (2, [.ref qb, .int ic])), (qb, .inl (cI, 24, .inl ib))] s.heap := hP
  have hl := lv_entry ([.ref hi, .int a1]) (n := 2) (Nat.le_of_ble_eq_true rfl)
  rw [lg_entry_eq]
  generalize (lg_sl ([.ref hi, .int a1]) ++ List.replicate (2 - (lg_sl ([.ref hi, .int a1])).length) Slot.unset).toArray = ls at hl ⊢
  have hl : lv_has ls 2 [(0, .ref hi), (1, .int a1)] := hl
  have inI : ∀ w ∈ u_ws R_I F_I 2, w ∈ w_I_payload := fun w h => List.mem_cons_of_mem _ (in_I w h)
  have kf9 := hts _ (List.mem_cons_of_mem _ wq84)
  rw [fI_payload] at hf
  refine lv_aload_n hx hb d_I_payload_0 rfl (lv_at hl 0 rfl) ?_
  refine va_get (D := (dC, dI)) (ci := 2) (v := .ref qb) (C := R_I) (T := F_I) (N := 2) hx hb hts inI hown hK hP 0 rfl rfl 0 (by decide) kf9 (fun _ h9 => h9) rfl d_I_payload_1 ?_
  refine lv_iconst (v := 5) hx hb d_I_payload_4 (by decide) ?_
  refine lv_iload_n hx hb d_I_payload_5 rfl (lv_at hl 1 rfl) ?_
  refine lv_iadd hx hb d_I_payload_6 ?_
  obtain ⟨hin_, hf⟩ := ix_some hf
  refine va_iald hx hb hK hP 1 0 rfl rfl hin_ d_I_payload_7 ?_
  have e1_ := lf1 hf
  subst e1_
  have hP9 := hP.sub (ws' := [(hi, .inr (2, [.ref qb, .int ic])), (qb, .inl (cI, 24, .inl ib))]) [0, 1] rfl
  have hD9 := hD.sub (ws' := [(hi, .inr (2, [.ref qb, .int ic])), (qb, .inl (cI, 24, .inl ib))]) [0, 1] (by decide) rfl
  exact W.iret (v := ib (5 + a1 : Int32).toNatClampNeg) hx hb hr (fun t ht hW => ⟨⟨ib (5 + a1 : Int32).toNatClampNeg, (), rfl, rfl, by rw [ht]; exact hP9, va_K.moved hW.alike hK, hD9⟩, hS.F ht⟩) hS.2.2 d_I_payload_8
theorem d_I_row_0 : decode b_I_row 0 = .ok (.aload_n 0, 1) := by decide +kernel
theorem d_I_row_1 : decode b_I_row 1 = .ok (.getfield 9, 3) := by decide +kernel
theorem d_I_row_4 : decode b_I_row 4 = .ok (.areturn, 1) := by decide +kernel
set_option maxHeartbeats 4000000 in
set_option maxRecDepth 100000 in
theorem ctI_row (l : Launch) (dC : Nat → ClassId) (dI : Nat → Nat → Nat) (cI : ClassId) (hi qb : Nat) (ib : Nat → Int32) (ic : Int32) : CtR l y_I_row w_I_row ({ frames := 0, cells := 0, slots := 0, locals := 0 }) (dC, dI) [(cI, .int)] [.ref hi] [(hi, .inr (2, [.ref qb, .int ic])), (qb, .inl (cI, 24, .inl ib))] [(hi, .inr (2, [.ref qb, .int ic])), (qb, .inl (cI, 24, .inl ib))] qb := by
  intro sz
  refine Met.ofW (cc := b_I_row) (maxL := 1) (ret := some (.array .int)) (by decide) rfl ?_
  intro p e s m args below meth c s₁ B hml hv
  obtain ⟨rfl, hsz, hP, hK, hD0⟩ := hv
  have hx := B.exec
  have hb := B.bytes
  have hr := B.returns
  have hts := atoms_spec (ws := w_I_row) B.pre
  have hown : s.vm.findClass R_I = some m.cls := findClass_of_methodNamed B.named
  have hlocks := B.notSynchronized
  subst hsz
  have hD := hD0.self (sz := s.heap.size)
  generalize hAe : va_A [(hi, .inr (2, [.ref qb, .int ic])), (qb, .inl (cI, 24, .inl ib))] s.heap.size = A at hD ⊢
  have hA : ∀ q : Nat, s.heap.size ≤ q → A q := fun q h => by rw [← hAe]; exact Or.inr h
  have hS : va_S A s.heap s.heap [] := va_S.rf
  have hP : va_P (dC, dI) vwCl [(hi, .inr (2, [.ref qb, .int ic])), (qb, .inl (cI, 24, .inl ib))] s.heap := hP
  have hl := lv_entry ([.ref hi]) (n := 1) (Nat.le_of_ble_eq_true rfl)
  rw [lg_entry_eq]
  generalize (lg_sl ([.ref hi]) ++ List.replicate (1 - (lg_sl ([.ref hi])).length) Slot.unset).toArray = ls at hl ⊢
  have hl : lv_has ls 1 [(0, .ref hi)] := hl
  have inI : ∀ w ∈ u_ws R_I F_I 2, w ∈ w_I_row := fun w h => List.mem_cons_of_mem _ (in_I w h)
  have kf9 := hts _ (List.mem_cons_of_mem _ wq84)
  refine lv_aload_n hx hb d_I_row_0 rfl (lv_at hl 0 rfl) ?_
  refine va_get (D := (dC, dI)) (ci := 2) (v := .ref qb) (C := R_I) (T := F_I) (N := 2) hx hb hts inI hown hK hP 0 rfl rfl 0 (by decide) kf9 (fun _ h9 => h9) rfl d_I_row_1 ?_
  have hP9 := hP.sub (ws' := [(hi, .inr (2, [.ref qb, .int ic])), (qb, .inl (cI, 24, .inl ib))]) [0, 1] rfl
  have hD9 := hD.sub (ws' := [(hi, .inr (2, [.ref qb, .int ic])), (qb, .inl (cI, 24, .inl ib))]) [0, 1] (by decide) rfl
  exact W.aret (v := .ref qb) hx hb hr (Or.inr ⟨_, rfl⟩) (Or.inr ⟨_, rfl⟩) (fun t ht hW => ⟨⟨(), qb, rfl, trivial, rfl, by rw [ht]; exact hP9, va_K.moved hW.alike hK, hD9⟩, hS.F ht⟩) hS.2.2 d_I_row_4
