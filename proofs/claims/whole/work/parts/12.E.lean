theorem d_E_withCode_0 : decode b_E_withCode 0 = .ok (.iconst 0, 1) := by decide +kernel
theorem d_E_withCode_1 : decode b_E_withCode 1 = .ok (.istore_n 1, 1) := by decide +kernel
theorem d_E_withCode_2 : decode b_E_withCode 2 = .ok (.iload_n 1, 1) := by decide +kernel
theorem d_E_withCode_3 : decode b_E_withCode 3 = .ok (.getstatic 82, 3) := by decide +kernel
theorem d_E_withCode_6 : decode b_E_withCode 6 = .ok (.arraylength, 1) := by decide +kernel
theorem d_E_withCode_7 : decode b_E_withCode 7 = .ok (.if_icmp .ge 27, 3) := by decide +kernel
theorem d_E_withCode_10 : decode b_E_withCode 10 = .ok (.getstatic 82, 3) := by decide +kernel
theorem d_E_withCode_13 : decode b_E_withCode 13 = .ok (.iload_n 1, 1) := by decide +kernel
theorem d_E_withCode_14 : decode b_E_withCode 14 = .ok (.aaload, 1) := by decide +kernel
theorem d_E_withCode_15 : decode b_E_withCode 15 = .ok (.getfield 62, 3) := by decide +kernel
theorem d_E_withCode_18 : decode b_E_withCode 18 = .ok (.iload_n 0, 1) := by decide +kernel
theorem d_E_withCode_19 : decode b_E_withCode 19 = .ok (.if_icmp .ne 9, 3) := by decide +kernel
theorem d_E_withCode_22 : decode b_E_withCode 22 = .ok (.getstatic 82, 3) := by decide +kernel
theorem d_E_withCode_25 : decode b_E_withCode 25 = .ok (.iload_n 1, 1) := by decide +kernel
theorem d_E_withCode_26 : decode b_E_withCode 26 = .ok (.aaload, 1) := by decide +kernel
theorem d_E_withCode_27 : decode b_E_withCode 27 = .ok (.areturn, 1) := by decide +kernel
theorem d_E_withCode_28 : decode b_E_withCode 28 = .ok (.iinc 1 1, 3) := by decide +kernel
theorem d_E_withCode_31 : decode b_E_withCode 31 = .ok (.goto (-29), 3) := by decide +kernel
theorem d_E_withCode_34 : decode b_E_withCode 34 = .ok (.getstatic 40, 3) := by decide +kernel
theorem d_E_withCode_37 : decode b_E_withCode 37 = .ok (.areturn, 1) := by decide +kernel
def fE_withCode_L2 : Nat → Int32 → Int32 → Option (Nat)
  | 0, _, _ => none
  | n + 1, v0, v1 => if 13 ≤ v1 then (some 12) else (ix v1 13 fun j2 => if (tbC j2) = v0 then (ix v1 13 fun j5 => some j5) else (fE_withCode_L2 n v0 (v1 + 1)))
def fE_withCode (a1 : Int32) : Option (Nat) := fE_withCode_L2 300 a1 0
set_option maxHeartbeats 4000000 in
set_option maxRecDepth 100000 in
theorem ctE_withCode (l : Launch) (dC : Nat → ClassId) (dI : Nat → Nat → Nat) (cI : ClassId) (ad : Nat → Nat) (tA tS : Nat) (a1 : Int32) (r : Nat) (hf : fE_withCode a1 = some r) : CeR l y_E_withCode w_E_withCode ({ frames := 0, cells := 0, slots := 0, locals := 0 }) (dC, dI) [(cI, .int)] ad tA tS [.int a1]   (ad r) := by
  intro sz
  refine Met.ofW (cc := b_E_withCode) (maxL := 2) (ret := some (.object "AppletFirewall$Instruction")) (by decide) rfl ?_
  intro p e s m args below meth c s₁ B hml hv
  obtain ⟨rfl, hsz, hK, hE⟩ := hv
  have hx := B.exec
  have hb := B.bytes
  have hr := B.returns
  have hts := atoms_spec (ws := w_E_withCode) B.pre
  have hown : s.vm.findClass R_E = some m.cls := findClass_of_methodNamed B.named
  have hlocks := B.notSynchronized
  subst hsz
  have hP : va_P (dC, dI) vwCl [] s.heap := fun i q h => by cases h
  have hD : va_D (va_A [] s.heap.size) [] := ⟨fun i j p q hp => by simp at hp, fun i q h => by simp at h⟩
  generalize hAe : va_A [] s.heap.size = A at hD hE ⊢
  have hA : ∀ q : Nat, s.heap.size ≤ q → A q := fun q h => by rw [← hAe]; exact Or.inr h
  have hS : va_S A s.heap s.heap [] := va_S.rf
  have hP : va_P (dC, dI) vwCl [] s.heap := hP
  have hl := lv_entry ([.int a1]) (n := 2) (Nat.le_of_ble_eq_true rfl)
  rw [lg_entry_eq]
  generalize (lg_sl ([.int a1]) ++ List.replicate (2 - (lg_sl ([.int a1])).length) Slot.unset).toArray = ls at hl ⊢
  have hl : lv_has ls 2 [(0, .int a1)] := hl
  have kf40 := hts _ (List.mem_cons_of_mem _ wq140)
  have kf62 := hts _ (List.mem_cons_of_mem _ wq605)
  have kf82 := hts _ (List.mem_cons_of_mem _ wq138)
  rw [fE_withCode] at hf
  refine lv_iconst (v := 0) hx hb d_E_withCode_0 (by decide) ?_
  refine lv_istore_n hx hb d_E_withCode_1 rfl hl (by decide) rfl (fun ls hl => ?_)
  have hl : lv_has ls 2 [(1, .int 0), (0, .int a1)] := hl
  have hl := lv_sub (l' := [(0, .int a1), (1, .int 0)]) hl [1, 0] rfl
  refine xloop (σ := (Int32) × (Int32)) (pc := 2) (fun n x H locs ls => va_P (dC, dI) vwCl [] H ∧ va_D A [] ∧ va_S A s.heap H locs ∧ lv_has ls 2 [(0, .int (x.1)), (1, .int (x.2))] ∧ fE_withCode_L2 n x.1 x.2 = some r) ?_ (fun x H locs ls h => by have h9 := h.2.2.2.2; rw [fE_withCode_L2] at h9; cases h9) 300 (a1, 0) _ _ ls ⟨hP, hD, hS, hl, hf⟩
  intro n ih x H locs ls hI
  obtain ⟨v0, v1⟩ := x
  obtain ⟨hP, hD, hS, hl, hf⟩ := hI
  have hP : va_P (dC, dI) vwCl [] H := hP
  have hD : va_D A [] := hD
  have hl : lv_has ls 2 [(0, .int v0), (1, .int v1)] := hl
  rw [fE_withCode_L2] at hf
  refine lv_iload_n hx hb d_E_withCode_2 rfl (lv_at hl 1 rfl) ?_
  refine va_gets hx hb hE.1 hS hown kf82 (fun _ h9 => h9) d_E_withCode_3 ?_
  refine va_tlen (v := 13) hx hb hE.2.1 hS rfl d_E_withCode_6 ?_
  refine lv_icmp_ge (tgt := 34) hx hb d_E_withCode_7 rfl (fun hc1 => ?_) (fun hc1 => ?_)
  · have hf := ift hf hc1
    refine va_gets hx hb hE.2.2.1 hS hown kf40 (fun _ h9 => h9) d_E_withCode_34 ?_
    have e1_ := lf1 hf
    subst e1_
    exact W.aret (v := .ref (ad 12)) hx hb hr (Or.inl ⟨_, rfl⟩) (Or.inr ⟨_, rfl⟩) (fun t ht hW => ⟨⟨(), ad 12, rfl, trivial, rfl⟩, hS.F ht⟩) hS.2.2 d_E_withCode_37
  have hf := ifn hf hc1
  refine va_gets hx hb hE.1 hS hown kf82 (fun _ h9 => h9) d_E_withCode_10 ?_
  refine lv_iload_n hx hb d_E_withCode_13 rfl (lv_at hl 1 rfl) ?_
  obtain ⟨hin_, hf⟩ := ix_some hf
  have hk3 := vlt hin_
  refine vb_tq hx hb hE.2.1 hS hin_ rfl d_E_withCode_14 ?_
  refine va_getX hx hb hE.2.2.2.2.2.2.2.1 hk3 hS hown kf62 (fun _ h9 => h9) d_E_withCode_15 ?_
  refine lv_iload_n hx hb d_E_withCode_18 rfl (lv_at hl 0 rfl) ?_
  refine lv_icmp_ne (tgt := 28) hx hb d_E_withCode_19 rfl (fun hc4 => ?_) (fun hc4 => ?_)
  · have hf := ifn hf hc4
    refine lv_iinc (v := v1 + 1) hx hb d_E_withCode_28 hl (k := 1) rfl rfl (by decide) rfl (fun ls hl => ?_)
    have hl : lv_has ls 2 [(1, .int (v1 + 1)), (0, .int v0)] := hl
    refine lv_goto (tgt := 2) hx hb d_E_withCode_31 rfl ?_
    have hl := lv_sub (l' := [(0, .int v0), (1, .int (v1 + 1))]) hl [1, 0] rfl
    exact ih (v0, v1 + 1) _ _ ls ⟨hP, hD, hS, hl, hf⟩
  have hf := ift hf hc4
  refine va_gets hx hb hE.1 hS hown kf82 (fun _ h9 => h9) d_E_withCode_22 ?_
  refine lv_iload_n hx hb d_E_withCode_25 rfl (lv_at hl 1 rfl) ?_
  obtain ⟨hin_, hf⟩ := ix_some hf
  have hk6 := vlt hin_
  refine vb_tq hx hb hE.2.1 hS hin_ rfl d_E_withCode_26 ?_
  have e1_ := lf1 hf
  subst e1_
  exact W.aret (v := .ref (ad ((v1 : Int32).toNatClampNeg))) hx hb hr (Or.inl ⟨_, rfl⟩) (Or.inr ⟨_, rfl⟩) (fun t ht hW => ⟨⟨(), ad ((v1 : Int32).toNatClampNeg), rfl, trivial, rfl⟩, hS.F ht⟩) hS.2.2 d_E_withCode_27
theorem wcL_lt {k : Nat} : ∀ (n : Nat) (v0 v1 : Int32), fE_withCode_L2 n v0 v1 = some k → k < 13 := by
  intro n
  induction n with
  | zero => intro v0 v1 h; rw [fE_withCode_L2] at h; cases h
  | succ n ih =>
    intro v0 v1 h
    rw [fE_withCode_L2] at h
    by_cases h1 : 13 ≤ v1
    · have h2 := lf1 (ift h h1); omega
    · obtain ⟨hi, h⟩ := ix_some (ifn h h1)
      by_cases h2 : tbC v1.toNatClampNeg = v0
      · obtain ⟨hi, h⟩ := ix_some (ift h h2)
        have h3 := lf1 h
        rw [← h3]; exact vlt hi
      · exact ih _ _ (ifn h h2)
theorem wc_lt {k : Nat} {a1 : Int32} (h : fE_withCode a1 = some k) : k < 13 := by
  rw [fE_withCode] at h; exact wcL_lt _ _ _ h
theorem d_E_takesForm_0 : decode b_E_takesForm 0 = .ok (.iload_n 1, 1) := by decide +kernel
theorem d_E_takesForm_1 : decode b_E_takesForm 1 = .ok (.aload_n 0, 1) := by decide +kernel
theorem d_E_takesForm_2 : decode b_E_takesForm 2 = .ok (.getfield 66, 3) := by decide +kernel
theorem d_E_takesForm_5 : decode b_E_takesForm 5 = .ok (.if_icmp .ne 22, 3) := by decide +kernel
theorem d_E_takesForm_8 : decode b_E_takesForm 8 = .ok (.aload_n 0, 1) := by decide +kernel
theorem d_E_takesForm_9 : decode b_E_takesForm 9 = .ok (.getfield 69, 3) := by decide +kernel
theorem d_E_takesForm_12 : decode b_E_takesForm 12 = .ok (.ifCond .eq 11, 3) := by decide +kernel
theorem d_E_takesForm_15 : decode b_E_takesForm 15 = .ok (.iload_n 2, 1) := by decide +kernel
theorem d_E_takesForm_16 : decode b_E_takesForm 16 = .ok (.aload_n 0, 1) := by decide +kernel
theorem d_E_takesForm_17 : decode b_E_takesForm 17 = .ok (.getfield 69, 3) := by decide +kernel
theorem d_E_takesForm_20 : decode b_E_takesForm 20 = .ok (.if_icmp .ne 7, 3) := by decide +kernel
theorem d_E_takesForm_23 : decode b_E_takesForm 23 = .ok (.iconst 1, 1) := by decide +kernel
theorem d_E_takesForm_24 : decode b_E_takesForm 24 = .ok (.goto 4, 3) := by decide +kernel
theorem d_E_takesForm_27 : decode b_E_takesForm 27 = .ok (.iconst 0, 1) := by decide +kernel
theorem d_E_takesForm_28 : decode b_E_takesForm 28 = .ok (.ireturn, 1) := by decide +kernel
def fE_takesForm (k : Nat) (a1 : Int32) (a2 : Int32) : Option (Int32) := if a1 = (tbS k) then (if (tbL k) = 0 then (some 1) else (if a2 = (tbL k) then (some 1) else (some 0))) else (some 0)
set_option maxHeartbeats 4000000 in
set_option maxRecDepth 100000 in
theorem ctE_takesForm (l : Launch) (dC : Nat → ClassId) (dI : Nat → Nat → Nat) (cI : ClassId) (ad : Nat → Nat) (tA tS : Nat) (k : Nat) (hk : k < 13) (a1 : Int32) (a2 : Int32) (r : Int32) (hf : fE_takesForm k a1 a2 = some r) : CeI l y_E_takesForm w_E_takesForm ({ frames := 0, cells := 0, slots := 0, locals := 0 }) (dC, dI) [(cI, .int)] ad tA tS [.ref (ad k), .int a1, .int a2]   r := by
  intro sz
  refine Met.ofW (cc := b_E_takesForm) (maxL := 3) (ret := some .boolean) (by decide) rfl ?_
  intro p e s m args below meth c s₁ B hml hv
  obtain ⟨rfl, hsz, hK, hE⟩ := hv
  have hx := B.exec
  have hb := B.bytes
  have hr := B.returns
  have hts := atoms_spec (ws := w_E_takesForm) B.pre
  have hown : s.vm.findClass R_E = some m.cls := findClass_of_methodNamed B.named
  have hlocks := B.notSynchronized
  subst hsz
  have hP : va_P (dC, dI) vwCl [] s.heap := fun i q h => by cases h
  have hD : va_D (va_A [] s.heap.size) [] := ⟨fun i j p q hp => by simp at hp, fun i q h => by simp at h⟩
  generalize hAe : va_A [] s.heap.size = A at hD hE ⊢
  have hA : ∀ q : Nat, s.heap.size ≤ q → A q := fun q h => by rw [← hAe]; exact Or.inr h
  have hS : va_S A s.heap s.heap [] := va_S.rf
  have hP : va_P (dC, dI) vwCl [] s.heap := hP
  have hl := lv_entry ([.ref (ad k), .int a1, .int a2]) (n := 3) (Nat.le_of_ble_eq_true rfl)
  rw [lg_entry_eq]
  generalize (lg_sl ([.ref (ad k), .int a1, .int a2]) ++ List.replicate (3 - (lg_sl ([.ref (ad k), .int a1, .int a2])).length) Slot.unset).toArray = ls at hl ⊢
  have hl : lv_has ls 3 [(0, .ref (ad k)), (1, .int a1), (2, .int a2)] := hl
  have kf66 := hts _ (List.mem_cons_of_mem _ wq606)
  have kf69 := hts _ (List.mem_cons_of_mem _ wq607)
  rw [fE_takesForm] at hf
  refine lv_iload_n hx hb d_E_takesForm_0 rfl (lv_at hl 1 rfl) ?_
  refine lv_aload_n hx hb d_E_takesForm_1 rfl (lv_at hl 0 rfl) ?_
  refine va_getX hx hb hE.2.2.2.2.2.2.2.2.1 hk hS hown kf66 (fun _ h9 => h9) d_E_takesForm_2 ?_
  refine lv_icmp_ne (tgt := 27) hx hb d_E_takesForm_5 rfl (fun hc1 => ?_) (fun hc1 => ?_)
  · have hf := ifn hf hc1
    refine lv_iconst (v := 0) hx hb d_E_takesForm_27 (by decide) ?_
    have e1_ := lf1 hf
    subst e1_
    exact W.zret (v := 0) (ty := .boolean) hx hb hr rfl (fun t ht hW => ⟨⟨0, (), rfl, rfl, trivial⟩, hS.F ht⟩) hS.2.2 d_E_takesForm_28
  have hf := ift hf hc1
  refine lv_aload_n hx hb d_E_takesForm_8 rfl (lv_at hl 0 rfl) ?_
  refine va_getX hx hb hE.2.2.2.2.2.2.2.2.2.1 hk hS hown kf69 (fun _ h9 => h9) d_E_takesForm_9 ?_
  refine lv_if_eq (tgt := 23) hx hb d_E_takesForm_12 rfl (fun hc2 => ?_) (fun hc2 => ?_)
  · have hf := ift hf hc2
    refine lv_iconst (v := 1) hx hb d_E_takesForm_23 (by decide) ?_
    refine lv_goto (tgt := 28) hx hb d_E_takesForm_24 rfl ?_
    have e1_ := lf1 hf
    subst e1_
    exact W.zret (v := 1) (ty := .boolean) hx hb hr rfl (fun t ht hW => ⟨⟨1, (), rfl, rfl, trivial⟩, hS.F ht⟩) hS.2.2 d_E_takesForm_28
  have hf := ifn hf hc2
  refine lv_iload_n hx hb d_E_takesForm_15 rfl (lv_at hl 2 rfl) ?_
  refine lv_aload_n hx hb d_E_takesForm_16 rfl (lv_at hl 0 rfl) ?_
  refine va_getX hx hb hE.2.2.2.2.2.2.2.2.2.1 hk hS hown kf69 (fun _ h9 => h9) d_E_takesForm_17 ?_
  refine lv_icmp_ne (tgt := 27) hx hb d_E_takesForm_20 rfl (fun hc3 => ?_) (fun hc3 => ?_)
  · have hf := ifn hf hc3
    refine lv_iconst (v := 0) hx hb d_E_takesForm_27 (by decide) ?_
    have e1_ := lf1 hf
    subst e1_
    exact W.zret (v := 0) (ty := .boolean) hx hb hr rfl (fun t ht hW => ⟨⟨0, (), rfl, rfl, trivial⟩, hS.F ht⟩) hS.2.2 d_E_takesForm_28
  have hf := ift hf hc3
  refine lv_iconst (v := 1) hx hb d_E_takesForm_23 (by decide) ?_
  refine lv_goto (tgt := 28) hx hb d_E_takesForm_24 rfl ?_
  have e1_ := lf1 hf
  subst e1_
  exact W.zret (v := 1) (ty := .boolean) hx hb hr rfl (fun t ht hW => ⟨⟨1, (), rfl, rfl, trivial⟩, hS.F ht⟩) hS.2.2 d_E_takesForm_28
theorem d_E_takesParameters_0 : decode b_E_takesParameters 0 = .ok (.iload_n 1, 1) := by decide +kernel
theorem d_E_takesParameters_1 : decode b_E_takesParameters 1 = .ok (.aload_n 0, 1) := by decide +kernel
theorem d_E_takesParameters_2 : decode b_E_takesParameters 2 = .ok (.getfield 72, 3) := by decide +kernel
theorem d_E_takesParameters_5 : decode b_E_takesParameters 5 = .ok (.if_icmp .gt 15, 3) := by decide +kernel
theorem d_E_takesParameters_8 : decode b_E_takesParameters 8 = .ok (.iload_n 2, 1) := by decide +kernel
theorem d_E_takesParameters_9 : decode b_E_takesParameters 9 = .ok (.aload_n 0, 1) := by decide +kernel
theorem d_E_takesParameters_10 : decode b_E_takesParameters 10 = .ok (.getfield 75, 3) := by decide +kernel
theorem d_E_takesParameters_13 : decode b_E_takesParameters 13 = .ok (.if_icmp .gt 7, 3) := by decide +kernel
theorem d_E_takesParameters_16 : decode b_E_takesParameters 16 = .ok (.iconst 1, 1) := by decide +kernel
theorem d_E_takesParameters_17 : decode b_E_takesParameters 17 = .ok (.goto 4, 3) := by decide +kernel
theorem d_E_takesParameters_20 : decode b_E_takesParameters 20 = .ok (.iconst 0, 1) := by decide +kernel
theorem d_E_takesParameters_21 : decode b_E_takesParameters 21 = .ok (.ireturn, 1) := by decide +kernel
def fE_takesParameters (k : Nat) (a1 : Int32) (a2 : Int32) : Option (Int32) := if (tbP k) < a1 then (some 0) else (if (tbQ k) < a2 then (some 0) else (some 1))
set_option maxHeartbeats 4000000 in
set_option maxRecDepth 100000 in
theorem ctE_takesParameters (l : Launch) (dC : Nat → ClassId) (dI : Nat → Nat → Nat) (cI : ClassId) (ad : Nat → Nat) (tA tS : Nat) (k : Nat) (hk : k < 13) (a1 : Int32) (a2 : Int32) (r : Int32) (hf : fE_takesParameters k a1 a2 = some r) : CeI l y_E_takesParameters w_E_takesParameters ({ frames := 0, cells := 0, slots := 0, locals := 0 }) (dC, dI) [(cI, .int)] ad tA tS [.ref (ad k), .int a1, .int a2]   r := by
  intro sz
  refine Met.ofW (cc := b_E_takesParameters) (maxL := 3) (ret := some .boolean) (by decide) rfl ?_
  intro p e s m args below meth c s₁ B hml hv
  obtain ⟨rfl, hsz, hK, hE⟩ := hv
  have hx := B.exec
  have hb := B.bytes
  have hr := B.returns
  have hts := atoms_spec (ws := w_E_takesParameters) B.pre
  have hown : s.vm.findClass R_E = some m.cls := findClass_of_methodNamed B.named
  have hlocks := B.notSynchronized
  subst hsz
  have hP : va_P (dC, dI) vwCl [] s.heap := fun i q h => by cases h
  have hD : va_D (va_A [] s.heap.size) [] := ⟨fun i j p q hp => by simp at hp, fun i q h => by simp at h⟩
  generalize hAe : va_A [] s.heap.size = A at hD hE ⊢
  have hA : ∀ q : Nat, s.heap.size ≤ q → A q := fun q h => by rw [← hAe]; exact Or.inr h
  have hS : va_S A s.heap s.heap [] := va_S.rf
  have hP : va_P (dC, dI) vwCl [] s.heap := hP
  have hl := lv_entry ([.ref (ad k), .int a1, .int a2]) (n := 3) (Nat.le_of_ble_eq_true rfl)
  rw [lg_entry_eq]
  generalize (lg_sl ([.ref (ad k), .int a1, .int a2]) ++ List.replicate (3 - (lg_sl ([.ref (ad k), .int a1, .int a2])).length) Slot.unset).toArray = ls at hl ⊢
  have hl : lv_has ls 3 [(0, .ref (ad k)), (1, .int a1), (2, .int a2)] := hl
  have kf72 := hts _ (List.mem_cons_of_mem _ wq608)
  have kf75 := hts _ (List.mem_cons_of_mem _ wq609)
  rw [fE_takesParameters] at hf
  refine lv_iload_n hx hb d_E_takesParameters_0 rfl (lv_at hl 1 rfl) ?_
  refine lv_aload_n hx hb d_E_takesParameters_1 rfl (lv_at hl 0 rfl) ?_
  refine va_getX hx hb hE.2.2.2.2.2.2.2.2.2.2.1 hk hS hown kf72 (fun _ h9 => h9) d_E_takesParameters_2 ?_
  refine lv_icmp_gt (tgt := 20) hx hb d_E_takesParameters_5 rfl (fun hc1 => ?_) (fun hc1 => ?_)
  · have hf := ift hf hc1
    refine lv_iconst (v := 0) hx hb d_E_takesParameters_20 (by decide) ?_
    have e1_ := lf1 hf
    subst e1_
    exact W.zret (v := 0) (ty := .boolean) hx hb hr rfl (fun t ht hW => ⟨⟨0, (), rfl, rfl, trivial⟩, hS.F ht⟩) hS.2.2 d_E_takesParameters_21
  have hf := ifn hf hc1
  refine lv_iload_n hx hb d_E_takesParameters_8 rfl (lv_at hl 2 rfl) ?_
  refine lv_aload_n hx hb d_E_takesParameters_9 rfl (lv_at hl 0 rfl) ?_
  refine va_getX hx hb hE.2.2.2.2.2.2.2.2.2.2.2.1 hk hS hown kf75 (fun _ h9 => h9) d_E_takesParameters_10 ?_
  refine lv_icmp_gt (tgt := 20) hx hb d_E_takesParameters_13 rfl (fun hc2 => ?_) (fun hc2 => ?_)
  · have hf := ift hf hc2
    refine lv_iconst (v := 0) hx hb d_E_takesParameters_20 (by decide) ?_
    have e1_ := lf1 hf
    subst e1_
    exact W.zret (v := 0) (ty := .boolean) hx hb hr rfl (fun t ht hW => ⟨⟨0, (), rfl, rfl, trivial⟩, hS.F ht⟩) hS.2.2 d_E_takesParameters_21
  have hf := ifn hf hc2
  refine lv_iconst (v := 1) hx hb d_E_takesParameters_16 (by decide) ?_
  refine lv_goto (tgt := 21) hx hb d_E_takesParameters_17 rfl ?_
  have e1_ := lf1 hf
  subst e1_
  exact W.zret (v := 1) (ty := .boolean) hx hb hr rfl (fun t ht hW => ⟨⟨1, (), rfl, rfl, trivial⟩, hS.F ht⟩) hS.2.2 d_E_takesParameters_21
theorem d_E_isGuarded_0 : decode b_E_isGuarded 0 = .ok (.aload_n 0, 1) := by decide +kernel
theorem d_E_isGuarded_1 : decode b_E_isGuarded 1 = .ok (.getfield 78, 3) := by decide +kernel
theorem d_E_isGuarded_4 : decode b_E_isGuarded 4 = .ok (.ireturn, 1) := by decide +kernel
def fE_isGuarded (k : Nat) : Option (Int32) := some (tbG k)
set_option maxHeartbeats 4000000 in
set_option maxRecDepth 100000 in
theorem ctE_isGuarded (l : Launch) (dC : Nat → ClassId) (dI : Nat → Nat → Nat) (cI : ClassId) (ad : Nat → Nat) (tA tS : Nat) (k : Nat) (hk : k < 13) (r : Int32) (hf : fE_isGuarded k = some r) : CeI l y_E_isGuarded w_E_isGuarded ({ frames := 0, cells := 0, slots := 0, locals := 0 }) (dC, dI) [(cI, .int)] ad tA tS [.ref (ad k)]   r := by
  intro sz
  refine Met.ofW (cc := b_E_isGuarded) (maxL := 1) (ret := some .boolean) (by decide) rfl ?_
  intro p e s m args below meth c s₁ B hml hv
  obtain ⟨rfl, hsz, hK, hE⟩ := hv
  have hx := B.exec
  have hb := B.bytes
  have hr := B.returns
  have hts := atoms_spec (ws := w_E_isGuarded) B.pre
  have hown : s.vm.findClass R_E = some m.cls := findClass_of_methodNamed B.named
  have hlocks := B.notSynchronized
  subst hsz
  have hP : va_P (dC, dI) vwCl [] s.heap := fun i q h => by cases h
  have hD : va_D (va_A [] s.heap.size) [] := ⟨fun i j p q hp => by simp at hp, fun i q h => by simp at h⟩
  generalize hAe : va_A [] s.heap.size = A at hD hE ⊢
  have hA : ∀ q : Nat, s.heap.size ≤ q → A q := fun q h => by rw [← hAe]; exact Or.inr h
  have hS : va_S A s.heap s.heap [] := va_S.rf
  have hP : va_P (dC, dI) vwCl [] s.heap := hP
  have hl := lv_entry ([.ref (ad k)]) (n := 1) (Nat.le_of_ble_eq_true rfl)
  rw [lg_entry_eq]
  generalize (lg_sl ([.ref (ad k)]) ++ List.replicate (1 - (lg_sl ([.ref (ad k)])).length) Slot.unset).toArray = ls at hl ⊢
  have hl : lv_has ls 1 [(0, .ref (ad k))] := hl
  have kf78 := hts _ (List.mem_cons_of_mem _ wq610)
  rw [fE_isGuarded] at hf
  refine lv_aload_n hx hb d_E_isGuarded_0 rfl (lv_at hl 0 rfl) ?_
  refine va_getX hx hb hE.2.2.2.2.2.2.2.2.2.2.2.2.1 hk hS hown kf78 (fun _ h9 => h9) d_E_isGuarded_1 ?_
  have e1_ := lf1 hf
  subst e1_
  exact W.zret (v := tbG k) (ty := .boolean) hx hb hr (tbG_z k hk) (fun t ht hW => ⟨⟨tbG k, (), rfl, rfl, trivial⟩, hS.F ht⟩) hS.2.2 d_E_isGuarded_4
abbrev b_E_ordinal : ByteArray := prog_8_method_2_code
theorem d_E_ordinal_0 : decode b_E_ordinal 0 = .ok (.aload_n 0, 1) := by decide +kernel
theorem d_E_ordinal_1 : decode b_E_ordinal 1 = .ok (.getfield 7, 3) := by decide +kernel
theorem d_E_ordinal_4 : decode b_E_ordinal 4 = .ok (.ireturn, 1) := by decide +kernel
set_option maxHeartbeats 4000000 in
set_option maxRecDepth 100000 in
theorem ctE_ordinal (l : Launch) (dC : Nat → ClassId) (dI : Nat → Nat → Nat) (cI : ClassId) (ad : Nat → Nat) (tA tS : Nat) (k : Nat) (hk : k < 13) : CeI l ⟨"java/lang/Enum", "ordinal", "()I"⟩ (.code ⟨"java/lang/Enum", "ordinal", "()I"⟩ prog_8_method_2_code 1 (some .int) :: lw_g) ({ frames := 0, cells := 0, slots := 0, locals := 0 }) (dC, dI) [(cI, .int)] ad tA tS [.ref (ad k)] (nI k) := by
  intro sz
  refine Met.ofW (cc := b_E_ordinal) (maxL := 1) (ret := some .int) (by decide) rfl ?_
  intro p e s m args below meth c s₁ B hml hv
  obtain ⟨rfl, hsz, hK, hE⟩ := hv
  have hx := B.exec
  have hb := B.bytes
  have hr := B.returns
  have hts := atoms_spec (ws := .code ⟨"java/lang/Enum", "ordinal", "()I"⟩ prog_8_method_2_code 1 (some .int) :: lw_g) B.pre
  have hown : s.vm.findClass "java/lang/Enum" = some m.cls := findClass_of_methodNamed B.named
  have hlocks := B.notSynchronized
  subst hsz
  generalize hAe : va_A [] s.heap.size = A at hE ⊢
  have hS : va_S A s.heap s.heap [] := va_S.rf
  have hl := lv_entry ([.ref (ad k)]) (n := 1) (Nat.le_of_ble_eq_true rfl)
  rw [lg_entry_eq]
  generalize (lg_sl ([.ref (ad k)]) ++ List.replicate (1 - (lg_sl ([.ref (ad k)])).length) Slot.unset).toArray = ls at hl ⊢
  have hl : lv_has ls 1 [(0, .ref (ad k))] := hl
  have kf7 := hts _ (List.mem_cons_of_mem _ wq611)
  refine lv_aload_n hx hb d_E_ordinal_0 rfl (lv_at hl 0 rfl) ?_
  refine va_getX hx hb hE.2.2.2.2.2.2.2.2.2.2.2.2.2.1 hk hS hown kf7 (fun _ h9 => h9) d_E_ordinal_1 ?_
  exact W.iret (v := nI k) hx hb hr (fun t ht hW => ⟨⟨nI k, (), rfl, rfl, trivial⟩, hS.F ht⟩) hS.2.2 d_E_ordinal_4
