-- the constants of AppletFirewall$Instruction by their places, and what their fields hold
abbrev E_n : String := "AppletFirewall$Instruction"
abbrev E_d : String := "LAppletFirewall$Instruction;"
abbrev S_n : String := "$SwitchMap$AppletFirewall$Instruction"
def tbC (k : Nat) : Int32 := ([164, 32, 36, 44, 176, 214, 112, 114, 226, 228, 178, 220, -1] : List Int32).getD k 0
def tbS (k : Nat) : Int32 := ([3, 3, 3, 1, 2, 3, 1, 1, 3, 1, 2, 3, 0] : List Int32).getD k 0
def tbL (k : Nat) : Int32 := ([1, 2, 2, 0, 0, 0, 0, 0, 4, 0, 0, 0, 0] : List Int32).getD k 0
def tbP (k : Nat) : Int32 := ([0, 0, 0, 3, 0, 0, 0, 1, 7, 7, 7, 7, 0] : List Int32).getD k 0
def tbQ (k : Nat) : Int32 := ([0, 0, 0, 0, 255, 255, 0, 0, 0, 0, 255, 255, 0] : List Int32).getD k 0
def tbG (k : Nat) : Int32 := ([0, 0, 1, 1, 1, 1, 0, 0, 1, 1, 1, 1, 1] : List Int32).getD k 0
def smT (k : Nat) : Int32 := ([1, 2, 3, 4, 5, 6, 7, 8, 9, 10, 11, 12, 0] : List Int32).getD k 0
theorem tbG_z : ∀ k, k < 13 → narrow .boolean (.int (tbG k)) = .int (tbG k) := by decide +kernel
theorem vlt {i : Int32} {n : Nat} (h : vp_in i n) : i.toNatClampNeg < n := Nat.not_le.mp fun q => h (Or.inr q)
def Est (ad : Nat → Nat) (tA tS : Nat) (A : Nat → Prop) (U : State) (H : Heap) : Prop :=
  va_Z E_n "ALL" "[LAppletFirewall$Instruction;" (.ref tA) A U H ∧ va_T (.object E_n) tA 13 (fun j => .ref (ad j)) A U H ∧ va_Z E_n "UNKNOWN" E_d (.ref (ad 12)) A U H ∧ va_Z E_n "SELECT" E_d (.ref (ad 0)) A U H ∧
  va_Z "AppletFirewall$1" S_n "[I" (.ref tS) A U H ∧ va_T .int tS 13 (fun j => .int (smT j)) A U H ∧ (∀ i, i < 13 → va_O E_n (ad i) A U H) ∧
  va_Ef 13 E_n "code" "I" (fun i => .int (tbC i)) ad A U H ∧ va_Ef 13 E_n "shape" "I" (fun i => .int (tbS i)) ad A U H ∧ va_Ef 13 E_n "lc" "I" (fun i => .int (tbL i)) ad A U H ∧ va_Ef 13 E_n "highestP1" "I" (fun i => .int (tbP i)) ad A U H ∧ va_Ef 13 E_n "highestP2" "I" (fun i => .int (tbQ i)) ad A U H ∧ va_Ef 13 E_n "guarded" "Z" (fun i => .int (tbG i)) ad A U H ∧
  va_Ef 13 "java/lang/Enum" "ordinal" "I" (fun i => .int (nI i)) ad A U H ∧ (∀ i j, i < 13 → j < 13 → ad i = ad j → i = j)
section ESTP
variable {ad : Nat → Nat} {tA tS : Nat} {A B : Nat → Prop} {u U : State} {H H1 : Heap}
theorem Est.moved (hvm : u.vm.Alike U.vm) (h : Est ad tA tS A u H) : Est ad tA tS A U H := by
  obtain ⟨h1, h2, h3, h4, h5, h6, h7, h8, h9, h10, h11, h12, h13, h14, h15⟩ := h
  exact ⟨h1.moved hvm, h2.moved hvm, h3.moved hvm, h4.moved hvm, h5.moved hvm, h6.moved hvm, fun i hi => (h7 i hi).moved hvm, h8.moved hvm, h9.moved hvm, h10.moved hvm, h11.moved hvm, h12.moved hvm, h13.moved hvm, h14.moved hvm, h15⟩
theorem Est.kept (h : Est ad tA tS A U H) (hq : ∀ a : Nat, a < H.size → ¬ A a → H1[a]? = H[a]?) : Est ad tA tS A U H1 := by
  obtain ⟨h1, h2, h3, h4, h5, h6, h7, h8, h9, h10, h11, h12, h13, h14, h15⟩ := h
  exact ⟨h1.kept hq, h2.kept hq, h3.kept hq, h4.kept hq, h5.kept hq, h6.kept hq, fun i hi => (h7 i hi).kept hq, h8.kept hq, h9.kept hq, h10.kept hq, h11.kept hq, h12.kept hq, h13.kept hq, h14.kept hq, h15⟩
theorem Est.narrow (h : Est ad tA tS A U H) (hAB : ∀ q, B q → A q) : Est ad tA tS B U H := by
  obtain ⟨h1, h2, h3, h4, h5, h6, h7, h8, h9, h10, h11, h12, h13, h14, h15⟩ := h
  exact ⟨h1.narrow hAB, h2.narrow hAB, h3.narrow hAB, h4.narrow hAB, h5.narrow hAB, h6.narrow hAB, fun i hi => (h7 i hi).narrow hAB, h8.narrow hAB, h9.narrow hAB, h10.narrow hAB, h11.narrow hAB, h12.narrow hAB, h13.narrow hAB, h14.narrow hAB, h15⟩
end ESTP
theorem gU {c0 c1 : Cond} {own C owner : String} {idx : Nat} {x y : MethodName} (h1 : Cond.methodLink own idx x ∈ lw_g) (h2 : Cond.sameMethod x.cls owner x.name x.desc ∈ lw_g) (h3 : Cond.selects C x y ∈ lw_g) (h4 : Cond.instanceMethod y ∈ lw_g) (h5 : Cond.initialized y.cls ∈ lw_g) (h6 : c1 ∈ lw_g) : GoodIn (c0 :: lw_g) (va_wsU own idx C owner x y (c1 :: lw_g)) := goodIn_t (fun w hw => by
  unfold va_wsU at hw
  simp only [List.cons_append, List.nil_append, List.mem_cons] at hw
  rcases hw with h | h | h | h | h | h | h
  · rw [h]; exact h1
  · rw [h]; exact h2
  · rw [h]; exact h3
  · rw [h]; exact h4
  · rw [h]; exact h5
  · rw [h]; exact h6
  · exact h)
-- contracts that need the constants: no world (the enum's own), or a world beside them
def CeI (l : Launch) (y : MethodName) (ws : List Cond) (rm : Room) (D : va_G) (tys : List (ClassId × FieldType)) (ad : Nat → Nat) (tA tS : Nat) (av : List Value) (r : Int32) : Prop := ∀ sz : Nat, Met l y ws rm (va_Pc av (fun U => U.heap.size = sz ∧ va_K D vwCl tys U ∧ Est ad tA tS (va_A [] sz) U U.heap)) (va_Qi (fun (r' : Int32) (_ : Unit) => r' = r) (fun _ _ => True) (va_A [] sz)) 0 0 (va_A [] sz)
def CeR (l : Launch) (y : MethodName) (ws : List Cond) (rm : Room) (D : va_G) (tys : List (ClassId × FieldType)) (ad : Nat → Nat) (tA tS : Nat) (av : List Value) (q : Nat) : Prop := ∀ sz : Nat, Met l y ws rm (va_Pc av (fun U => U.heap.size = sz ∧ va_K D vwCl tys U ∧ Est ad tA tS (va_A [] sz) U U.heap)) (va_Qr (fun (_ : Unit) => True) (fun _ a _ => a = q) (va_A [] sz)) 0 0 (va_A [] sz)
def CfI (l : Launch) (y : MethodName) (ws : List Cond) (rm : Room) (D : va_G) (tys : List (ClassId × FieldType)) (ad : Nat → Nat) (tA tS : Nat) (av : List Value) (w w' : va_W) (r : Int32) : Prop := ∀ sz : Nat, Met l y ws rm (va_Pc av (fun U => U.heap.size = sz ∧ va_P D vwCl w U.heap ∧ va_K D vwCl tys U ∧ va_D (fun _ => True) w ∧ Est ad tA tS (va_A w sz) U U.heap)) (va_Qi (fun (r' : Int32) (_ : Unit) => r' = r) (fun _ t => va_P D vwCl w' t.heap ∧ va_K D vwCl tys t ∧ va_D (va_A w sz) w') (va_A w sz)) 0 0 (va_A w sz)
section XENUM
variable {p : Program} {l : Launch} {e : Env} {R : Room} {s : State} {m : MethodId} {args : Array Value} {below : List Frame} {meth : Method} {c : Code} {H : Heap} {locs : List Loc} {cells slots : Nat} {Q : State → Prop}
variable {y y0 : MethodName} {bytes cc : ByteArray} {maxL nL n index pc : Nat} {ret : Option FieldType} {ws : List Cond} {rm : Room} {Ts : List Cond} {own C owner : String} {b : Addr} {As rest st0 : List Value} {ls : Array Slot} {D : va_G} {tys : List (ClassId × FieldType)} {A : Nat → Prop} {w wc wc' wr : va_W} {r : Int32} {ad : Nat → Nat} {tA tS k : Nat}
theorem xefb {av : List Value} {sz : Nat} : FrameBlind (va_Pc av (fun U => U.heap.size = sz ∧ va_K D vwCl tys U ∧ Est ad tA tS (va_A [] sz) U U.heap)) := fun a U g mk q => by
  obtain ⟨q0, q1, qK, qE⟩ := q
  exact ⟨q0, q1, va_K.moved (u := U) (U := U.calling g mk a) (Vm.Alike.refl U.vm) qK, Est.moved (u := U) (U := U.calling g mk a) (Vm.Alike.refl U.vm) qE⟩
theorem xffb {av : List Value} {sz : Nat} : FrameBlind (va_Pc av (fun U => U.heap.size = sz ∧ va_P D vwCl wc U.heap ∧ va_K D vwCl tys U ∧ va_D (fun _ => True) wc ∧ Est ad tA tS (va_A wc sz) U U.heap)) := fun a U g mk q => by
  obtain ⟨q0, q1, qP, qK, qD, qE⟩ := q
  exact ⟨q0, q1, qP, va_K.moved (u := U) (U := U.calling g mk a) (Vm.Alike.refl U.vm) qK, qD, Est.moved (u := U) (U := U.calling g mk a) (Vm.Alike.refl U.vm) qE⟩
theorem xnil (hS : va_S A s.heap H locs) (hA : ∀ q, s.heap.size ≤ q → A q) : ∀ q, va_A [] H.size q → A q := fun q h => by
  rcases h with ⟨k, e, h⟩ | h
  · simp at h
  · exact hA q (Nat.le_trans hS.1 h)
theorem xkeep {H1 : Heap} (hP : va_P D vwCl w H) (hk1 : ∀ q : Nat, q < H.size → ¬ va_A [] H.size q → H1[q]? = H[q]?) : va_P D vwCl w H1 := hP.kept (fun k q hk => hk1 q.1 (hP k q hk).lt (fun h => by
  rcases h with ⟨k2, e2, h2⟩ | h2
  · simp at h2
  · exact absurd (hP k q hk).lt (Nat.not_lt.mpr h2)))
theorem xepre (hE : Est ad tA tS A s s.heap) (hK : va_K D vwCl tys s) (hS : va_S A s.heap H locs) (hA : ∀ q, s.heap.size ≤ q → A q) {av : List Value} : ∀ U : State, U.heap = H → s.WarmedH U.vm → va_Pc av (fun U => U.heap.size = H.size ∧ va_K D vwCl tys U ∧ Est ad tA tS (va_A [] H.size) U U.heap) av.toArray U := fun U hU hW =>
  ⟨rfl, by rw [hU], va_K.moved hW.alike hK, by rw [hU]; exact ((hE.kept hS.2.1).narrow (xnil hS hA)).moved hW.alike⟩
theorem xrcv (hE : Est ad tA tS A s s.heap) (hk : k < 13) (hS : va_S A s.heap H locs) : ∃ cell : Cell, H[ad k]? = some cell ∧ cell.vm.isStatics = false ∧ s.vm.findClass E_n = some cell.cls := by
  obtain ⟨cell, h1, h2, h3, h4⟩ := (hE.2.2.2.2.2.2.1 k hk)
  have hl : ad k < s.heap.size := (Array.getElem?_eq_some_iff.mp h1).1
  exact ⟨cell, by rw [hS.2.1 _ hl h4]; exact h1, h2, h3⟩
theorem xei {args' : Array Value} (hr : va_Run p l e R s m args below meth c H locs cells slots 0 0 (F0 m pc ls st0) rest (va_Qi (fun (r' : Int32) (_ : Unit) => r' = r) (fun _ _ => True) (va_A [] H.size) args') (va_A [] H.size)) (hP : va_P D vwCl w H) (hD : va_D A w) (hS : va_S A s.heap H locs) (hA : ∀ q, s.heap.size ≤ q → A q)
    (kk : ∀ (H : Heap) (locs : List Loc), va_P D vwCl w H → va_D A w → va_S A s.heap H locs → W p l e R s m args below meth c H locs cells slots Q (F0 m (pc + 3) ls (.int r :: rest))) : W p l e R s m args below meth c H locs cells slots Q (F0 m pc ls st0) := by
  have hFc := xnil hS hA
  refine va_calli hr hS (fun q _ h => hFc q h) hFc (fun r' u t H1 locs1 ht hvm hr' hB hz1 hk1 hS1 => ?_)
  subst hr'
  exact kk H1 locs1 (xkeep hP hk1) hD hS1
/-- a method of the enum on one of its constants -/
theorem xeV (hM : CeI l y ws rm D tys ad tA tS (.ref (ad k) :: As) r) (S : CallFix p m c cc nL s args Ts own) (cw : CallW R s args own E_n index y bytes maxL ret ws rm 0 0 n) (hE : Est ad tA tS A s s.heap) (hk : k < 13) (hK : va_K D vwCl tys s) (hP : va_P D vwCl w H) (hD : va_D A w) (hS : va_S A s.heap H locs) (hA : ∀ q, s.heap.size ≤ q → A q)
    (hn : As.length = n) (hsz : ls.size = nL) (hst : st0 = As.reverse ++ .ref (ad k) :: rest) (hW : (rest.map fun v => v.category).sum ≤ 8) (hdg : decode cc pc = .ok (.invokevirtual index, 3)) (hf : cells ≤ R.cells ∧ slots ≤ R.slots)
    (kk : ∀ (H : Heap) (locs : List Loc), va_P D vwCl w H → va_D A w → va_S A s.heap H locs → W p l e R s m args below meth c H locs cells slots Q (F0 m (pc + 3) ls (.int r :: rest))) : W p l e R s m args below meth c H locs cells slots Q (F0 m pc ls st0) :=
  xei (va_runV S (hM H.size) cw ⟨xefb, xrcv hE hk hS, xepre hE hK hS hA⟩ rfl hn hsz hst (lv_room hW) hdg hf) hP hD hS hA kk
theorem xeU (hM : CeI l y ws rm D tys ad tA tS (.ref (ad k) :: As) r) (S : CallFix p m c cc nL s args Ts own) (cw : va_CU R s args own E_n owner index y0 y bytes maxL ret ws rm 0 0 n) (hE : Est ad tA tS A s s.heap) (hk : k < 13) (hK : va_K D vwCl tys s) (hP : va_P D vwCl w H) (hD : va_D A w) (hS : va_S A s.heap H locs) (hA : ∀ q, s.heap.size ≤ q → A q)
    (hn : As.length = n) (hsz : ls.size = nL) (hst : st0 = As.reverse ++ .ref (ad k) :: rest) (hW : (rest.map fun v => v.category).sum ≤ 8) (hdg : decode cc pc = .ok (.invokevirtual index, 3)) (hf : cells ≤ R.cells ∧ slots ≤ R.slots)
    (kk : ∀ (H : Heap) (locs : List Loc), va_P D vwCl w H → va_D A w → va_S A s.heap H locs → W p l e R s m args below meth c H locs cells slots Q (F0 m (pc + 3) ls (.int r :: rest))) : W p l e R s m args below meth c H locs cells slots Q (F0 m pc ls st0) :=
  xei (va_runU S (hM H.size) cw ⟨xefb, xrcv hE hk hS, xepre hE hK hS hA⟩ rfl hn hsz hst (lv_room hW) hdg hf) hP hD hS hA kk
/-- a static method of the enum that answers a constant -/
theorem xeS {q : Nat} (hM : CeR l y ws rm D tys ad tA tS As q) (S : CallFix p m c cc nL s args Ts own) (cw : CallB R s args own index y bytes maxL ret ws rm 0 0 n ∧ (Cond.static y).before args s = true) (hE : Est ad tA tS A s s.heap) (hK : va_K D vwCl tys s) (hP : va_P D vwCl w H) (hD : va_D A w) (hS : va_S A s.heap H locs) (hA : ∀ q, s.heap.size ≤ q → A q)
    (hn : As.length = n) (hsz : ls.size = nL) (hst : st0 = As.reverse ++ rest) (hW : (rest.map fun v => v.category).sum ≤ 8) (hdg : decode cc pc = .ok (.invokestatic index, 3)) (hf : cells ≤ R.cells ∧ slots ≤ R.slots)
    (kk : ∀ (H : Heap) (locs : List Loc), va_P D vwCl w H → va_D A w → va_S A s.heap H locs → W p l e R s m args below meth c H locs cells slots Q (F0 m (pc + 3) ls (.ref q :: rest))) : W p l e R s m args below meth c H locs cells slots Q (F0 m pc ls st0) := by
  have hFc := xnil hS hA
  refine va_callr (va_runS S (hM H.size) cw ⟨xefb, xepre hE hK hS hA⟩ rfl hn hsz hst (lv_room hW) hdg hf) hS (fun q _ h => hFc q h) hFc (fun u ra t H1 locs1 ht hvm hr' hB hz1 hk1 hS1 => ?_)
  subst hB
  exact kk H1 locs1 (xkeep hP hk1) hD hS1
/-- a method with a world that needs the constants too -/
theorem xf (hM : CfI l y ws rm D tys ad tA tS (.ref b :: As) wc wc' r) (S : CallFix p m c cc nL s args Ts own) (cw : CallW R s args own C index y bytes maxL ret ws rm 0 0 n) (hE : Est ad tA tS A s s.heap) (hK : va_K D vwCl tys s) (hP : va_P D vwCl w H) (hD : va_D A w) (hS : va_S A s.heap H locs) (hA : ∀ q, s.heap.size ≤ q → A q)
    (isC isR : List Nat) (hC : isC.map (fun i => w[i]?) = wc.map some) (hR : isR.map (fun i => w[i]?) = wr.map some) (hnC : va_nd isC = true) (hnR : va_nd isR = true) (hdis : ∀ i ∈ isR, i ∉ isC)
    {ci : Nat} {q : vw_C} {fs : List Value} {q0 : Nat} (hcl : vwCl[ci]? = some q) (hq : q.1 = C) (he : w[q0]? = some (b, .inr (ci, fs)))
    (hn : As.length = n) (hsz : ls.size = nL) (hst : st0 = As.reverse ++ .ref b :: rest) (hW : (rest.map fun v => v.category).sum ≤ 8) (hdg : decode cc pc = .ok (.invokevirtual index, 3)) (hf : cells ≤ R.cells ∧ slots ≤ R.slots)
    (kk : ∀ (H : Heap) (locs : List Loc), va_P D vwCl (wr ++ wc') H → va_D A (wr ++ wc') → va_S A s.heap H locs → W p l e R s m args below meth c H locs cells slots Q (F0 m (pc + 3) ls (.int r :: rest))) : W p l e R s m args below meth c H locs cells slots Q (F0 m pc ls st0) := by
  have hrc := va_recv hK hP hcl he
  rw [hq] at hrc
  have hFc := va_free (wc := wc) hD hS hA isC hC
  exact xgi (va_runV S (hM H.size) cw ⟨xffb, hrc, fun U hU hW => ⟨rfl, by rw [hU], by rw [hU]; exact xsubP hP isC hC, va_K.moved hW.alike hK, (hD.sub isC hnC hC).weaken (fun _ _ _ _ => trivial), by rw [hU]; exact ((hE.kept hS.2.1).narrow hFc).moved hW.alike⟩⟩ rfl hn hsz hst (lv_room hW) hdg hf) hP hD hS hA isC isR hC hR hnR hdis kk
end XENUM

