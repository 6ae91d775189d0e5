-- the places of the reference's memory in the class's cells
def ph (j : Nat) : Nat := if j < 72 then j else j + 4
theorem ph_lt {j : Nat} (h : j < 104) : ph j < 108 := by unfold ph; split <;> omega
theorem ph_inj {a b : Nat} (h : ph a = ph b) : a = b := by unfold ph at h; split at h <;> split at h <;> omega
theorem ph_nt {j a : Nat} (ha : a < 4) : ph j ≠ 72 + a := by unfold ph; split <;> omega
-- the notes: where note i points, and what undoing n notes from i on leaves at place p (b: what lies there)
def plc (c : Nat → Int32) (i : Nat) : Nat := (c (108 + 2 * i)).toNatClampNeg
def un (c : Nat → Int32) (p : Nat) (b : Int32) : Nat → Nat → Int32
  | _, 0 => b
  | i, n + 1 => if plc c i = p then c (109 + 2 * i) else un c p b (i + 1) n
theorem un_0 (c : Nat → Int32) (p : Nat) (b : Int32) (i : Nat) : un c p b i 0 = b := by simp only [un]
theorem un_s (c : Nat → Int32) (p : Nat) (b : Int32) (i n : Nat) : un c p b i (n + 1) = if plc c i = p then c (109 + 2 * i) else un c p b (i + 1) n := by simp only [un]
theorem un_congr {c d : Nat → Int32} {p : Nat} {b : Int32} : ∀ (n i : Nat), (∀ t, i ≤ t → t < i + n → c (108 + 2 * t) = d (108 + 2 * t) ∧ c (109 + 2 * t) = d (109 + 2 * t)) → un c p b i n = un d p b i n
  | 0, i, _ => by rw [un_0, un_0]
  | n + 1, i, h => by
    have e := h i (Nat.le_refl i) (by omega)
    have ep : plc c i = plc d i := by unfold plc; rw [e.1]
    rw [un_s, un_s, ← ep, e.2, un_congr n (i + 1) (fun t h1 h2 => h t (by omega) (by omega))]
theorem un_last {c : Nat → Int32} {p : Nat} {b : Int32} : ∀ (n i : Nat), un c p b i (n + 1) = un c p (if plc c (i + n) = p then c (109 + 2 * (i + n)) else b) i n
  | 0, i => by rw [un_s, un_0, un_0]; rfl
  | n + 1, i => by
    rw [un_s, un_last n (i + 1), un_s]
    have e : i + 1 + n = i + (n + 1) := by omega
    rw [e]
theorem un_base {c : Nat → Int32} {p : Nat} {b b' : Int32} : ∀ (n i : Nat), (∃ t, i ≤ t ∧ t < i + n ∧ plc c t = p) → un c p b i n = un c p b' i n
  | 0, i, h => by obtain ⟨t, h1, h2, -⟩ := h; omega
  | n + 1, i, h => by
    obtain ⟨t, h1, h2, h3⟩ := h
    rw [un_s, un_s]
    by_cases hp : plc c i = p
    · rw [if_pos hp, if_pos hp]
    · rw [if_neg hp, if_neg hp]
      refine un_base n (i + 1) ⟨t, ?_, by omega, h3⟩
      rcases Nat.lt_or_ge i t with h4 | h4
      · omega
      · exact absurd (by have e : t = i := by omega
                         rw [e] at h3; exact h3) hp
def uu (c : Nat → Int32) (k p : Nat) : Int32 := un c p (c p) 0 k
-- the relation of the two memories: k notes; undone they are the reference's base
def nNT (c : Nat → Int32) (k : Nat) : Prop := k ≤ 20 ∧ c 148 = nI k ∧ ∀ i, i < k → ∃ j, j < 104 ∧ c (108 + 2 * i) = nI (ph j)
def nBS (k : Nat) (nm nb : Nat → Int32) : Nat → Int32 := fun j => if k = 0 then nm j else nb j
def nUB (c : Nat → Int32) (k : Nat) (b : Nat → Int32) : Prop := ∀ j, j < 104 → uu c k (ph j) = b j
def nLE (c nm : Nat → Int32) : Prop := ∀ j, j < 104 → c (ph j) = nm j
def nTR (c nl : Nat → Int32) : Prop := ∀ a, a < 4 → c (72 + a) = nl a ∧ ∃ t, t ≤ 3 ∧ nl a = nI t
-- what a write beyond the notes leaves
def nAG (k : Nat) (c d : Nat → Int32) : Prop := (∀ p, p < 108 → c p = d p) ∧ (∀ t, t < k → c (108 + 2 * t) = d (108 + 2 * t) ∧ c (109 + 2 * t) = d (109 + 2 * t)) ∧ c 148 = d 148
theorem nAG.rf {k : Nat} {c : Nat → Int32} : nAG k c c := ⟨fun _ _ => rfl, fun _ _ => ⟨rfl, rfl⟩, rfl⟩
theorem nAG.up {k q : Nat} {c d : Nat → Int32} {v : Int32} (h : nAG k c d) (h1 : 108 + 2 * k ≤ q) (h2 : q < 148) : nAG k (upd c q v) d :=
  ⟨fun p hp => by rw [pk_un (by omega)]; exact h.1 p hp, fun t ht => by rw [pk_un (by omega), pk_un (by omega)]; exact h.2.1 t ht, by rw [pk_un (by omega)]; exact h.2.2⟩
theorem nAG.nt {k : Nat} {c d : Nat → Int32} (h : nAG k c d) (hd : nNT d k) : nNT c k := ⟨hd.1, h.2.2.trans hd.2.1, fun i hi => by rw [(h.2.1 i hi).1]; exact hd.2.2 i hi⟩
theorem nAG.ub {k : Nat} {c d b : Nat → Int32} (h : nAG k c d) (hd : nUB d k b) : nUB c k b := fun j hj => by
  rw [← hd j hj]
  unfold uu
  rw [h.1 _ (ph_lt hj)]
  exact un_congr k 0 (fun t _ h2 => h.2.1 t (by omega))
theorem nAG.le {k : Nat} {c d nm : Nat → Int32} (h : nAG k c d) (hd : nLE d nm) : nLE c nm := fun j hj => by rw [h.1 _ (ph_lt hj)]; exact hd j hj
theorem nAG.tr {k : Nat} {c d nl : Nat → Int32} (h : nAG k c d) (hd : nTR d nl) : nTR c nl := fun a ha => by rw [h.1 _ (by omega)]; exact hd a ha
-- the fuse
def nRF (mz na nz : Int32) : Prop := (na = 0 ∧ mz = -1) ∨ (na = 1 ∧ nz = mz ∧ 0 ≤ mz)
theorem ix_k {β : Type} {i : Int32} {n : Nat} (j : Nat) (hi : i = nI j) (h : j < n) (hn : n < 2 ^ 31) (k : Nat → Option β) : ix i n k = k j := by
  subst hi; exact ix_nI h hn k
section PMEM
variable {mc nm nb nl ni nu : Nat → Int32} {mw mf mz nc nd nf na nz no ns nv np nn nt : Int32}
theorem fM_count_eq : fM_count (mc, mw, mf, mz) = some (mc 148) := by
  rw [fM_count]; exact ix_k 148 rfl (by decide) (by decide) _
theorem fM_at_eq {j : Nat} (h : j < 149) : fM_at (mc, mw, mf, mz) (nI j) = some (mc j) := by
  rw [fM_at]; exact ix_nI h (by decide) _
theorem wpair {j : Nat} {v : Int32} (h : j < 149) (hF : nRF mz na nz) :
    (fM_write (mc, mw, mf, mz) (nI j) v = some (0, mc, mw, mf + 1, -1) ∧ fRf_write (nm, nb, nl, nc, nd, nf, na, nz, no, ns, nv, np, ni, nn, nu, nt) = some (0, nm, nb, nl, nc, nd, nf + 1, 0, nz, 0, -1, 0, 0, ni, 0, nu, 0)) ∨
    ∃ z z' : Int32, nRF z na z' ∧ fM_write (mc, mw, mf, mz) (nI j) v = some (1, upd mc j v, mw + 1, mf, z) ∧ fRf_write (nm, nb, nl, nc, nd, nf, na, nz, no, ns, nv, np, ni, nn, nu, nt) = some (1, nm, nb, nl, nc, nd + 1, nf, na, z', no, ns, nv, np, ni, nn, nu, nt) := by
  rw [fM_write, fRf_write]
  rcases hF with ⟨rfl, rfl⟩ | ⟨rfl, rfl, h0⟩
  · refine Or.inr ⟨-1, nz, Or.inl ⟨rfl, rfl⟩, ?_, ?_⟩
    · rw [if_neg (by decide), if_pos (by decide), ix_nI h (by decide)]
    · rw [if_pos rfl, if_pos rfl]
  · by_cases hz : nz = 0
    · subst hz
      refine Or.inl ⟨by rw [if_pos rfl], ?_⟩
      rw [if_neg (by decide), if_pos rfl, fRf_forget]
      rfl
    · have hle : ¬ nz ≤ 0 := fun hh => hz (Int32.toInt_inj.mp (by
        have a1 := Int32.le_iff_toInt_le.mp hh
        have a2 := Int32.le_iff_toInt_le.mp h0
        have a3 : (0 : Int32).toInt = 0 := rfl
        omega))
      refine Or.inr ⟨nz - 1, nz - 1, Or.inr ⟨rfl, rfl, ?_⟩, ?_, ?_⟩
      · obtain ⟨j, hj, rfl⟩ := nI_of (x := nz) (fun hh => by
          have a1 := Int32.lt_iff_toInt_lt.mp hh
          have a2 := Int32.le_iff_toInt_le.mp h0
          omega)
        cases j with
        | zero => exact absurd rfl hz
        | succ j => rw [nI_pred]; exact nI_pos' (by omega)
      · rw [if_neg hz, if_neg hle, ix_nI h (by decide)]
      · rw [if_neg (by decide), if_neg hz, if_neg (by decide)]
end PMEM
