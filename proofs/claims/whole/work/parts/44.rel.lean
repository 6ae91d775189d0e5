-- the parts of a state
abbrev xmc (x : StX) := x.1
abbrev xmw (x : StX) := x.2.1
abbrev xmf (x : StX) := x.2.2.1
abbrev xmz (x : StX) := x.2.2.2.1
abbrev xib (x : StX) := x.2.2.2.2.1
abbrev xic (x : StX) := x.2.2.2.2.2.1
abbrev xxa (x : StX) := x.2.2.2.2.2.2.1
abbrev xxl (x : StX) := x.2.2.2.2.2.2.2.2.1
abbrev xxo (x : StX) := x.2.2.2.2.2.2.2.2.2.1
abbrev xxs (x : StX) := x.2.2.2.2.2.2.2.2.2.2.1
abbrev xxv (x : StX) := x.2.2.2.2.2.2.2.2.2.2.2.1
abbrev xxp (x : StX) := x.2.2.2.2.2.2.2.2.2.2.2.2
abbrev rnm (m : StR) := m.1
abbrev rnb (m : StR) := m.2.1
abbrev rnl (m : StR) := m.2.2.1
abbrev rnc (m : StR) := m.2.2.2.1
abbrev rnd (m : StR) := m.2.2.2.2.1
abbrev rnf (m : StR) := m.2.2.2.2.2.1
abbrev rna (m : StR) := m.2.2.2.2.2.2.1
abbrev rnz (m : StR) := m.2.2.2.2.2.2.2.1
abbrev rno (m : StR) := m.2.2.2.2.2.2.2.2.1
abbrev rns (m : StR) := m.2.2.2.2.2.2.2.2.2.1
abbrev rnv (m : StR) := m.2.2.2.2.2.2.2.2.2.2.1
abbrev rnp (m : StR) := m.2.2.2.2.2.2.2.2.2.2.2.1
abbrev rni (m : StR) := m.2.2.2.2.2.2.2.2.2.2.2.2.1
abbrev rnn (m : StR) := m.2.2.2.2.2.2.2.2.2.2.2.2.2.1
abbrev rnu (m : StR) := m.2.2.2.2.2.2.2.2.2.2.2.2.2.2.1
abbrev rnt (m : StR) := m.2.2.2.2.2.2.2.2.2.2.2.2.2.2.2
-- shares that are in use lie within an applet's data
def nV (f : Nat → Int32) : Prop := ∀ s, s < 8 → f (72 + 4 * s) = nI 0 ∨ ∃ q o n : Nat, 1 ≤ q ∧ q ≤ 16 ∧ o + n ≤ 16 ∧ f (72 + 4 * s) = nI q ∧ f (73 + 4 * s) = nI o ∧ f (74 + 4 * s) = nI n
theorem nV_congr {f g : Nat → Int32} (h : ∀ j, 72 ≤ j → j < 104 → f j = g j) (hg : nV g) : nV f := fun s hs => by
  rw [h (72 + 4 * s) (by omega) (by omega), h (73 + 4 * s) (by omega) (by omega), h (74 + 4 * s) (by omega) (by omega)]
  exact hg s hs
-- the memories, whether the card is on or off
def nMM (k : Nat) (x : StX) (m : StR) : Prop := xmw x = rnd m ∧ xmf x = rnf m ∧ nRF (xmz x) (rna m) (rnz m) ∧ nTR (xmc x) (rnl m) ∧ nNT (xmc x) k ∧ rnc m = nI k ∧ nUB (xmc x) k (nBS k (rnm m) (rnb m)) ∧ nV (nBS k (rnm m) (rnb m))
-- the card is on: what else holds, but for input and response
def nON (k : Nat) (x : StX) (m : StR) : Prop := xxo x = 1 ∧ rno m = 1 ∧ xxv x = rnv m ∧ (rnv m = 0 ∨ rnv m = 1) ∧ xxp x = rnp m ∧ (rnp m = 0 ∨ rnp m = 1) ∧ nLE (xmc x) (rnm m) ∧ nV (rnm m) ∧ (rnp m = 0 → k = 0) ∧ ((xxs x = -2 ∧ rns m = -1) ∨ ∃ a : Nat, a < 4 ∧ xxs x = nI a ∧ rns m = nI a)
-- the inputs: c bytes wait
def nIN (c : Nat) (x : StX) (m : StR) : Prop := c ≤ 24 ∧ xic x = nI c ∧ rnn m = nI c ∧ ∀ j, j < c → xib x j = rni m j ∧ ∃ v : Nat, v < 256 ∧ rni m j = nI v
-- the responses: t bytes
def nOU (t : Nat) (x : StX) (m : StR) : Prop := t ≤ 16 ∧ xxl x = nI t ∧ rnt m = nI t ∧ ∀ j, j < t → xxa x j = rnu m j
def nREL (x : StX) (m : StR) : Prop := ∃ k c t : Nat, nMM k x m ∧ nIN c x m ∧ nOU t x m ∧ ((nON k x m) ∨ (xxo x = 0 ∧ rno m = 0 ∧ xxs x = -2 ∧ rns m = -1 ∧ xxv x = 0 ∧ rnv m = 0 ∧ xxp x = 0 ∧ rnp m = 0 ∧ c = 0 ∧ t = 0))
-- how a command ends: the power failed, or it did not
def nEND (r : Int32) (x : StX) (m : StR) : Prop :=
  (r = -1 ∧ ∃ k, nMM k x m ∧ rno m = 0 ∧ rns m = -1 ∧ rnv m = 0 ∧ rnp m = 0 ∧ rnt m = 0) ∨
  (r ≠ -1 ∧ ∃ k t, nMM k x m ∧ nON k x m ∧ t ≤ 16 ∧ xxl x = nI t ∧ (r = 36864 → rnt m = nI t ∧ ∀ j, j < t → xxa x j = rnu m j) ∧ (r ≠ 36864 → t = 0))
-- rows of kit/laws/BITS.to-paste
theorem wb_tb (n : Nat) : (lN n).toBitVec = BitVec.ofNat 64 n := rfl
theorem wb_inj {a b : Int64} (h : a.toBitVec = b.toBitVec) : a = b := Int64.toBitVec_inj.mp h
theorem wb_tn {n : Nat} (h : n < 2 ^ 64) : (lN n).toBitVec.toNat = n := by rw [wb_tb, BitVec.toNat_ofNat, Nat.mod_eq_of_lt h]
theorem wb_of (x : Int64) : ∃ n, n < 2 ^ 64 ∧ x = lN n := ⟨x.toBitVec.toNat, x.toBitVec.isLt, wb_inj (by rw [wb_tb]; simp)⟩
theorem wb_c : ∀ k, k < 64 → ((nI k).toInt64 &&& 63) = lN k := by decide +kernel
theorem wb_cu : ∀ k, k < 64 → ((nI k).toInt64.toUInt64 &&& Int64.toUInt64 63) = UInt64.ofNat k := by decide +kernel
theorem wb_sm : ∀ k, k < 64 → (BitVec.ofNat 64 k).smod 64 = BitVec.ofNat 64 k := by decide +kernel
theorem wb_lt2 {a b : Nat} (h : a < b) : 2 ^ a < 2 ^ b := Nat.pow_lt_pow_right (by decide) h
theorem wb_shr {n k : Nat} (hn : n < 2 ^ 64) (hk : k < 64) : ((lN n).toUInt64 >>> ((nI k).toInt64.toUInt64 &&& Int64.toUInt64 63)).toInt64 = lN (n / 2 ^ k) := by
  rw [wb_cu k hk]
  apply wb_inj
  apply BitVec.eq_of_toNat_eq
  show ((lN n).toUInt64 >>> UInt64.ofNat k).toNat = (BitVec.ofNat 64 _).toNat
  have h1 : (UInt64.ofNat k).toNat = k := by
    show (BitVec.ofNat 64 k).toNat = k
    rw [BitVec.toNat_ofNat, Nat.mod_eq_of_lt (by omega)]
  have h2 : (lN n).toUInt64.toNat = n := wb_tn hn
  rw [UInt64.toNat_shiftRight, h1, h2, Nat.mod_eq_of_lt hk, Nat.shiftRight_eq_div_pow, BitVec.toNat_ofNat, Nat.mod_eq_of_lt (Nat.lt_of_le_of_lt (Nat.div_le_self _ _) hn)]
theorem wb_and {a b : Nat} (ha : a < 2 ^ 64) (hb : b < 2 ^ 64) : lN a &&& lN b = lN (a &&& b) := by
  apply wb_inj
  rw [Int64.toBitVec_and, wb_tb, wb_tb, wb_tb]
  apply BitVec.eq_of_toNat_eq
  rw [BitVec.toNat_and, BitVec.toNat_ofNat, BitVec.toNat_ofNat, BitVec.toNat_ofNat, Nat.mod_eq_of_lt ha, Nat.mod_eq_of_lt hb, Nat.mod_eq_of_lt (Nat.and_lt_two_pow _ hb)]
theorem wb_mask {n k : Nat} (hn : n < 2 ^ 64) (hk : k < 64) : lN n &&& lN (2 ^ k - 1) = lN (n % 2 ^ k) := by
  rw [wb_and hn (by have := wb_lt2 hk; omega), Nat.and_two_pow_sub_one_eq_mod]
theorem lN_bv (n : Nat) : (lN n).toBitVec = BitVec.ofNat 64 n := rfl
theorem lN_nat {n : Nat} (h : n < 2 ^ 64) : (lN n).toBitVec.toNat = n := by rw [lN_bv, BitVec.toNat_ofNat]; exact Nat.mod_eq_of_lt h
theorem lN_ti {m : Nat} (h : m < 2 ^ 64) : (lN m).toInt = if m < 2 ^ 63 then (m : Int) else (m : Int) - 2 ^ 64 := by
  have c := BitVec.toInt_eq_toNat_cond (lN m).toBitVec
  rw [lN_nat h] at c
  show (lN m).toBitVec.toInt = _
  rw [c]
  split <;> split <;> omega
theorem by_put (x : Int64) {i : Nat} (hi : i < 8) : ∃ v : Nat, v < 256 ∧ (((x.toUInt64 >>> ((8 * nI i).toInt64.toUInt64 &&& Int64.toUInt64 63)).toInt64).toInt32) &&& 255 = nI v ∧ ((x >>> ((8 * nI i).toInt64 &&& 63)) &&& 255).toInt32 = nI v := by
  have e8 : (8 : Int32) * nI i = nI (8 * i) := by
    show nI 8 * nI i = _
    rw [pk_mul]
  rw [e8]
  obtain ⟨n, hn, rfl⟩ := wb_of x
  refine ⟨n / 2 ^ (8 * i) % 256, Nat.mod_lt _ (by decide), ?_, ?_⟩
  · rw [wb_shr hn (by omega), lN_i, pk_and _ 8 (by decide)]
    congr 1
    show (BitVec.ofNat 32 (n / 2 ^ (8 * i))).toNat % 2 ^ 8 = _
    rw [BitVec.toNat_ofNat]
    omega
  · rw [wb_c (8 * i) (by omega)]
    obtain ⟨m, hm, em⟩ := wb_of (lN n >>> lN (8 * i))
    have hD : ((lN (8 * i)).toBitVec.smod 64).toNat = 8 * i := by rw [wb_tb, wb_sm _ (by omega), BitVec.toNat_ofNat, Nat.mod_eq_of_lt (by omega)]
    have t0 : (lN n >>> lN (8 * i)).toInt = (lN n).toInt >>> ((lN (8 * i)).toBitVec.smod 64).toNat := BitVec.toInt_sshiftRight ..
    rw [hD, em, lN_ti hm, lN_ti hn, Int.shiftRight_eq_div_pow] at t0
    rw [em, show (255 : Int64) = lN (2 ^ 8 - 1) from rfl, wb_mask hm (by decide), lN_i]
    congr 1
    have h8 : i = 0 ∨ i = 1 ∨ i = 2 ∨ i = 3 ∨ i = 4 ∨ i = 5 ∨ i = 6 ∨ i = 7 := by omega
    rcases h8 with rfl | rfl | rfl | rfl | rfl | rfl | rfl | rfl <;> simp only [Nat.mul_zero, Nat.reduceMul, Nat.reducePow] at t0 ⊢ <;> split at t0 <;> split at t0 <;> omega
