/-! PURE: bytes of a long (the first rows are of the kit's BITS, pasted) -/
theorem wb_tb (n : Nat) : (lN n).toBitVec = BitVec.ofNat 64 n := rfl
theorem wb_inj {a b : Int64} (h : a.toBitVec = b.toBitVec) : a = b := Int64.toBitVec_inj.mp h
theorem wb_tn {n : Nat} (h : n < 2 ^ 64) : (lN n).toBitVec.toNat = n := by rw [wb_tb, BitVec.toNat_ofNat, Nat.mod_eq_of_lt h]
theorem wb_of (x : Int64) : ∃ n, n < 2 ^ 64 ∧ x = lN n := ⟨x.toBitVec.toNat, x.toBitVec.isLt, wb_inj (by rw [wb_tb]; simp)⟩
theorem wb_c : ∀ k, k < 64 → ((nI k).toInt64 &&& 63) = lN k := by decide +kernel
theorem wb_cu : ∀ k, k < 64 → ((nI k).toInt64.toUInt64 &&& Int64.toUInt64 63) = UInt64.ofNat k := by decide +kernel
theorem wb_shr {n k : Nat} (hn : n < 2 ^ 64) (hk : k < 64) : ((lN n).toUInt64 >>> ((nI k).toInt64.toUInt64 &&& Int64.toUInt64 63)).toInt64 = lN (n / 2 ^ k) := by
  rw [wb_cu k hk]
  apply wb_inj
  apply BitVec.eq_of_toNat_eq
  show ((lN n).toUInt64 >>> UInt64.ofNat k).toNat = (BitVec.ofNat 64 _).toNat
  have h1 : (UInt64.ofNat k).toNat = k := by
    show (BitVec.ofNat 64 k).toNat = k
    rw [BitVec.toNat_ofNat, Nat.mod_eq_of_lt (by omega)]
  have h2 : (lN n).toUInt64.toNat = n := wb_tn hn
  rw [UInt64.toNat_shiftRight, h1, h2, Nat.mod_eq_of_lt hk, Nat.shiftRight_eq_div_pow, BitVec.toNat_ofNat, Nat.mod_eq_of_lt (Nat.lt_of_le_of_lt (Nat.div_le_self _ _) hn)]
/-- byte k of the number m -/
def byt (m k : Nat) : Nat := m / 2 ^ (8 * k) % 256
theorem byt_lt (m k : Nat) : byt m k < 256 := Nat.mod_lt _ (by decide)
theorem nI_bv (x : Nat) : (nI x).toBitVec.toNat = x % 2 ^ 32 := by
  show (BitVec.ofNat 32 x).toNat = _
  rw [BitVec.toNat_ofNat]
theorem byteOf_eq {m k : Nat} (hm : m < 2 ^ 64) (hk : k < 8) : F_byteOf (lN m) (nI k) = some (nI (byt m k)) := by
  unfold F_byteOf
  have e8 : (8 : Int32) * nI k = nI (8 * k) := pk_mul 8 k
  rw [e8, wb_shr hm (by omega), lN_i, pk_and _ 8 (by decide), nI_bv]
  have e : m / 2 ^ (8 * k) % 2 ^ 32 % 2 ^ 8 = byt m k := by unfold byt; omega
  rw [e]
theorem mbyte {m k : Nat} (hk : k < 8) : (lN m >>> (((8 : Int32) * nI k).toInt64 &&& 63)) &&& (255 : Int64) = lN (byt m k) := by
  have e8 : (8 : Int32) * nI k = nI (8 * k) := pk_mul 8 k
  rw [e8, wb_c (8 * k) (by omega)]
  apply wb_inj
  have hs : (lN (8 * k)).toBitVec.smod 64 = BitVec.ofNat 64 (8 * k) := by
    have h9 : ∀ k : Fin 8, (lN (8 * k.val)).toBitVec.smod 64 = BitVec.ofNat 64 (8 * k.val) := by decide +kernel
    exact h9 ⟨k, hk⟩
  show (BitVec.sshiftRight' (lN m).toBitVec ((lN (8 * k)).toBitVec.smod 64)) &&& (255 : Int64).toBitVec = _
  rw [hs]
  apply BitVec.eq_of_getLsbD_eq
  intro i hi
  have h255 : (255 : Int64).toBitVec.getLsbD i = decide (i < 8) := by
    have h9 : ∀ i : Fin 64, (255 : Int64).toBitVec.getLsbD i.val = decide (i.val < 8) := by decide +kernel
    exact h9 ⟨i, hi⟩
  rw [BitVec.getLsbD_and, h255, BitVec.sshiftRight', BitVec.toNat_ofNat, Nat.mod_eq_of_lt (by omega), BitVec.getLsbD_sshiftRight, wb_tb, wb_tb]
  have r1 : (BitVec.ofNat 64 (byt m k)).getLsbD i = (decide (i < 8) && m.testBit (8 * k + i)) := by
    unfold byt
    rw [BitVec.getLsbD_ofNat, show (256 : Nat) = 2 ^ 8 from rfl, Nat.testBit_mod_two_pow, Nat.testBit_div_two_pow, decide_eq_true hi, Bool.true_and, Nat.add_comm]
  rw [r1]
  by_cases c : i < 8
  · rw [if_pos (show 8 * k + i < 64 by omega), BitVec.getLsbD_ofNat, decide_eq_true (show 8 * k + i < 64 by omega), decide_eq_true c, decide_eq_false (show ¬ 64 ≤ i by omega)]
    simp
  · rw [decide_eq_false c]
    simp
