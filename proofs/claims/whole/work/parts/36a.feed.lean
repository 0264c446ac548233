/-! feed -/
def byt (n k : Nat) : Nat := n / 2 ^ k % 256
theorem byt_lt (n k : Nat) : byt n k < 256 := Nat.mod_lt _ (by decide)
theorem by_c {n k : Nat} (hn : n < 2 ^ 64) (hk : k < 64) : (((lN n).toUInt64 >>> ((nI k).toInt64.toUInt64 &&& Int64.toUInt64 63)).toInt64 &&& 255).toInt32 = nI (byt n k) := by
  have e : (255 : Int64) = lN (2 ^ 8 - 1) := rfl
  rw [wb_shr hn hk, e, wb_mask (Nat.lt_of_le_of_lt (Nat.div_le_self _ _) hn) (by omega), lN_i]
  rfl
theorem ss_nat (x : BitVec 64) (k : Nat) (hk : k ≤ 56) : (x.sshiftRight k).toNat % 256 = x.toNat / 2 ^ k % 256 := by
  have e : (x.sshiftRight k).extractLsb' 0 8 = x.extractLsb' k 8 := by
    apply BitVec.eq_of_getLsbD_eq
    intro i hi
    rw [BitVec.getLsbD_extractLsb', BitVec.getLsbD_extractLsb', BitVec.getLsbD_sshiftRight, if_pos (by omega)]
    have : ¬ 64 ≤ 0 + i := by omega
    have h64 : i < 64 := by omega
    simp [this, hi, h64]
  have e2 := congrArg BitVec.toNat e
  rw [BitVec.extractLsb'_toNat, BitVec.extractLsb'_toNat, Nat.shiftRight_zero, Nat.shiftRight_eq_div_pow] at e2
  exact e2
theorem sm_k : ∀ k, k < 64 → (((nI k).toInt64 &&& 63).toBitVec.smod 64).toNat = k := by decide +kernel
theorem by_m {n k : Nat} (hn : n < 2 ^ 64) (hk : k ≤ 56) : (lN n >>> ((nI k).toInt64 &&& 63)).toInt32 &&& nI 255 = nI (byt n k) := by
  obtain ⟨m, hm, em⟩ := wb_of (lN n >>> ((nI k).toInt64 &&& 63))
  have e : (lN n >>> ((nI k).toInt64 &&& 63)).toBitVec = (lN n).toBitVec.sshiftRight k := by
    show (lN n).toBitVec.sshiftRight (((nI k).toInt64 &&& 63).toBitVec.smod 64).toNat = _
    rw [sm_k k (by omega)]
  have e2 := ss_nat (lN n).toBitVec k hk
  rw [← e, em, wb_tn hm, wb_tn hn] at e2
  rw [em, lN_i]
  have e3 : nI m &&& nI 255 = nI (m &&& 255) := nx_and m 255
  have e5 : m &&& 255 = m % 256 := Nat.and_two_pow_sub_one_eq_mod m 8
  rw [e3, e5, e2]
  rfl
