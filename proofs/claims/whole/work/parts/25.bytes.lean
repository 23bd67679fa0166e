/-- the k-th byte of a long -/
def bytM (v : Int64) (k : Nat) : Nat := v.toBitVec.toNat / 2 ^ (8 * k) % 256
theorem bytM_lt (v : Int64) (k : Nat) : bytM v k < 256 := Nat.mod_lt _ (by omega)
theorem bv_byte (x : BitVec 64) (c : Nat) : ((x >>> c) &&& (255#64)).setWidth 32 = BitVec.ofNat 32 (x.toNat / 2 ^ c % 256) := by
  apply BitVec.eq_of_toNat_eq
  rw [BitVec.toNat_setWidth, BitVec.toNat_and, BitVec.toNat_ushiftRight, BitVec.toNat_ofNat, BitVec.toNat_ofNat, Nat.shiftRight_eq_div_pow]
  rw [show (255 % 2 ^ 64 : Nat) = 2 ^ 8 - 1 from rfl, Nat.and_two_pow_sub_one_eq_mod]
theorem bv_sbyte (x : BitVec 64) (c : Nat) (hc : c ≤ 56) : (x.sshiftRight c) &&& (255#64) = (x >>> c) &&& (255#64) := by
  apply BitVec.eq_of_getLsbD_eq
  intro i hi
  rw [BitVec.getLsbD_and, BitVec.getLsbD_and, BitVec.getLsbD_sshiftRight, BitVec.getLsbD_ushiftRight]
  by_cases h8 : i < 8
  · have h1 : c + i < 64 := by omega
    have h3 : ¬ 64 ≤ i := by omega
    simp [h1, hi, h3]
  · have h2 : (255#64).getLsbD i = false := by
      rw [BitVec.getLsbD_ofNat, show (255 : Nat) = 2 ^ 8 - 1 from rfl, Nat.testBit_two_pow_sub_one]
      simp [h8]
    rw [h2, Bool.and_false, Bool.and_false]
theorem sh_u : ∀ k, k < 8 → ((nI (8 * k)).toInt64.toUInt64 &&& Int64.toUInt64 63) = UInt64.ofNat (8 * k) := by decide +kernel
theorem sh_s : ∀ k, k < 8 → ((nI (8 * k)).toInt64 &&& 63) = Int64.ofNat (8 * k) := by decide +kernel
theorem shm_u : ∀ k, k < 8 → ((UInt64.ofNat (8 * k)).toBitVec % 64).toNat = 8 * k := by decide +kernel
theorem shm_s : ∀ k, k < 8 → ((Int64.ofNat (8 * k)).toBitVec.smod 64).toNat = 8 * k := by decide +kernel
theorem byte_u {v : Int64} {k : Nat} (hk : k < 8) : ((v.toUInt64 >>> ((nI (8 * k)).toInt64.toUInt64 &&& Int64.toUInt64 63)).toInt64 &&& lN 255).toInt32 = nI (bytM v k) := by
  rw [sh_u k hk]
  apply Int32.toBitVec_inj.1
  show ((v.toBitVec >>> ((UInt64.ofNat (8 * k)).toBitVec % 64)) &&& 255#64).signExtend 32 = BitVec.ofNat 32 (bytM v k)
  rw [BitVec.signExtend_eq_setWidth_of_le _ (by omega), BitVec.ushiftRight_eq', shm_u k hk, bv_byte]
  rfl
theorem byte_s {v : Int64} {k : Nat} (hk : k < 8) : ((v >>> ((nI (8 * k)).toInt64 &&& 63)) &&& lN 255).toInt32 = nI (bytM v k) := by
  rw [sh_s k hk]
  apply Int32.toBitVec_inj.1
  show ((v.toBitVec.sshiftRight' ((Int64.ofNat (8 * k)).toBitVec.smod 64)) &&& 255#64).signExtend 32 = BitVec.ofNat 32 (bytM v k)
  rw [BitVec.signExtend_eq_setWidth_of_le _ (by omega), BitVec.sshiftRight_eq', shm_s k hk, bv_sbyte _ _ (by omega), bv_byte]
  rfl
/-- the n bytes of v behind len, the first m of them -/
def appM (tx : Nat → Nat) (len n : Nat) (v : Int64) (m : Nat) : Nat → Nat := fun j => if len ≤ j ∧ j < len + m then bytM v (n - 1 - (j - len)) else tx j
theorem appM_0 (tx : Nat → Nat) (len n : Nat) (v : Int64) : appM tx len n v 0 = tx := by
  funext j; unfold appM; rw [if_neg (by omega)]
theorem appM_s (tx : Nat → Nat) (len n : Nat) (v : Int64) (m : Nat) : appM tx len n v (m + 1) = upN (appM tx len n v m) (len + m) (bytM v (n - 1 - m)) := by
  funext j; unfold appM upN; dsimp only
  by_cases h : j = len + m
  · subst h
    rw [if_pos (by omega), if_pos rfl, show len + m - len = m from by omega]
  · rw [if_neg h]
    by_cases h2 : len ≤ j ∧ j < len + m
    · rw [if_pos (by omega), if_pos h2]
    · rw [if_neg (by omega), if_neg h2]
