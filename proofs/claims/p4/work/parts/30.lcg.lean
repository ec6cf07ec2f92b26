/-! rows of kit/laws/BITS.to-paste (the wb_ family's first rows), pasted -/
theorem wb_tb (n : Nat) : (lN n).toBitVec = BitVec.ofNat 64 n := rfl
theorem wb_inj {a b : Int64} (h : a.toBitVec = b.toBitVec) : a = b := Int64.toBitVec_inj.mp h
theorem wb_tn {n : Nat} (h : n < 2 ^ 64) : (lN n).toBitVec.toNat = n := by rw [wb_tb, BitVec.toNat_ofNat, Nat.mod_eq_of_lt h]
theorem wb_of (x : Int64) : ∃ n, n < 2 ^ 64 ∧ x = lN n := ⟨x.toBitVec.toNat, x.toBitVec.isLt, wb_inj (by rw [wb_tb]; simp)⟩
theorem wb_of32 (x : Int32) : ∃ n, n < 2 ^ 32 ∧ x = nI n := ⟨x.toBitVec.toNat, x.toBitVec.isLt, Int32.toBitVec_inj.mp (by show _ = BitVec.ofNat 32 _; simp)⟩
theorem wb_c : ∀ k, k < 64 → ((nI k).toInt64 &&& 63) = lN k := by decide +kernel
theorem wb_cu : ∀ k, k < 64 → ((nI k).toInt64.toUInt64 &&& Int64.toUInt64 63) = UInt64.ofNat k := by decide +kernel
theorem wb_sm : ∀ k, k < 64 → (BitVec.ofNat 64 k).smod 64 = BitVec.ofNat 64 k := by decide +kernel
theorem wb_pw {a b : Nat} (h : a ≤ b) : 2 ^ b = 2 ^ a * 2 ^ (b - a) := by rw [← Nat.pow_add]; congr 1; omega
theorem wb_lt2 {a b : Nat} (h : a < b) : 2 ^ a < 2 ^ b := Nat.pow_lt_pow_right (by decide) h
theorem wb_mod (n : Nat) : lN n = lN (n % 2 ^ 64) := wb_inj (by rw [wb_tb, wb_tb]; apply BitVec.eq_of_toNat_eq; rw [BitVec.toNat_ofNat, BitVec.toNat_ofNat, Nat.mod_mod])
theorem wb_shr {n k : Nat} (hn : n < 2 ^ 64) (hk : k < 64) : ((lN n).toUInt64 >>> ((nI k).toInt64.toUInt64 &&& Int64.toUInt64 63)).toInt64 = lN (n / 2 ^ k) := by
  rw [wb_cu k hk]
  apply wb_inj
  apply BitVec.eq_of_toNat_eq
  show ((lN n).toUInt64 >>> UInt64.ofNat k).toNat = (BitVec.ofNat 64 _).toNat
  have h1 : (UInt64.ofNat k).toNat = k := by
    show (BitVec.ofNat 64 k).toNat = k
    rw [BitVec.toNat_ofNat, Nat.mod_eq_of_lt (by omega)]
  have h2 : (lN n).toUInt64.toNat = n := wb_tn hn
  rw [UInt64.toNat_shiftRight, h1, h2, Nat.mod_eq_of_lt hk, Nat.shiftRight_eq_div_pow, BitVec.toNat_ofNat, Nat.mod_eq_of_lt (Nat.lt_of_le_of_lt (Nat.div_le_self _ _) hn)]
/-! the STATE and its draws, in natural numbers -/
def kz_st (s : Int64) : Int64 := 6364136223846793005 * s + 1442695040888963407
def kz_up (s : Int64) : Nat := (kz_st s).toBitVec.toNat / 2 ^ 33
theorem kz_up_lt (s : Int64) : kz_up s < 2 ^ 31 := by
  have h := (kz_st s).toBitVec.isLt
  unfold kz_up
  omega
theorem kz_lN (s : Int64) : kz_st s = lN (kz_st s).toBitVec.toNat := wb_inj (by rw [wb_tb]; simp)
theorem kz_sh (s : Int64) : ((kz_st s).toUInt64 >>> ((33 : Int32).toInt64.toUInt64 &&& Int64.toUInt64 63)).toInt64 = lN (kz_up s) := by
  have h := wb_shr (n := (kz_st s).toBitVec.toNat) (k := 33) (kz_st s).toBitVec.isLt (by decide)
  rw [← kz_lN] at h
  exact h
theorem kz_below (s : Int64) {n : Nat} (h0 : 0 < n) (h : n < 2 ^ 31) : f_X0_below s (nI n) = some (nI (kz_up s % n), kz_st s) := by
  have e : f_X0_below s (nI n) = (if nI n ≤ 0 then some (0, kz_st s) else if nI n = 0 then none else some ((((kz_st s).toUInt64 >>> ((33 : Int32).toInt64.toUInt64 &&& Int64.toUInt64 63)).toInt64).toInt32 - (((kz_st s).toUInt64 >>> ((33 : Int32).toInt64.toUInt64 &&& Int64.toUInt64 63)).toInt64).toInt32 / nI n * nI n, kz_st s)) := rfl
  rw [e, if_neg (nI_nle h0 h), if_neg (nI_ne0 h0 h), kz_sh, lN_i, pk_rem (kz_up_lt s) h0 h]
theorem kz_next (s : Int64) {n : Nat} (h0 : 0 < n) (h : n < 2 ^ 31) : f_X5_next s (nI n) = some (nI (kz_up s % n), kz_st s) := by
  have e : f_X5_next s (nI n) = (if (nI n).toInt64 = 0 then none else some ((((kz_st s).toUInt64 >>> ((33 : Int32).toInt64.toUInt64 &&& Int64.toUInt64 63)).toInt64 - ((kz_st s).toUInt64 >>> ((33 : Int32).toInt64.toUInt64 &&& Int64.toUInt64 63)).toInt64 / (nI n).toInt64 * (nI n).toInt64).toInt32, kz_st s)) := rfl
  have hn : ¬ lN n = 0 := by
    intro q
    have := (lN_eq h (show 0 < 2 ^ 31 by decide)).mp q
    omega
  rw [e, nI_l h, if_neg hn, kz_sh, pk_lRem (by have := kz_up_lt s; omega) h0 (by omega), lN_i]
