/-! the codes that a long tells -/
def cod (z : Int64) (k : Nat) : Nat := (z.toBitVec.extractLsb' (8 * k) 8).toNat
theorem cod_lt (z : Int64) (k : Nat) : cod z k < 256 := (z.toBitVec.extractLsb' (8 * k) 8).isLt
theorem co_s : ∀ k : Nat, k < 8 → (((iI ((8 * k : Nat) : Int)).toInt64.toUInt64 &&& Int64.toUInt64 63).toBitVec % 64).toNat = 8 * k := by decide +kernel
theorem co_r (z : Int64) {k : Nat} (hk : k < 8) : (j_lushr z (iI ((8 * k : Nat) : Int))).toBitVec = z.toBitVec >>> (8 * k) := by
  unfold j_lushr
  show (z.toUInt64 >>> ((iI ((8 * k : Nat) : Int)).toInt64.toUInt64 &&& Int64.toUInt64 63)).toBitVec = _
  rw [UInt64.toBitVec_shiftRight, BitVec.ushiftRight_eq', co_s k hk]
  rfl
theorem co_c (z : Int64) {k : Nat} (hk : k < 8) : (j_lushr z (iI ((8 * k : Nat) : Int))).toInt32 &&& iI 255 = iI ((cod z k : Nat) : Int) := by
  rw [iI_nI, show iI 255 = Int32.ofNat (2 ^ 8 - 1) from by decide +kernel]
  apply Int32.toBitVec_inj.mp
  show BitVec.signExtend 32 (j_lushr z (iI ((8 * k : Nat) : Int))).toBitVec &&& BitVec.ofNat 32 (2 ^ 8 - 1) = BitVec.ofNat 32 (cod z k)
  rw [co_r z hk]
  apply BitVec.eq_of_getLsbD_eq
  intro i hi
  rw [BitVec.getLsbD_and, BitVec.getLsbD_ofNat, BitVec.getLsbD_ofNat, BitVec.getLsbD_signExtend, BitVec.getLsbD_ushiftRight, Nat.testBit_two_pow_sub_one]
  unfold cod
  rw [BitVec.testBit_toNat, BitVec.getLsbD_extractLsb']
  have h1 : i < 64 := by omega
  simp [hi, h1]
  exact Bool.and_comm _ _
theorem co_s2 : ∀ k : Nat, k < 8 → (((iI ((8 * k : Nat) : Int)).toInt64 &&& 63).toBitVec.smod 64).toNat = 8 * k := by decide +kernel
theorem co_m (z : Int64) {k : Nat} (hk : k < 8) : (j_lshr z (iI ((8 * k : Nat) : Int)) &&& 255).toInt32 = iI ((cod z k : Nat) : Int) := by
  rw [iI_nI]
  apply Int32.toBitVec_inj.mp
  have e : (j_lshr z (iI ((8 * k : Nat) : Int))).toBitVec = z.toBitVec.sshiftRight (8 * k) := by
    unfold j_lshr
    rw [Int64.toBitVec_shiftRight, BitVec.sshiftRight_eq', co_s2 k hk]
  show BitVec.signExtend 32 ((j_lshr z (iI ((8 * k : Nat) : Int))).toBitVec &&& BitVec.ofNat 64 (2 ^ 8 - 1)) = BitVec.ofNat 32 (cod z k)
  rw [e]
  apply BitVec.eq_of_getLsbD_eq
  intro i hi
  rw [BitVec.getLsbD_signExtend, BitVec.getLsbD_and, BitVec.getLsbD_ofNat, BitVec.getLsbD_ofNat, BitVec.getLsbD_sshiftRight, Nat.testBit_two_pow_sub_one]
  unfold cod
  rw [BitVec.testBit_toNat, BitVec.getLsbD_extractLsb']
  have h1 : i < 64 := by omega
  have h2 : ¬ 64 ≤ i := by omega
  by_cases h8 : i < 8
  · have h3 : 8 * k + i < 64 := by omega
    simp [hi, h1, h2, h3, h8]
  · simp [hi, h1, h8]
theorem cmp_0 (x : Int64) : (lg_cmp x 0 = iI 0) = (x = 0) := by
  apply propext
  unfold lg_cmp
  constructor
  · intro h
    split at h
    · exact absurd h (by decide)
    · split at h
      · assumption
      · exact absurd h (by decide)
  · rintro rfl
    decide
theorem cod_0 (z : Int64) (k : Nat) : cod z k = 0 ↔ ∀ i, i < 8 → z.toBitVec.getLsbD (8 * k + i) = false := by
  unfold cod
  constructor
  · intro h i hi
    have : (z.toBitVec.extractLsb' (8 * k) 8).getLsbD i = false := by
      rw [← BitVec.testBit_toNat, h, Nat.zero_testBit]
    rw [BitVec.getLsbD_extractLsb'] at this
    simpa [hi] using this
  · intro h
    have : z.toBitVec.extractLsb' (8 * k) 8 = 0#8 := by
      apply BitVec.eq_of_getLsbD_eq
      intro i hi
      rw [BitVec.getLsbD_extractLsb', h i hi]
      simp
    rw [this]
    rfl
/-- no more characters -/
theorem co_0 (z : Int64) {k : Nat} (hk : k < 8) : (lg_cmp (j_lushr z (iI ((8 * k : Nat) : Int))) 0 = iI 0) = ∀ j, k ≤ j → j < 8 → cod z j = 0 := by
  rw [cmp_0]
  apply propext
  rw [← Int64.toBitVec_inj, co_r z hk]
  constructor
  · intro h j h1 h2
    rw [cod_0]
    intro i hi
    have : (z.toBitVec >>> (8 * k)).getLsbD (8 * (j - k) + i) = (Int64.toBitVec 0).getLsbD (8 * (j - k) + i) := by rw [h]
    rw [BitVec.getLsbD_ushiftRight, show 8 * k + (8 * (j - k) + i) = 8 * j + i by omega] at this
    rw [this]
    exact BitVec.getLsbD_zero
  · intro h
    apply BitVec.eq_of_getLsbD_eq
    intro i hi
    rw [BitVec.getLsbD_ushiftRight]
    by_cases q : 8 * k + i < 64
    · have := (cod_0 z ((8 * k + i) / 8)).mp (h _ (by omega) (by omega)) ((8 * k + i) % 8) (by omega)
      rw [show 8 * ((8 * k + i) / 8) + (8 * k + i) % 8 = 8 * k + i by omega] at this
      rw [this]
      exact BitVec.getLsbD_zero.symm
    · rw [BitVec.getLsbD_of_ge _ _ (by omega)]
      exact BitVec.getLsbD_zero.symm
