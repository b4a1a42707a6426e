/-! words: shifts of longs -/
theorem shl_mul (x y : Int64) (k : Nat) (h1 : (y.toBitVec.smod 64).toNat = k) (z : Int64) (hz : z.toBitVec = BitVec.twoPow 64 k) : x <<< y = x * z := by
  apply Int64.toBitVec.inj
  rw [Int64.toBitVec_shiftLeft, Int64.toBitVec_mul, BitVec.shiftLeft_eq', h1, hz, BitVec.shiftLeft_eq_mul_twoPow]
theorem shl9 (x : Int64) : x <<< ((9 : Int32).toInt64 &&& 63) = x * 512 := shl_mul x _ 9 (by decide) 512 (by decide)
theorem shl20 (x : Int64) : x <<< ((20 : Int32).toInt64 &&& 63) = x * 1048576 := shl_mul x _ 20 (by decide) 1048576 (by decide)
theorem b511 {w : Nat} (hw : 9 ≤ w) {i : Nat} : (511#w).getLsbD i = decide (i < 9) := by
  rw [BitVec.getLsbD_ofNat, show (511 : Nat) = 2 ^ 9 - 1 by decide, Nat.testBit_two_pow_sub_one]
  by_cases h : i < 9
  · simp [h]; omega
  · simp [h]
theorem pos_bv (t : BitVec 64) (k : Nat) (hk : k ≤ 38) : ((t >>> k).signExtend 32) &&& 511#32 = ((t.sshiftRight k) &&& 511#64).signExtend 32 := by
  apply BitVec.eq_of_getLsbD_eq
  intro i hi
  rw [BitVec.getLsbD_and, b511 (by decide), BitVec.getLsbD_signExtend, BitVec.getLsbD_signExtend, BitVec.getLsbD_and, b511 (by decide), BitVec.getLsbD_ushiftRight, BitVec.getLsbD_sshiftRight]
  have h1 : i < 64 := by omega
  by_cases h : i < 9
  · have h2 : k + i < 64 := by omega
    have h3 : ¬ 64 ≤ i := by omega
    simp [h, hi, h1, h2, h3]
  · simp [h, hi, h1]
theorem pos_eq (t : Int64) {p : Nat} (hp : p < 3) : ((t.toUInt64 >>> ((20 + 9 * nI p).toInt64.toUInt64 &&& Int64.toUInt64 63)).toInt64).toInt32 &&& 511 = x_pos t (nI p) := by
  have key : ∀ s : Int32, ∀ k : Nat, k ≤ 38 → ((s.toInt64.toUInt64 &&& Int64.toUInt64 63).toBitVec % 64).toNat = k → ((s.toInt64 &&& 63).toBitVec.smod 64).toNat = k → ((t.toUInt64 >>> (s.toInt64.toUInt64 &&& Int64.toUInt64 63)).toInt64).toInt32 &&& 511 = ((t >>> (s.toInt64 &&& 63)) &&& 511).toInt32 := by
    intro s k hk h1 h2
    apply Int32.toBitVec.inj
    have := pos_bv t.toBitVec k hk
    rw [Int32.toBitVec_and, Int64.toBitVec_toInt32, Int64.toBitVec_toInt32, Int64.toBitVec_and, Int64.toBitVec_shiftRight]
    rw [show ((t.toUInt64 >>> (s.toInt64.toUInt64 &&& Int64.toUInt64 63)).toInt64).toBitVec = t.toBitVec >>> k by
      show (t.toUInt64 >>> (s.toInt64.toUInt64 &&& Int64.toUInt64 63)).toBitVec = _
      rw [UInt64.toBitVec_shiftRight, BitVec.ushiftRight_eq', h1]
      rfl]
    rw [BitVec.sshiftRight_eq', h2]
    exact this
  unfold x_pos
  rcases (show p = 0 ∨ p = 1 ∨ p = 2 by omega) with rfl | rfl | rfl
  · exact key (20 + 9 * nI 0) 20 (by decide) (by decide) (by decide)
  · exact key (20 + 9 * nI 1) 29 (by decide) (by decide) (by decide)
  · exact key (20 + 9 * nI 2) 38 (by decide) (by decide) (by decide)
theorem hi_eq {t : Int64} (h : ¬ t.toInt < (0 : Int64).toInt) : (t.toUInt64 >>> ((20 : Int32).toInt64.toUInt64 &&& Int64.toUInt64 63)).toInt64 = x_hi t := by
  apply Int64.toBitVec.inj
  unfold x_hi
  rw [Int64.toBitVec_shiftRight]
  show (t.toUInt64 >>> ((20 : Int32).toInt64.toUInt64 &&& Int64.toUInt64 63)).toBitVec = _
  rw [UInt64.toBitVec_shiftRight, BitVec.ushiftRight_eq', BitVec.sshiftRight_eq']
  have hm : t.toBitVec.msb = false := by
    have h1 : ¬ t.toBitVec.toInt < 0 := h
    rw [BitVec.msb_eq_toInt]
    exact decide_eq_false h1
  rw [BitVec.sshiftRight_eq_of_msb_false hm]
  rfl
theorem tok_eq (a b c : Int32) : ((((0 : Int64) <<< ((9 : Int32).toInt64 &&& 63) + c.toInt64) <<< ((9 : Int32).toInt64 &&& 63) + b.toInt64) <<< ((9 : Int32).toInt64 &&& 63) + a.toInt64) = x_tokL a b c := by
  rw [shl9, shl9, shl9]
  unfold x_tokL
  rw [Int64.zero_mul, Int64.zero_add, Int64.add_mul, Int64.mul_assoc, show (512 : Int64) * 512 = 262144 by decide, Int64.mul_comm c.toInt64, Int64.mul_comm b.toInt64, Int64.add_comm (262144 * c.toInt64), Int64.add_comm _ a.toInt64, ← Int64.add_assoc]
