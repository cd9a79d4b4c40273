/-! a weight out of the script is a number -/
theorem fm_ok (v : Int32) : vf_n32 (FP.fmul (FP.i2f v) 1040187392) := by
  have h := FP.Core.fmul_mag (a := FP.i2f v) (b := 1040187392) (Ka := 160) (Kb := 125) (FP.Core.i2f_mag v) (by decide) (by decide) (by decide)
  have h2 : (FP.fmul (FP.i2f v) 1040187392).toNat % 2 ^ 31 < (160 + 125 - 129 + 3) * 2 ^ 23 := h
  unfold vf_n32
  rw [UInt32.le_iff_toNat_le, UInt32.toNat_and]
  have h3 : (0x7fffffff : UInt32).toNat = 2 ^ 31 - 1 := by decide
  have h4 : (0x7f800000 : UInt32).toNat = 2139095040 := by decide
  rw [h3, h4, Nat.and_two_pow_sub_one_eq_mod]
  omega
