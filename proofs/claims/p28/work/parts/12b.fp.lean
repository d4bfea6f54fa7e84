/-! the quotient of two whole numbers is no NaN -/
theorem gp_mask (r : UInt64) : (r &&& 0x7fffffffffffffff).toNat = r.toNat % 2 ^ 63 := by
  rw [UInt64.toNat_and]
  exact Nat.and_two_pow_sub_one_eq_mod r.toNat 63
theorem gp_nan {x y : Int32} (h : y ≠ 0) : vf_n64 (FP.ddiv (FP.i2d x) (FP.i2d y)) := by
  have h1 := FP.Core.i2d_mag x
  have h2 := (FP.Core.i2d_big (FP.Core.int32_ne h)).1
  have h3 := FP.Core.ddiv_mag (a := FP.i2d x) (b := FP.i2d y) (K := 1056) (L := 1023) h1 h2 (FP.Core.i2d_big (FP.Core.int32_ne h)).2 (by decide) (by decide)
  show _ ≤ _
  rw [UInt64.le_iff_toNat_le, gp_mask]
  show _ ≤ 9218868437227405312
  have h4 : (FP.ddiv (FP.i2d x) (FP.i2d y)).toNat % 2 ^ 63 < (1056 + (1074 - 52 - 1) - 1023 + 3) * 2 ^ 52 := h3
  omega
/-- the gap: own and least makespan -/
def gapD (o b : Int) : UInt64 := if b = 0 then FP.dconst0 else FP.ddiv (FP.i2d (iI (o - b))) (FP.i2d (iI b))
