/-! ===== the two quotients ===== -/
theorem le32 {x : UInt32} (h : FP.Core.fIsNaN x = false) : x &&& 0x7fffffff ≤ 0x7f800000 := by
  have h1 : ¬ 2139095040 < x.toNat % 2 ^ 31 := fun h2 => by
    rw [(FP.Core.isNaN_bits32 x).mpr h2] at h
    cases h
  rw [UInt32.le_iff_toNat_le, UInt32.toNat_and, show (0x7fffffff : UInt32).toNat = 2 ^ 31 - 1 by decide +kernel, Nat.and_two_pow_sub_one_eq_mod, show (0x7f800000 : UInt32).toNat = 2139095040 by decide +kernel]
  omega
theorem le64 {x : UInt64} (h : FP.Core.dIsNaN x = false) : x &&& 0x7fffffffffffffff ≤ 0x7ff0000000000000 := by
  have h1 : ¬ 9218868437227405312 < x.toNat % 2 ^ 63 := fun h2 => by
    rw [(FP.Core.isNaN_bits x).mpr h2] at h
    cases h
  rw [UInt64.le_iff_toNat_le, UInt64.toNat_and, show (0x7fffffffffffffff : UInt64).toNat = 2 ^ 63 - 1 by decide +kernel, Nat.and_two_pow_sub_one_eq_mod, show (0x7ff0000000000000 : UInt64).toNat = 9218868437227405312 by decide +kernel]
  omega
theorem q32 {a b : Int32} (hb : ¬ b = 0) : FP.Core.fIsNaN (FP.fdiv (FP.i2f a) (FP.i2f b)) = false :=
  FP.Core.fdiv_out (FP.Core.i2f_fin a).notNaN (FP.Core.i2f_fin b) (fun h => FP.Core.i2f_ne_zero hb ((FP.Core.zero_bits232 _).mp h))
theorem q64 {a b : Int32} (hb : ¬ b = 0) : FP.Core.dIsNaN (FP.ddiv (FP.i2d a) (FP.i2d b)) = false :=
  FP.Core.ddiv_out (FP.Core.i2d_fin a).notNaN (FP.Core.i2d_fin b) (fun h => FP.Core.i2d_ne_zero hb ((FP.Core.zero_bits2 _).mp h))
theorem w32 {x : UInt32} (h : FP.Core.fIsNaN x = false) : FP.Core.dIsNaN (FP.f2d x) = false := by
  have := FP.f2d_nan x
  exact this.trans h
theorem dc_self {y : UInt64} (h : FP.Core.dIsNaN y = false) : FP.dcmp y y = some .eq := FP.Core.dcmp_self ((FP.Core.notNaN_iff y).mp h)
