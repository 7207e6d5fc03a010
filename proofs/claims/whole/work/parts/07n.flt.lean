theorem zq64 {r : UInt64} (h : FP.dIsNaN r = false) : vf_n64 r := by
  have h1 : ¬ 9218868437227405312 < r.toNat % 2 ^ 63 := fun q => by
    have := (Jvm.FP.Core.isNaN_bits r).mpr q
    simp_all
  unfold vf_n64
  rw [UInt64.le_iff_toNat_le, UInt64.toNat_and]
  have e : (0x7fffffffffffffff : UInt64).toNat = 2 ^ 63 - 1 := by decide
  rw [e, Nat.and_two_pow_sub_one_eq_mod]
  have e2 : (0x7ff0000000000000 : UInt64).toNat = 9218868437227405312 := by decide
  omega
theorem zq32 {r : UInt32} (h : FP.fIsNaN r = false) : vf_n32 r := by
  have h1 : ¬ 2139095040 < r.toNat % 2 ^ 31 := fun q => by
    have := (Jvm.FP.Core.isNaN_bits32 r).mpr q
    simp_all
  unfold vf_n32
  rw [UInt32.le_iff_toNat_le, UInt32.toNat_and]
  have e : (0x7fffffff : UInt32).toNat = 2 ^ 31 - 1 := by decide
  rw [e, Nat.and_two_pow_sub_one_eq_mod]
  have e2 : (0x7f800000 : UInt32).toNat = 2139095040 := by decide
  omega
theorem zi_ne {b : Int} (hb : zR b) (h : b ≠ 0) : Int32.ofInt b ≠ 0 := by
  intro q
  have h1 := congrArg Int32.toInt q
  rw [Int32.toInt_ofInt_of_le (by omega) (by omega)] at h1
  exact h h1
/-- the answer of the load, of the mean -/
def zFq (a b : Int) : UInt32 := FP.fdiv (FP.i2f (Int32.ofInt a)) (FP.i2f (Int32.ofInt b))
def zDq (a b : Int) : UInt64 := FP.ddiv (FP.i2d (Int32.ofInt a)) (FP.i2d (Int32.ofInt b))
theorem zDq_n {a b : Int} (hb : zR b) (h : b ≠ 0) : FP.dIsNaN (zDq a b) = false :=
  Jvm.FP.Core.ddiv_out (Jvm.FP.Core.i2d_fin _).notNaN (Jvm.FP.Core.i2d_fin _) (fun q => Jvm.FP.Core.i2d_ne_zero (zi_ne hb h) ((Jvm.FP.Core.zero_bits2 _).mp q))
