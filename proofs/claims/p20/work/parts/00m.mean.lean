/-! The mean is a number -/
theorem mean_hN (x : Int32) (j : Nat) (h1 : 1 ≤ j) (h2 : j ≤ 12) : vf_n64 (FP.ddiv (FP.i2d x) (FP.i2d (nI j))) := by
  have hne : nI j ≠ 0 := fun h => by
    rw [← nI_0] at h
    have := (nI_eq (a := j) (b := 0) (by omega) (by omega)).mp h
    omega
  have hz : ¬ FP.Core.DZero (FP.Core.i2d (nI j)) := fun h => FP.Core.i2d_ne_zero hne ((FP.Core.zero_bits2 _).mp h)
  have hf : FP.Core.dIsNaN (FP.Core.i2d x) = false := by
    have h := (FP.Core.fin_bits _).mp (FP.Core.i2d_fin x)
    rw [FP.Core.notNaN_iff, FP.Core.ne_nan]
    omega
  have hn : FP.Core.dIsNaN (FP.ddiv (FP.i2d x) (FP.i2d (nI j))) = false := FP.Core.ddiv_out hf (FP.Core.i2d_fin _) hz
  rw [FP.Core.notNaN_iff, FP.Core.ne_nan] at hn
  unfold vf_n64
  rw [UInt64.le_iff_toNat_le, UInt64.toNat_and]
  have e1 : (0x7fffffffffffffff : UInt64).toNat = 2 ^ 63 - 1 := by decide
  have e2 : (0x7ff0000000000000 : UInt64).toNat = 9218868437227405312 := by decide
  rw [e1, e2, Nat.and_two_pow_sub_one_eq_mod]
  exact hn
