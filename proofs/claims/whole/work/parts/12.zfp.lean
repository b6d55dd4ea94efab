/-! floats and doubles: NaN, finite, equal -/
theorem n64_of {r : UInt64} (h : FP.Core.val64 r ≠ .nan) : vf_n64 r := by
  unfold vf_n64
  rw [UInt64.le_iff_toNat_le, UInt64.toNat_and, show (0x7fffffffffffffff : UInt64).toNat = 2 ^ 63 - 1 from rfl, Nat.and_two_pow_sub_one_eq_mod]
  exact (FP.Core.ne_nan r).mp h
theorem n64_to {r : UInt64} (h : vf_n64 r) : FP.Core.val64 r ≠ .nan := by
  unfold vf_n64 at h
  rw [UInt64.le_iff_toNat_le, UInt64.toNat_and, show (0x7fffffffffffffff : UInt64).toNat = 2 ^ 63 - 1 from rfl, Nat.and_two_pow_sub_one_eq_mod] at h
  exact (FP.Core.ne_nan r).mpr h
theorem n32_of {r : UInt32} (h : FP.Core.val32 r ≠ .nan) : vf_n32 r := by
  unfold vf_n32
  rw [UInt32.le_iff_toNat_le, UInt32.toNat_and, show (0x7fffffff : UInt32).toNat = 2 ^ 31 - 1 from rfl, Nat.and_two_pow_sub_one_eq_mod]
  exact (FP.Core.ne_nan32 r).mp h
theorem n32_to {r : UInt32} (h : vf_n32 r) : FP.Core.val32 r ≠ .nan := by
  unfold vf_n32 at h
  rw [UInt32.le_iff_toNat_le, UInt32.toNat_and, show (0x7fffffff : UInt32).toNat = 2 ^ 31 - 1 from rfl, Nat.and_two_pow_sub_one_eq_mod] at h
  exact (FP.Core.ne_nan32 r).mpr h
theorem fz_nan64 {x : UInt64} (h : vf_n64 x) : (Op.cmpValue (FP.dcmp x x) CmpOp.l = 0) := by
  rw [show FP.dcmp x x = some .eq from FP.Core.dcmp_self (n64_to h)]
  rfl
theorem fz_nan32 {x : UInt32} (h : vf_n32 x) : (Op.cmpValue (FP.fcmp x x) CmpOp.l = 0) := by
  rw [show FP.fcmp x x = some .eq from FP.Core.fcmp_self (n32_to h)]
  rfl
theorem fz_l2f (v : Int64) : vf_n32 (FP.l2f v) := n32_of (FP.Core.l2f_fin v).ne_nan
theorem fz_l2d (v : Int64) : vf_n64 (FP.l2d v) := n64_of (FP.Core.l2d_fin v).ne_nan
theorem fz_f2d {a : UInt32} (h : FP.Core.FFin a) : FP.f2d a = FP.Core.f2d a := by
  unfold FP.f2d
  rw [if_neg (by rw [h.notNaN]; decide)]
theorem fz_f2dn {a : UInt32} (h : FP.Core.FFin a) : vf_n64 (FP.f2d a) := by
  rw [fz_f2d h]
  exact n64_of (FP.Core.f2d_fin h).ne_nan
theorem fz_fdiv (a b : Int32) (h : ¬ b = 0) : FP.Core.FFin (FP.fdiv (FP.i2f a) (FP.i2f b)) := by
  have h1 := FP.Core.i2f_mag a
  have h2 := FP.Core.i2f_big (FP.Core.int32_ne h)
  have h3 := FP.Core.fdiv_mag (a := FP.i2f a) (b := FP.i2f b) (K := 160) (L := 127) h1 h2.1 h2.2 (by decide) (by decide)
  exact FP.Core.fin_of_lt32 (K := 161) (by omega) (by decide)
theorem fz_ddiv (a b : Int32) (h : ¬ b = 0) : FP.Core.DFin (FP.ddiv (FP.i2d a) (FP.i2d b)) := by
  have h1 := FP.Core.i2d_mag a
  have h2 := FP.Core.i2d_big (FP.Core.int32_ne h)
  have h3 := FP.Core.ddiv_mag (a := FP.i2d a) (b := FP.i2d b) (K := 1056) (L := 1023) h1 h2.1 h2.2 (by decide) (by decide)
  exact FP.Core.fin_of_lt (K := 1057) (by omega) (by decide)
theorem fz_eq {x y : UInt64} (hx : FP.Core.DFin x) (hy : FP.Core.DFin y) : (Op.cmpValue (FP.dcmp x y) .l = 0) ↔ (x = y ∨ (x.toNat % 2 ^ 63 = 0 ∧ y.toNat % 2 ^ 63 = 0)) := by
  rw [show FP.dcmp x y = some (compare (FP.Core.dkey x) (FP.Core.dkey y)) from FP.Core.dcmp_key hx.ne_nan hy.ne_nan]
  have h1 : (Op.cmpValue (some (compare (FP.Core.dkey x) (FP.Core.dkey y))) CmpOp.l = 0) ↔ FP.Core.dkey x = FP.Core.dkey y := by
    rw [← Int.compare_eq_eq]
    cases compare (FP.Core.dkey x) (FP.Core.dkey y) <;> decide
  rw [h1, ← UInt64.toNat_inj]
  have l1 := x.toNat_lt
  have l2 := y.toNat_lt
  unfold FP.Core.dkey
  split <;> split <;> omega
