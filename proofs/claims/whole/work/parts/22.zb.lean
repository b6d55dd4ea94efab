/-! a number's exponent, as the class and the reference look at it -/
theorem sh_cz : ∀ c, c < 64 → (((nI c).toInt64 &&& 63).toBitVec.smod 64).toNat = c := by decide +kernel
theorem shr_intz (v : Int64) {c : Nat} (hc : c < 64) : (v >>> ((nI c).toInt64 &&& 63)).toInt = v.toInt / ((2 ^ c : Nat) : Int) := by
  have e : (v >>> ((nI c).toInt64 &&& 63)).toBitVec = v.toBitVec.sshiftRight c := by
    rw [Int64.toBitVec_shiftRight, BitVec.sshiftRight_eq', sh_cz c hc]
  show (v >>> ((nI c).toInt64 &&& 63)).toBitVec.toInt = _
  rw [e, BitVec.toInt_sshiftRight, Int.shiftRight_eq_div_pow]
  rfl
theorem lN_inj2 {a b : Nat} (ha : a < 2 ^ 64) (hb : b < 2 ^ 64) : lN a = lN b ↔ a = b := by
  constructor
  · intro h
    have := congrArg (fun x : Int64 => x.toBitVec.toNat) h
    simp only [lN_nat ha, lN_nat hb] at this
    exact this
  · intro h
    rw [h]
theorem exp_64 (v : Int64) {t : Nat} (hv : v = lN t) (ht : t < 2 ^ 64) : ((v >>> ((52 : Int32).toInt64 &&& 63)) &&& 2047 = 2047) ↔ t / 2 ^ 52 % 2048 = 2047 := by
  have h1 := shr_intz v (c := 52) (by decide)
  rw [show nI 52 = (52 : Int32) from rfl] at h1
  obtain ⟨m, hm, e⟩ := wb_of (v >>> ((52 : Int32).toInt64 &&& 63))
  rw [e] at h1 ⊢
  rw [show (2047 : Int64) = lN (2048 - 1) from rfl, g_mask (s := 11) (p := 2048) rfl (by decide) hm, lN_inj2 (by omega) (by decide)]
  rw [hv, lN_ti hm, lN_ti ht] at h1
  simp only [Nat.reducePow, Nat.reduceSub] at h1 hm ht ⊢
  split at h1 <;> split at h1 <;> omega
theorem exp_32 (v : Int64) {t : Nat} (hv : v.toInt = if t < 2 ^ 31 then (t : Int) else (t : Int) - 2 ^ 32) (ht : t < 2 ^ 32) : ((v >>> ((23 : Int32).toInt64 &&& 63)) &&& 255 = 255) ↔ t / 2 ^ 23 % 256 = 255 := by
  have h1 := shr_intz v (c := 23) (by decide)
  rw [show nI 23 = (23 : Int32) from rfl] at h1
  obtain ⟨m, hm, e⟩ := wb_of (v >>> ((23 : Int32).toInt64 &&& 63))
  rw [e] at h1 ⊢
  rw [show (255 : Int64) = lN (256 - 1) from rfl, g_mask (s := 8) (p := 256) rfl (by decide) hm, lN_inj2 (by omega) (by decide)]
  rw [hv, lN_ti hm] at h1
  simp only [Nat.reducePow, Nat.reduceSub] at h1 hm ht ⊢
  split at h1 <;> split at h1 <;> omega
theorem u32_ti (r : UInt32) : r.toInt32.toInt64.toInt = if r.toNat < 2 ^ 31 then (r.toNat : Int) else (r.toNat : Int) - 2 ^ 32 := by
  rw [Int32.toInt_toInt64]
  have c := BitVec.toInt_eq_toNat_cond r.toBitVec
  show r.toBitVec.toInt = _
  rw [c]
  have e : r.toBitVec.toNat = r.toNat := rfl
  have hl := r.toNat_lt
  rw [e]
  simp only [Nat.reducePow] at hl ⊢
  split <;> split <;> omega
theorem u64_lN (x : UInt64) : x.toInt64 = lN x.toNat := by
  show x.toInt64 = (UInt64.ofNat x.toNat).toInt64
  rw [UInt64.ofNat_toNat]
/-- finite floats, finite doubles: by the exponent -/
theorem fin_e64 (x : UInt64) : FP.Core.DFin x ↔ ¬ (x.toInt64 >>> ((52 : Int32).toInt64 &&& 63)) &&& 2047 = 2047 := by
  have hl := x.toNat_lt
  rw [FP.Core.fin_bits, exp_64 _ (u64_lN x) hl]
  simp only [Nat.reducePow] at hl ⊢
  omega
theorem fin_e32 (r : UInt32) : FP.Core.FFin r ↔ ¬ (r.toInt32.toInt64 >>> ((23 : Int32).toInt64 &&& 63)) &&& 255 = 255 := by
  have hl := r.toNat_lt
  rw [FP.Core.fin_bits32, exp_32 _ (u32_ti r) hl]
  simp only [Nat.reducePow] at hl ⊢
  omega
theorem fz_sn32 {r : UInt32} (h : FP.Core.FFin r) : vn_sni2f r.toInt32 = false := by
  have h1 := n32_of h.ne_nan
  unfold vf_n32 at h1
  unfold vn_sni2f
  rw [UInt32.toUInt32_toInt32]
  simp only [gt_iff_lt, decide_eq_false (show ¬ (0x7f800000 : UInt32) < r &&& 0x7fffffff from fun q => absurd (UInt32.lt_of_lt_of_le q h1) (UInt32.lt_irrefl _)), Bool.false_and]
theorem fz_sn64 {x : UInt64} (h : FP.Core.DFin x) : vn_snl2d x.toInt64 = false := by
  have h1 := n64_of h.ne_nan
  unfold vf_n64 at h1
  unfold vn_snl2d
  rw [UInt64.toUInt64_toInt64]
  simp only [gt_iff_lt, decide_eq_false (show ¬ (0x7ff0000000000000 : UInt64) < x &&& 0x7fffffffffffffff from fun q => absurd (UInt64.lt_of_lt_of_le q h1) (UInt64.lt_irrefl _)), Bool.false_and]
