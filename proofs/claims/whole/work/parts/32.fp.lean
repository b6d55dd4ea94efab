/-! floats and doubles: the bits of a whole number -/
theorem log2_lt {n t : Nat} (h0 : 0 < n) (h : n < 2 ^ t) : n.log2 < t := (Nat.log2_lt (by omega)).mpr h
theorem log2_le {n : Nat} (h0 : 0 < n) : 2 ^ n.log2 ≤ n := Nat.log2_self_le (by omega)
theorem lt_log2 (n : Nat) : n < 2 ^ (n.log2 + 1) := Nat.lt_log2_self
theorem fp_leading {n : Nat} (h0 : 0 < n) : FP.Core.leading n 1 = (n.log2 : Int) := by
  unfold FP.Core.leading
  have h1 : Nat.log2 1 = 0 := by decide
  simp only [h1, Int.sub_zero, Int.ofNat_zero, Int.toNat_natCast, Nat.one_mul]
  have h2 : (-(n.log2 : Int)).toNat = 0 := by omega
  rw [h2]
  have := log2_le h0
  simp only [Int.cast_ofNat_Int, Int.sub_zero, Nat.pow_zero, Nat.mul_one]
  first | rw [if_pos this] | simp [this]
/-- units of the last of p digits, t the place of the leading one -/
def fpRnd (num t p : Nat) : Nat := if t < p then num * 2 ^ (p - 1 - t) else FP.Core.nearest num (2 ^ (t - (p - 1)))
theorem nearest_one (a : Nat) : FP.Core.nearest a 1 = a := by
  unfold FP.Core.nearest
  simp
  omega
theorem nearest_ge (a d : Nat) : a / d ≤ FP.Core.nearest a d := by
  unfold FP.Core.nearest
  split
  · omega
  · split <;> omega
theorem nearest_le (a d : Nat) : FP.Core.nearest a d ≤ a / d + 1 := by
  unfold FP.Core.nearest
  split
  · omega
  · split <;> omega
theorem fpRnd_in {num p : Nat} (h0 : 0 < num) (hp : 1 ≤ p) : 2 ^ (p - 1) ≤ fpRnd num num.log2 p ∧ fpRnd num num.log2 p ≤ 2 ^ p := by
  have h1 := log2_le h0
  have h2 := lt_log2 num
  unfold fpRnd
  split
  next h =>
    have e1 : 2 ^ (p - 1) = 2 ^ num.log2 * 2 ^ (p - 1 - num.log2) := by rw [← Nat.pow_add]; congr 1; omega
    have e2 : 2 ^ p = 2 ^ (num.log2 + 1) * 2 ^ (p - 1 - num.log2) := by rw [← Nat.pow_add]; congr 1; omega
    rw [e1, e2]
    exact ⟨Nat.mul_le_mul_right _ h1, Nat.mul_le_mul_right _ (by omega)⟩
  next h =>
    have hd : 0 < 2 ^ (num.log2 - (p - 1)) := Nat.pow_pos (by decide)
    have e1 : 2 ^ num.log2 = 2 ^ (p - 1) * 2 ^ (num.log2 - (p - 1)) := by rw [← Nat.pow_add]; congr 1; omega
    have e2 : 2 ^ (num.log2 + 1) = 2 ^ p * 2 ^ (num.log2 - (p - 1)) := by rw [← Nat.pow_add]; congr 1; omega
    have g1 : 2 ^ (p - 1) ≤ num / 2 ^ (num.log2 - (p - 1)) := by rw [Nat.le_div_iff_mul_le hd, ← e1]; exact h1
    have g2 : num / 2 ^ (num.log2 - (p - 1)) < 2 ^ p := by rw [Nat.div_lt_iff_lt_mul hd, ← e2]; exact h2
    have g3 := nearest_ge num (2 ^ (num.log2 - (p - 1)))
    have g4 := nearest_le num (2 ^ (num.log2 - (p - 1)))
    omega
theorem pow_pred {p : Nat} (hp : 1 ≤ p) : 2 ^ p = 2 * 2 ^ (p - 1) := by
  obtain ⟨q, rfl⟩ : ∃ q, p = q + 1 := ⟨p - 1, by omega⟩
  rw [Nat.pow_succ]
  simp [Nat.mul_comm]
/-- what settle and encode make of p digits at a place -/
theorem enc_settle (f : FP.Core.Fmt) (hp : 2 ≤ f.p) (s : Bool) (c : Nat) (q : Int) (h1 : f.tails ≤ c) (h2 : c ≤ 2 ^ f.p) (hq : f.qmin ≤ q) (hq2 : q + 1 ≤ f.qmax) :
    FP.Core.encode f (FP.Core.settle f s c q) = s.toNat * f.exps * f.tails + ((q - f.qmin).toNat * f.tails + c) := by
  have ht : 2 ^ f.p = 2 * f.tails := pow_pred (by omega)
  have htp : 0 < f.tails := Nat.pow_pos (by decide)
  unfold FP.Core.settle
  split
  next h =>
    unfold FP.Core.bound
    rw [if_pos (by omega)]
    unfold FP.Core.encode FP.Core.assemble
    simp only
    rw [if_neg (by omega)]
    have : ((q - f.qmin).toNat + 1) * f.tails = (q - f.qmin).toNat * f.tails + f.tails := Nat.succ_mul _ _
    rw [Nat.add_mul, this]
    omega
  next h =>
    have hc : c = 2 * f.tails := by omega
    unfold FP.Core.bound
    rw [if_pos (by omega)]
    unfold FP.Core.encode FP.Core.assemble
    simp only
    rw [if_neg (by omega)]
    have e : (q + 1 - f.qmin).toNat = (q - f.qmin).toNat + 1 := by omega
    rw [e, Nat.add_mul, Nat.succ_mul, Nat.succ_mul, hc]
    omega
theorem enc_int (f : FP.Core.Fmt) (hp : 2 ≤ f.p) (he : f.p ≤ f.emax) (s : Bool) (num : Nat) (h0 : 0 < num) (ht : num.log2 + 1 ≤ f.emax) :
    FP.Core.encode f (FP.Core.roundRatio f s num 1 0) = s.toNat * f.exps * f.tails + ((num.log2 + f.emax - 1) * f.tails + fpRnd num num.log2 f.p) := by
  unfold FP.Core.roundRatio
  rw [if_neg (by omega)]
  unfold FP.Core.roundAt
  have hq : FP.Core.quantum f num 1 0 = (num.log2 : Int) - ((f.p : Int) - 1) := by
    unfold FP.Core.quantum
    rw [fp_leading h0]
    unfold FP.Core.Fmt.qmin
    omega
  rw [hq]
  have hn : FP.Core.nearest (FP.Core.unitsNum num 0 ((num.log2 : Int) - ((f.p : Int) - 1))) (FP.Core.unitsDen 1 0 ((num.log2 : Int) - ((f.p : Int) - 1))) = fpRnd num num.log2 f.p := by
    unfold FP.Core.unitsNum FP.Core.unitsDen fpRnd
    split
    next h =>
      have e1 : ((0 : Int) - ((num.log2 : Int) - ((f.p : Int) - 1))).toNat = f.p - 1 - num.log2 := by omega
      have e2 : ((num.log2 : Int) - ((f.p : Int) - 1) - 0).toNat = 0 := by omega
      rw [e1, e2, Nat.pow_zero, Nat.mul_one, nearest_one]
    next h =>
      have e1 : ((0 : Int) - ((num.log2 : Int) - ((f.p : Int) - 1))).toNat = 0 := by omega
      have e2 : ((num.log2 : Int) - ((f.p : Int) - 1) - 0).toNat = num.log2 - (f.p - 1) := by omega
      rw [e1, e2, Nat.pow_zero, Nat.mul_one, Nat.one_mul]
  rw [hn]
  have hin := fpRnd_in (p := f.p) h0 (by omega)
  rw [enc_settle f hp s _ _ hin.1 hin.2 (by unfold FP.Core.Fmt.qmin; omega) (by unfold FP.Core.Fmt.qmax; omega)]
  have e3 : ((num.log2 : Int) - ((f.p : Int) - 1) - f.qmin).toNat = num.log2 + f.emax - 1 := by unfold FP.Core.Fmt.qmin; omega
  rw [e3]
