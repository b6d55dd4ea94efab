/-! quotients, and doubles of floats: their bits -/
theorem enc_fin (f : FP.Core.Fmt) (s : Bool) {c : Nat} {q : Int} {e : Nat} (hc : f.tails ≤ c) (hq : q = f.qmin + (e : Int)) : FP.Core.encode f (.fin s c q) = s.toNat * f.exps * f.tails + (e * f.tails + c) := by
  unfold FP.Core.encode FP.Core.assemble
  simp only
  rw [if_neg (by omega)]
  have e1 : (q - f.qmin).toNat = e := by omega
  have e2 : (e + 1) * f.tails = e * f.tails + f.tails := Nat.succ_mul _ _
  rw [e1, Nat.add_mul, e2]
  omega
/-- a finite float's bits as a double's, without the sign -/
def f2dM (E T : Nat) : Nat := if E = 0 then (if T = 0 then 0 else (T.log2 + 873) * 2 ^ 52 + T * 2 ^ (52 - T.log2)) else (E + 896) * 2 ^ 52 + T * 2 ^ 29
theorem f2d_bits {n : Nat} (hn : n < 2 ^ 32) (hE : ¬ n / 2 ^ 23 % 256 = 255) : FP.Core.convert FP.Core.b32 FP.Core.b64 n = (n / 2 ^ 31) * 2 ^ 63 + f2dM (n / 2 ^ 23 % 256) (n % 2 ^ 23) := by
  show FP.Core.encode FP.Core.b64 (FP.Core.round FP.Core.b64 (FP.Core.decode FP.Core.b32 n)) = _
  have hS : (FP.Core.fieldS FP.Core.b32 n).toNat = n / 2 ^ 31 := by
    have h1 : FP.Core.fieldS FP.Core.b32 n = (n / 8388608 / 256 % 2 == 1) := rfl
    rw [h1]
    simp only [Nat.reducePow] at hn ⊢
    have h2 : n / 8388608 / 256 % 2 = n / 2147483648 := by omega
    rw [h2]
    have h3 : n / 2147483648 = 0 ∨ n / 2147483648 = 1 := by omega
    rcases h3 with h | h <;> rw [h] <;> rfl
  have hS1 : n / 2 ^ 31 ≤ 1 := by simp only [Nat.reducePow] at hn ⊢; omega
  have hTl : n % 2 ^ 23 < 2 ^ 23 := Nat.mod_lt _ (by decide)
  unfold FP.Core.decode
  rw [show FP.Core.fieldE FP.Core.b32 n = n / 2 ^ 23 % 256 from rfl, show FP.Core.fieldT FP.Core.b32 n = n % 2 ^ 23 from rfl, if_neg (show ¬ n / 2 ^ 23 % 256 = FP.Core.b32.exps - 1 from hE)]
  have hEl : n / 2 ^ 23 % 256 < 256 := Nat.mod_lt _ (by decide)
  generalize FP.Core.fieldS FP.Core.b32 n = s at hS
  generalize n / 2 ^ 23 % 256 = E at hE hEl ⊢
  generalize n % 2 ^ 23 = T at hTl ⊢
  generalize n / 2 ^ 31 = S at hS hS1 ⊢
  have t64 : FP.Core.b64.tails = 2 ^ 52 := FP.Core.tails_b64
  have e64 : FP.Core.b64.exps = 2048 := rfl
  have q64 : FP.Core.b64.qmin = -1074 := FP.Core.qmin_b64
  have x64 : FP.Core.b64.qmax = 971 := by decide
  have q32 : FP.Core.b32.qmin = -149 := by decide
  have p64 : FP.Core.b64.p = 53 := rfl
  unfold f2dM
  by_cases h0 : E = 0
  · rw [if_pos h0, if_pos h0]
    show FP.Core.encode FP.Core.b64 (FP.Core.roundRatio FP.Core.b64 s T 1 FP.Core.b32.qmin) = _
    by_cases hT : T = 0
    · rw [if_pos hT, hT]
      unfold FP.Core.roundRatio
      rw [if_pos rfl]
      unfold FP.Core.encode
      simp only
      rw [if_pos (by rw [t64]; decide)]
      show (s.toNat * FP.Core.b64.exps + 0) * FP.Core.b64.tails + 0 = _
      rw [t64, e64, hS]
      omega
    · rw [if_neg hT]
      have hl := log2_lt (t := 23) (by omega) hTl
      have h1 := log2_le (n := T) (by omega)
      have h2 := lt_log2 T
      have e53 : 2 ^ (T.log2 + 1) * 2 ^ (52 - T.log2) = 2 ^ 53 := by rw [← Nat.pow_add]; congr 1; omega
      have e52 : 2 ^ T.log2 * 2 ^ (52 - T.log2) = 2 ^ 52 := by rw [← Nat.pow_add]; congr 1; omega
      have hp : 0 < 2 ^ (52 - T.log2) := Nat.pow_pos (by decide)
      have c1 : T * 2 ^ (52 - T.log2) < 2 ^ 53 := by rw [← e53]; exact Nat.mul_lt_mul_of_pos_right h2 hp
      have c2 : 2 ^ 52 ≤ T * 2 ^ (52 - T.log2) := by rw [← e52]; exact Nat.mul_le_mul_right _ h1
      rw [FP.Core.roundRatio_exact FP.Core.good_b64 (c := T * 2 ^ (52 - T.log2)) (q := -149 - ((52 - T.log2 : Nat) : Int)) (by decide) ⟨by rw [p64]; exact c1, by rw [q64]; omega, by rw [x64]; omega, Or.inr (by rw [t64]; exact c2)⟩ ?_]
      · rw [enc_fin FP.Core.b64 s (e := T.log2 + 873) (by rw [t64]; exact c2) (by rw [q64]; omega), t64, e64, hS]
        simp only [Nat.reducePow]
        omega
      · rw [q32, show ((-149 : Int) - (-149 - ((52 - T.log2 : Nat) : Int))).toNat = 52 - T.log2 by omega, show ((-149 - ((52 - T.log2 : Nat) : Int)) - (-149 : Int)).toNat = 0 by omega]
        simp
  · rw [if_neg h0, if_neg h0]
    show FP.Core.encode FP.Core.b64 (FP.Core.roundRatio FP.Core.b64 s (FP.Core.b32.tails + T) 1 (FP.Core.b32.qmin + ((E : Int) - 1))) = _
    rw [show FP.Core.b32.tails = 2 ^ 23 from rfl, q32]
    have c1 : (2 ^ 23 + T) * 2 ^ 29 < 2 ^ 53 := by simp only [Nat.reducePow] at hTl ⊢; omega
    have c2 : 2 ^ 52 ≤ (2 ^ 23 + T) * 2 ^ 29 := by simp only [Nat.reducePow]; omega
    rw [FP.Core.roundRatio_exact FP.Core.good_b64 (c := (2 ^ 23 + T) * 2 ^ 29) (q := -149 + ((E : Int) - 1) - 29) (by decide) ⟨by rw [p64]; exact c1, by rw [q64]; omega, by rw [x64]; omega, Or.inr (by rw [t64]; exact c2)⟩ ?_]
    · rw [enc_fin FP.Core.b64 s (e := E + 895) (by rw [t64]; exact c2) (by rw [q64]; omega), t64, e64, hS]
      simp only [Nat.reducePow]
      omega
    · rw [show (-149 + ((E : Int) - 1) - (-149 + ((E : Int) - 1) - 29)).toNat = 29 by omega, show (-149 + ((E : Int) - 1) - 29 - (-149 + ((E : Int) - 1))).toNat = 0 by omega]
      simp
/-! a quotient's digits -/
def qK (A B : Nat) : Int := (A.log2 : Int) - (B.log2 : Int)
def qU (A B : Nat) : Nat := B * 2 ^ (qK A B).toNat
def qO0 (A B : Nat) : Nat := A * 2 ^ (-(qK A B)).toNat
def qO (A B : Nat) : Nat := if qO0 A B < qU A B then 2 * qO0 A B else qO0 A B
theorem q_lead (A B : Nat) : FP.Core.leading A B = if qO0 A B < qU A B then qK A B - 1 else qK A B := by
  unfold FP.Core.leading
  show (if qU A B ≤ qO0 A B then qK A B else qK A B - 1) = _
  by_cases h : qO0 A B < qU A B
  · rw [if_pos h, if_neg (by omega)]
  · rw [if_neg h, if_pos (by omega)]
theorem q_rng {A B : Nat} (hA : 0 < A) (hB : 0 < B) (hA2 : A < 2 ^ 33) (hB2 : B < 2 ^ 33) : 0 < qU A B ∧ qU A B ≤ qO A B ∧ qO A B < 2 * qU A B ∧ qU A B < 2 ^ 34 ∧ qO0 A B < 2 ^ 34 := by
  have a1 := log2_le hA
  have a2 := lt_log2 A
  have b1 := log2_le hB
  have b2 := lt_log2 B
  have la := log2_lt (t := 33) hA hA2
  have lb := log2_lt (t := 33) hB hB2
  obtain ⟨t, ht, o1, o2, u1, u2⟩ : ∃ t, t < 33 ∧ 2 ^ t ≤ qO0 A B ∧ qO0 A B < 2 * 2 ^ t ∧ 2 ^ t ≤ qU A B ∧ qU A B < 2 * 2 ^ t := by
    unfold qO0 qU qK
    have sc : ∀ {x m d : Nat}, 2 ^ m ≤ x → x < 2 ^ (m + 1) → 2 ^ (m + d) ≤ x * 2 ^ d ∧ x * 2 ^ d < 2 * 2 ^ (m + d) := fun {x m d} h1 h2 => by
      have hd : 0 < 2 ^ d := Nat.pow_pos (by decide)
      refine ⟨by rw [Nat.pow_add]; exact Nat.mul_le_mul_right _ h1, ?_⟩
      have := Nat.mul_lt_mul_of_pos_right h2 hd
      rw [Nat.pow_succ] at this
      rw [Nat.pow_add]
      calc x * 2 ^ d < 2 ^ m * 2 * 2 ^ d := this
        _ = 2 * (2 ^ m * 2 ^ d) := by ac_rfl
    rcases Nat.le_total B.log2 A.log2 with h | h
    · refine ⟨A.log2, la, ?_⟩
      rw [show ((A.log2 : Int) - (B.log2 : Int)).toNat = A.log2 - B.log2 by omega, show (-((A.log2 : Int) - (B.log2 : Int))).toNat = 0 by omega]
      have x := sc (d := A.log2 - B.log2) b1 b2
      rw [show B.log2 + (A.log2 - B.log2) = A.log2 by omega] at x
      rw [Nat.pow_succ] at a2
      exact ⟨by omega, by omega, x.1, x.2⟩
    · refine ⟨B.log2, lb, ?_⟩
      rw [show ((A.log2 : Int) - (B.log2 : Int)).toNat = 0 by omega, show (-((A.log2 : Int) - (B.log2 : Int))).toNat = B.log2 - A.log2 by omega]
      have x := sc (d := B.log2 - A.log2) a1 a2
      rw [show A.log2 + (B.log2 - A.log2) = B.log2 by omega] at x
      rw [Nat.pow_succ] at b2
      exact ⟨x.1, x.2, by omega, by omega⟩
  have hp : 2 ^ t ≤ 2 ^ 32 := Nat.pow_le_pow_right (by decide) (by omega)
  have hp0 : 0 < 2 ^ t := Nat.pow_pos (by decide)
  simp only [Nat.reducePow] at hp ⊢
  unfold qO
  split <;> omega
/-- the bits of A by B, rounded -/
theorem div_enc (f : FP.Core.Fmt) (hp : 2 ≤ f.p) (he : 34 ≤ f.emax) (s : Bool) {A B : Nat} (hA : 0 < A) (hB : 0 < B) (hA2 : A < 2 ^ 33) (hB2 : B < 2 ^ 33) :
    FP.Core.encode f (FP.Core.roundRatio f s A B 0) = s.toNat * f.exps * f.tails + ((FP.Core.leading A B + f.emax - 1).toNat * f.tails + FP.Core.nearest (qO A B * 2 ^ (f.p - 1)) (qU A B)) := by
  obtain ⟨r1, r2, r3, -, -⟩ := q_rng hA hB hA2 hB2
  have la := log2_lt (t := 33) hA hA2
  have lb := log2_lt (t := 33) hB hB2
  have hL : -33 ≤ FP.Core.leading A B ∧ FP.Core.leading A B ≤ 32 := by
    rw [q_lead]
    unfold qK
    split <;> omega
  unfold FP.Core.roundRatio
  rw [if_neg (by omega)]
  have hq : FP.Core.quantum f A B 0 = FP.Core.leading A B - ((f.p : Int) - 1) := by
    unfold FP.Core.quantum FP.Core.Fmt.qmin
    omega
  rw [hq]
  unfold FP.Core.roundAt
  have hn : FP.Core.nearest (FP.Core.unitsNum A 0 (FP.Core.leading A B - ((f.p : Int) - 1))) (FP.Core.unitsDen B 0 (FP.Core.leading A B - ((f.p : Int) - 1))) = FP.Core.nearest (qO A B * 2 ^ (f.p - 1)) (qU A B) := by
    refine FP.Core.nearest_congr (FP.Core.unitsDen_pos hB _ _) r1 ?_
    unfold FP.Core.unitsNum FP.Core.unitsDen
    rw [q_lead]
    unfold qO
    by_cases h : qO0 A B < qU A B
    · rw [if_pos h, if_pos h]
      unfold qO0 qU
      have hx : ((0 : Int) - (qK A B - 1 - ((f.p : Int) - 1))).toNat + (qK A B).toNat = (-(qK A B)).toNat + 1 + (f.p - 1) + ((qK A B - 1 - ((f.p : Int) - 1)) - 0).toNat := by omega
      calc A * 2 ^ ((0 : Int) - (qK A B - 1 - ((f.p : Int) - 1))).toNat * (B * 2 ^ (qK A B).toNat) = A * B * 2 ^ (((0 : Int) - (qK A B - 1 - ((f.p : Int) - 1))).toNat + (qK A B).toNat) := by rw [Nat.pow_add]; ac_rfl
        _ = 2 * (A * 2 ^ (-(qK A B)).toNat) * 2 ^ (f.p - 1) * (B * 2 ^ ((qK A B - 1 - ((f.p : Int) - 1)) - 0).toNat) := by rw [hx, Nat.pow_add, Nat.pow_add, Nat.pow_add, Nat.pow_one]; ac_rfl
    · rw [if_neg h, if_neg h]
      unfold qO0 qU
      have hx : ((0 : Int) - (qK A B - ((f.p : Int) - 1))).toNat + (qK A B).toNat = (-(qK A B)).toNat + (f.p - 1) + ((qK A B - ((f.p : Int) - 1)) - 0).toNat := by omega
      calc A * 2 ^ ((0 : Int) - (qK A B - ((f.p : Int) - 1))).toNat * (B * 2 ^ (qK A B).toNat) = A * B * 2 ^ (((0 : Int) - (qK A B - ((f.p : Int) - 1))).toNat + (qK A B).toNat) := by rw [Nat.pow_add]; ac_rfl
        _ = A * 2 ^ (-(qK A B)).toNat * 2 ^ (f.p - 1) * (B * 2 ^ ((qK A B - ((f.p : Int) - 1)) - 0).toNat) := by rw [hx, Nat.pow_add, Nat.pow_add]; ac_rfl
  rw [hn]
  have hp1 : 2 ^ f.p = 2 * 2 ^ (f.p - 1) := pow_pred (by omega)
  have hn1 : f.tails ≤ FP.Core.nearest (qO A B * 2 ^ (f.p - 1)) (qU A B) := FP.Core.nearest_ge r1 (by
    show 2 ^ (f.p - 1) * qU A B ≤ _
    rw [Nat.mul_comm]
    exact Nat.mul_le_mul_right _ r2)
  have hn2 : FP.Core.nearest (qO A B * 2 ^ (f.p - 1)) (qU A B) ≤ 2 ^ f.p := FP.Core.nearest_le r1 (by
    rw [hp1]
    have := Nat.mul_le_mul_right (2 ^ (f.p - 1)) (Nat.le_of_lt r3)
    calc qO A B * 2 ^ (f.p - 1) ≤ 2 * qU A B * 2 ^ (f.p - 1) := this
      _ = 2 * 2 ^ (f.p - 1) * qU A B := by ac_rfl)
  rw [enc_settle f hp s _ _ hn1 hn2 (by unfold FP.Core.Fmt.qmin; omega) (by unfold FP.Core.Fmt.qmax; omega)]
  have e3 : (FP.Core.leading A B - ((f.p : Int) - 1) - f.qmin).toNat = (FP.Core.leading A B + f.emax - 1).toNat := by unfold FP.Core.Fmt.qmin; omega
  rw [e3]
/-- a whole number as p digits hold it -/
def fpA (p a : Nat) : Nat := if a.log2 < p then a else FP.Core.nearest a (2 ^ (a.log2 - (p - 1))) * 2 ^ (a.log2 - (p - 1))
theorem fpA_bd {p a : Nat} (hp : 1 ≤ p) (h0 : 0 < a) (ha : a ≤ 2 ^ 31) : 0 < fpA p a ∧ fpA p a < 2 ^ 33 := by
  have hl := log2_lt (t := 32) h0 (Nat.lt_of_le_of_lt ha (by decide))
  have h1 := log2_le h0
  unfold fpA
  split
  next h => exact ⟨h0, Nat.lt_of_le_of_lt ha (by decide)⟩
  next h =>
    have hd : 0 < 2 ^ (a.log2 - (p - 1)) := Nat.pow_pos (by decide)
    have x := fpRnd_in (num := a) (p := p) h0 hp
    unfold fpRnd at x
    rw [if_neg h] at x
    have y : 0 < 2 ^ (p - 1) := Nat.pow_pos (by decide)
    refine ⟨Nat.mul_pos (by omega) hd, ?_⟩
    calc FP.Core.nearest a (2 ^ (a.log2 - (p - 1))) * 2 ^ (a.log2 - (p - 1)) ≤ 2 ^ p * 2 ^ (a.log2 - (p - 1)) := Nat.mul_le_mul_right _ x.2
      _ = 2 ^ (p + (a.log2 - (p - 1))) := (Nat.pow_add _ _ _).symm
      _ ≤ 2 ^ 32 := Nat.pow_le_pow_right (by decide) (by omega)
      _ < 2 ^ 33 := by decide
theorem rnd_whole (f : FP.Core.Fmt) (hp : 2 ≤ f.p) (he : f.p ≤ f.emax) (he2 : 34 ≤ f.emax) (s : Bool) {a : Nat} (ha : a ≤ 2 ^ 31) : ∃ c q, FP.Core.roundRatio f s a 1 0 = .fin s c q ∧ c * 2 ^ q.toNat = fpA f.p a * 2 ^ (-q).toNat ∧ (c = 0 ↔ a = 0) := by
  by_cases h0 : a = 0
  · subst h0
    refine ⟨0, f.qmin, rfl, ?_, Iff.rfl⟩
    have : fpA f.p 0 = 0 := by
      unfold fpA
      rw [if_pos (by rw [show Nat.log2 0 = 0 from by decide]; omega)]
    rw [this, Nat.zero_mul, Nat.zero_mul]
  · have ha0 : 0 < a := by omega
    have hl := log2_lt (t := 32) ha0 (Nat.lt_of_le_of_lt ha (by decide))
    have h2 := lt_log2 a
    have hin := fpRnd_in (num := a) (p := f.p) ha0 (by omega)
    have hp1 : 2 ^ f.p = 2 * 2 ^ (f.p - 1) := pow_pred (by omega)
    have ht0 : 0 < 2 ^ (f.p - 1) := Nat.pow_pos (by decide)
    have e0 : FP.Core.roundRatio f s a 1 0 = FP.Core.settle f s (fpRnd a a.log2 f.p) ((a.log2 : Int) - ((f.p : Int) - 1)) := by
      unfold FP.Core.roundRatio
      rw [if_neg h0]
      unfold FP.Core.roundAt
      have hq : FP.Core.quantum f a 1 0 = (a.log2 : Int) - ((f.p : Int) - 1) := by
        unfold FP.Core.quantum
        rw [fp_leading ha0]
        unfold FP.Core.Fmt.qmin
        omega
      rw [hq]
      congr 1
      unfold FP.Core.unitsNum FP.Core.unitsDen fpRnd
      split
      next h =>
        rw [show ((0 : Int) - ((a.log2 : Int) - ((f.p : Int) - 1))).toNat = f.p - 1 - a.log2 by omega, show ((a.log2 : Int) - ((f.p : Int) - 1) - 0).toNat = 0 by omega, Nat.pow_zero, Nat.mul_one, nearest_one]
      next h =>
        rw [show ((0 : Int) - ((a.log2 : Int) - ((f.p : Int) - 1))).toNat = 0 by omega, show ((a.log2 : Int) - ((f.p : Int) - 1) - 0).toNat = a.log2 - (f.p - 1) by omega, Nat.pow_zero, Nat.mul_one, Nat.one_mul]
    have e1 : fpRnd a a.log2 f.p * 2 ^ ((a.log2 : Int) - ((f.p : Int) - 1)).toNat = fpA f.p a * 2 ^ (-((a.log2 : Int) - ((f.p : Int) - 1))).toNat := by
      unfold fpRnd fpA
      split
      next h =>
        rw [show ((a.log2 : Int) - ((f.p : Int) - 1)).toNat = 0 by omega, show (-((a.log2 : Int) - ((f.p : Int) - 1))).toNat = f.p - 1 - a.log2 by omega, Nat.pow_zero, Nat.mul_one]
      next h =>
        rw [show ((a.log2 : Int) - ((f.p : Int) - 1)).toNat = a.log2 - (f.p - 1) by omega, show (-((a.log2 : Int) - ((f.p : Int) - 1))).toNat = 0 by omega, Nat.pow_zero, Nat.mul_one]
    rw [e0]
    unfold FP.Core.settle FP.Core.bound
    by_cases hc : fpRnd a a.log2 f.p < 2 ^ f.p
    · rw [if_pos hc, if_pos (by unfold FP.Core.Fmt.qmax; omega)]
      exact ⟨_, _, rfl, e1, by omega⟩
    · rw [if_neg hc, if_pos (by unfold FP.Core.Fmt.qmax; omega)]
      refine ⟨_, _, rfl, ?_, ?_⟩
      · have hfr : fpRnd a a.log2 f.p = 2 * 2 ^ (f.p - 1) := by omega
        have hge : f.p ≤ a.log2 := by
          refine Nat.le_of_not_lt fun h => hc ?_
          unfold fpRnd
          rw [if_pos h]
          calc a * 2 ^ (f.p - 1 - a.log2) < 2 ^ (a.log2 + 1) * 2 ^ (f.p - 1 - a.log2) := Nat.mul_lt_mul_of_pos_right h2 (Nat.pow_pos (by decide))
            _ = 2 ^ f.p := by rw [← Nat.pow_add]; congr 1; omega
        rw [hfr] at e1
        rw [show (-((a.log2 : Int) - ((f.p : Int) - 1) + 1)).toNat = 0 by omega, show ((a.log2 : Int) - ((f.p : Int) - 1) + 1).toNat = ((a.log2 : Int) - ((f.p : Int) - 1)).toNat + 1 by omega]
        rw [show (-((a.log2 : Int) - ((f.p : Int) - 1))).toNat = 0 by omega] at e1
        rw [← e1, Nat.pow_succ]
        show 2 ^ (f.p - 1) * _ = _
        ac_rfl
      · exact iff_of_false (show ¬ 2 ^ (f.p - 1) = 0 by omega) h0
theorem quo_ratio (f : FP.Core.Fmt) (hp : 2 ≤ f.p) (he : f.p ≤ f.emax) (he2 : 34 ≤ f.emax) (s t : Bool) {a b : Nat} (ha : a ≤ 2 ^ 31) (hb : b ≤ 2 ^ 31) (hb0 : 0 < b) :
    FP.Core.quotient f (FP.Core.roundRatio f s a 1 0) (FP.Core.roundRatio f t b 1 0) = FP.Core.roundRatio f (s != t) (fpA f.p a) (fpA f.p b) 0 := by
  obtain ⟨c, q, e1, h1, -⟩ := rnd_whole f hp he he2 s ha
  obtain ⟨d, r, e2, h2, h3⟩ := rnd_whole f hp he he2 t hb
  have hd : d ≠ 0 := fun z => absurd (h3.mp z) (by omega)
  rw [e1, e2]
  show (if d = 0 then _ else FP.Core.roundRatio f (s != t) c d (q - r)) = _
  rw [if_neg hd]
  refine FP.Core.roundRatio_congr (by omega) (fpA_bd (by omega) hb0 hb).1 ?_
  obtain ⟨m, m1, m2⟩ : ∃ m, q.toNat + (-r).toNat = (q - r - 0).toNat + m ∧ (-q).toNat + r.toNat = (0 - (q - r)).toNat + m := ⟨q.toNat + (-r).toNat - (q - r - 0).toNat, by omega, by omega⟩
  refine Nat.eq_of_mul_eq_mul_right (Nat.pow_pos (show 0 < 2 by decide) : 0 < 2 ^ m) ?_
  calc c * fpA f.p b * 2 ^ (q - r - 0).toNat * 2 ^ m = c * fpA f.p b * 2 ^ (q.toNat + (-r).toNat) := by rw [m1, Nat.pow_add]; ac_rfl
    _ = (c * 2 ^ q.toNat) * (fpA f.p b * 2 ^ (-r).toNat) := by rw [Nat.pow_add]; ac_rfl
    _ = (fpA f.p a * 2 ^ (-q).toNat) * (d * 2 ^ r.toNat) := by rw [h1, h2]
    _ = fpA f.p a * d * 2 ^ ((-q).toNat + r.toNat) := by rw [Nat.pow_add]; ac_rfl
    _ = fpA f.p a * d * 2 ^ (0 - (q - r)).toNat * 2 ^ m := by rw [m2, Nat.pow_add]; ac_rfl
