/-! a version's text, read: T the signs, u how many -/
def sgn (T : Nat → Int32) (u p : Nat) : Int32 := if p < u then T p else -1
theorem sgn_lt {T : Nat → Int32} {u p : Nat} (h : ¬ sgn T u p = -1) : p < u := by
  unfold sgn at h
  split at h
  · assumption
  · exact absurd rfl h
theorem sgn_lt0 {T : Nat → Int32} {u p : Nat} {c : Int32} (h : sgn T u p = c) (hc : ¬ c = -1) : p < u := sgn_lt (by rw [h]; exact hc)
theorem sgn_ge {T : Nat → Int32} {u p : Nat} (h : 0 ≤ sgn T u p) : p < u := sgn_lt fun q => by rw [q] at h; exact absurd h (by decide)
def lwE (T : Nat → Int32) (u : Nat) : Nat → Nat → Nat
  | 0, p => p
  | d + 1, p => if 97 ≤ sgn T u p ∧ sgn T u p ≤ 122 then lwE T u d (p + 1) else p
theorem lwE_ge (T : Nat → Int32) (u : Nat) : ∀ d p, p ≤ lwE T u d p
  | 0, p => Nat.le_refl p
  | d + 1, p => by
    unfold lwE
    split
    · exact Nat.le_trans (Nat.le_succ p) (lwE_ge T u d (p + 1))
    · exact Nat.le_refl p
theorem lwE_le (T : Nat → Int32) (u : Nat) : ∀ d p, p ≤ u → lwE T u d p ≤ u
  | 0, p, h => h
  | d + 1, p, h => by
    unfold lwE
    split
    next q => exact lwE_le T u d (p + 1) (sgn_ge (Int32.le_trans (by decide) q.1))
    · exact h
/-- whether the word of a kind stands from b till e -/
def isW (T : Nat → Int32) (b e k : Nat) : Bool := decide (e - b = (wrd k).length ∧ ∀ i, i < (wrd k).length → T (b + i) = nI ((wrd k).getD i 0))
def kdF (T : Nat → Int32) (b e : Nat) : Nat → Nat → Option Nat
  | 0, _ => none
  | d + 1, k => if isW T b e k = true then some k else kdF T b e d (k + 1)
def dgs (T : Nat → Int32) (u : Nat) : Nat → Nat → Nat → Nat × Nat
  | 0, p, n => (p, n)
  | r + 1, p, n => if 48 ≤ sgn T u p ∧ sgn T u p ≤ 57 then dgs T u r (p + 1) (10 * n + (sgn T u p).toNatClampNeg - 48) else (p, n)
theorem dgs_ge (T : Nat → Int32) (u : Nat) : ∀ r p n, p ≤ (dgs T u r p n).1
  | 0, p, n => Nat.le_refl p
  | r + 1, p, n => by
    unfold dgs
    split
    · exact Nat.le_trans (Nat.le_succ p) (dgs_ge T u r _ _)
    · exact Nat.le_refl p
theorem dgs_le (T : Nat → Int32) (u : Nat) : ∀ r p n, p ≤ u → (dgs T u r p n).1 ≤ u
  | 0, p, n, h => h
  | r + 1, p, n, h => by
    unfold dgs
    split
    next q => exact dgs_le T u r _ _ (sgn_ge (Int32.le_trans (by decide) q.1))
    · exact h
theorem i_dig {x : Int32} (h : 48 ≤ x ∧ x ≤ 57) : ∃ c, 48 ≤ c ∧ c ≤ 57 ∧ x = nI c := by
  obtain ⟨c, hc, rfl⟩ := i_nat (c := 57) (by decide) (Int32.le_trans (by decide) h.1) h.2
  have h1 := h.1
  rw [ni_lit 48, ni_le (by decide) (by omega)] at h1
  exact ⟨c, h1, hc, rfl⟩
theorem dgs_n (T : Nat → Int32) (u : Nat) : ∀ r p n, (dgs T u r p n).2 < 10 ^ r * (n + 1)
  | 0, p, n => by
    show n < 10 ^ 0 * (n + 1)
    omega
  | r + 1, p, n => by
    unfold dgs
    split
    next q =>
      obtain ⟨c, h1, h2, e⟩ := i_dig q
      rw [e, ni_cl (by omega)]
      have := dgs_n T u r (p + 1) (10 * n + c - 48)
      refine Nat.lt_of_lt_of_le this ?_
      rw [Nat.pow_succ, Nat.mul_assoc]
      exact Nat.mul_le_mul_left _ (by omega)
    · show n < 10 ^ (r + 1) * (n + 1)
      have : 1 ≤ 10 ^ (r + 1) := Nat.pow_pos (by decide)
      have h2 := Nat.mul_le_mul_right (n + 1) this
      omega
/-- a field: slot, kind, cells, needed, told, by -/
abbrev Fld : Type := Nat × Nat × Nat × Nat × Nat × Int32
/-- behind a bracket that is open -/
def pMny (T : Nat → Int32) (u p : Nat) : Sum Nat (Nat × Nat) :=
  if sgn T u p = 93 then .inr (0, p + 1)
  else if (dgs T u 2 p 0).1 = p then .inl p
  else if ¬ (1 ≤ (dgs T u 2 p 0).2 ∧ (dgs T u 2 p 0).2 ≤ 16) then .inl p
  else if ¬ sgn T u (dgs T u 2 p 0).1 = 93 then .inl (dgs T u 2 p 0).1 else .inr ((dgs T u 2 p 0).2, (dgs T u 2 p 0).1 + 1)
def pCel (T : Nat → Int32) (u p : Nat) : Sum Nat (Nat × Nat) := if sgn T u p = 91 then pMny T u (p + 1) else .inr (1, p)
def pMin (T : Nat → Int32) (u p : Nat) : Nat := if sgn T u p = 45 then p + 1 else p
/-- behind the sign of a default -/
def pTld (T : Nat → Int32) (u p : Nat) : Sum Nat (Nat × Int32 × Nat) :=
  if (dgs T u 6 (pMin T u p) 0).1 = pMin T u p then .inl (pMin T u p)
  else .inr (1, if sgn T u p = 45 then -nI (dgs T u 6 (pMin T u p) 0).2 else nI (dgs T u 6 (pMin T u p) 0).2, (dgs T u 6 (pMin T u p) 0).1)
def pDef (T : Nat → Int32) (u kd p : Nat) : Sum Nat (Nat × Int32 × Nat) := if ¬ kd = 8 ∧ sgn T u p = 61 then pTld T u (p + 1) else .inr (0, 0, p)
def pFld (T : Nat → Int32) (u : Nat) (seen : Nat → Bool) (p : Nat) : Sum Nat (Fld × Nat) :=
  if ¬ (97 ≤ sgn T u p ∧ sgn T u p ≤ 104) ∨ seen ((sgn T u p).toNatClampNeg - 97) = true then .inl p
  else if ¬ sgn T u (p + 1) = 58 then .inl (p + 1)
  else match kdF T (p + 2) (lwE T u (u - (p + 2)) (p + 2)) 9 0 with
    | none => .inl (p + 2)
    | some kd => match pCel T u (lwE T u (u - (p + 2)) (p + 2)) with
      | .inl f => .inl f
      | .inr (c, q) => match pDef T u kd q with
        | .inl f => .inl f
        | .inr (td, v, q2) => if sgn T u q2 = 33 then .inr (((sgn T u p).toNatClampNeg - 97, kd, c, 1, td, v), q2 + 1) else .inr (((sgn T u p).toNatClampNeg - 97, kd, c, 0, td, v), q2)
def seenL (L : List Fld) (s : Nat) : Bool := L.any fun x => decide (x.1 = s)
def pAll (T : Nat → Int32) (u : Nat) : Nat → List Fld → Nat → Sum Nat (List Fld)
  | 0, _, p => .inl p
  | d + 1, L, p => match pFld T u (seenL L) p with
    | .inl f => .inl f
    | .inr (x, q) => if sgn T u q = 59 then pAll T u d (L ++ [x]) (q + 1) else if q = u then .inr (L ++ [x]) else .inl q
theorem pMny_ok {T : Nat → Int32} {u p c q : Nat} (h : pMny T u p = .inr (c, q)) : c ≤ 16 ∧ q ≤ u := by
  unfold pMny at h
  split at h
  next h3 =>
    cases h
    exact ⟨by omega, sgn_lt0 h3 (by decide)⟩
  · split at h
    · cases h
    · split at h
      · cases h
      next h4 =>
        split at h
        · cases h
        next h5 =>
          cases h
          exact ⟨(Decidable.not_not.mp h4).2, sgn_lt0 (Decidable.not_not.mp h5) (by decide)⟩
theorem pCel_ok {T : Nat → Int32} {u p c q : Nat} (hp : p ≤ u) (h : pCel T u p = .inr (c, q)) : c ≤ 16 ∧ q ≤ u := by
  unfold pCel at h
  split at h
  · exact pMny_ok h
  · cases h; exact ⟨by omega, hp⟩
theorem pMin_le {T : Nat → Int32} {u p : Nat} (hp : p ≤ u) : pMin T u p ≤ u ∧ p ≤ pMin T u p := by
  unfold pMin
  split
  next h => exact ⟨sgn_lt0 h (by decide), by omega⟩
  · exact ⟨hp, by omega⟩
theorem pDef_ok {T : Nat → Int32} {u kd p td q : Nat} {v : Int32} (hp : p ≤ u) (h : pDef T u kd p = .inr (td, v, q)) : td ≤ 1 ∧ (td = 0 → v = 0) ∧ (kd = 8 → td = 0) ∧ -999999 ≤ v.toInt ∧ v.toInt ≤ 999999 ∧ q ≤ u := by
  unfold pDef at h
  split at h
  next h1 =>
    have h3 := sgn_lt0 h1.2 (by decide)
    have h4 := (pMin_le (T := T) (u := u) (p := p + 1) (by omega)).1
    unfold pTld at h
    split at h
    · cases h
    · have hn := dgs_n T u 6 (pMin T u (p + 1)) 0
      have hq := dgs_le T u 6 (pMin T u (p + 1)) 0 h4
      cases h
      generalize (dgs T u 6 (pMin T u (p + 1)) 0).2 = n at hn ⊢
      have hn6 : n < 1000000 := hn
      have e : (nI n).toInt = (n : Int) := ni_ti (by omega)
      refine ⟨Nat.le_refl 1, fun z => absurd z (by decide), fun z => absurd z h1.1, ?_, ?_, hq⟩
      · split
        · rw [Int32.toInt_neg, e, show (2 : Nat) ^ 32 = 4294967296 from rfl, Int.bmod_eq_of_le (by omega) (by omega)]; omega
        · rw [e]; omega
      · split
        · rw [Int32.toInt_neg, e, show (2 : Nat) ^ 32 = 4294967296 from rfl, Int.bmod_eq_of_le (by omega) (by omega)]; omega
        · rw [e]; omega
  · cases h
    exact ⟨by omega, fun _ => rfl, fun _ => rfl, by decide, by decide, hp⟩
def FldK (x : Fld) : Prop := x.1 < 8 ∧ x.2.1 ≤ 8 ∧ x.2.2.1 ≤ 16 ∧ x.2.2.2.1 ≤ 1 ∧ x.2.2.2.2.1 ≤ 1 ∧ (x.2.2.2.2.1 = 0 → x.2.2.2.2.2 = 0) ∧ (x.2.1 = 8 → x.2.2.2.2.1 = 0) ∧ -999999 ≤ x.2.2.2.2.2.toInt ∧ x.2.2.2.2.2.toInt ≤ 999999
theorem kdF_le {T : Nat → Int32} {b e : Nat} : ∀ {d k r : Nat}, kdF T b e d k = some r → k ≤ r ∧ r < k + d
  | 0, k, r, h => by cases h
  | d + 1, k, r, h => by
    unfold kdF at h
    split at h
    · cases h; omega
    · have := kdF_le h; omega
theorem i_let {x : Int32} (h : 97 ≤ x ∧ x ≤ 104) : ∃ c, c < 8 ∧ x = nI (97 + c) := by
  obtain ⟨c, hc, rfl⟩ := i_nat (c := 104) (by decide) (Int32.le_trans (by decide) h.1) h.2
  have h1 := h.1
  rw [ni_lit 97, ni_le (by decide) (by omega)] at h1
  exact ⟨c - 97, by omega, by rw [show 97 + (c - 97) = c by omega]⟩
theorem pFld_ok {T : Nat → Int32} {u p q : Nat} {seen : Nat → Bool} {x : Fld} (h : pFld T u seen p = .inr (x, q)) : FldK x ∧ q ≤ u ∧ p < u ∧ seen x.1 = false := by
  unfold pFld at h
  split at h
  · cases h
  next h1 =>
    have h2 := Decidable.not_not.mp fun z => h1 (Or.inl z)
    have hs : ¬ seen ((sgn T u p).toNatClampNeg - 97) = true := fun z => h1 (Or.inr z)
    obtain ⟨s, hs8, es⟩ := i_let h2
    have hpu := sgn_ge (T := T) (u := u) (p := p) (Int32.le_trans (by decide) h2.1)
    rw [es, ni_cl (by omega), Nat.add_sub_cancel_left] at h hs
    split at h
    · cases h
    next h3 =>
      have h4 := sgn_lt0 (Decidable.not_not.mp h3) (by decide)
      have hl := lwE_le T u (u - (p + 2)) (p + 2) (by omega)
      split at h
      · cases h
      next kd hk =>
        have hk8 := kdF_le hk
        split at h
        · cases h
        next c q1 hc =>
          have hc1 := pCel_ok hl hc
          split at h
          · cases h
          next td v q2 hd =>
            obtain ⟨d1, d2, d3, d4, d5, d6⟩ := pDef_ok hc1.2 hd
            split at h
            next h7 =>
              cases h
              exact ⟨⟨hs8, by show kd ≤ 8; omega, hc1.1, Nat.le_refl 1, d1, d2, d3, d4, d5⟩, sgn_lt0 h7 (by decide), hpu, Bool.eq_false_iff.mpr hs⟩
            · cases h
              exact ⟨⟨hs8, by show kd ≤ 8; omega, hc1.1, Nat.zero_le 1, d1, d2, d3, d4, d5⟩, d6, hpu, Bool.eq_false_iff.mpr hs⟩
theorem seenL_at {L : List Fld} {s : Nat} (h : seenL L s = false) {k : Nat} {x : Fld} (hk : L[k]? = some x) : ¬ x.1 = s := fun e => by
  have : seenL L s = true := List.any_eq_true.mpr ⟨x, List.mem_of_getElem? hk, decide_eq_true e⟩
  rw [h] at this
  cases this
def FldsK (L : List Fld) : Prop := (∀ (k : Nat) (x : Fld), L[k]? = some x → FldK x) ∧ ∀ (k l : Nat) (x y : Fld), L[k]? = some x → L[l]? = some y → x.1 = y.1 → k = l
theorem FldsK.push {L : List Fld} {x : Fld} (h : FldsK L) (hx : FldK x) (hs : seenL L x.1 = false) : FldsK (L ++ [x]) := by
  have hg : ∀ (k : Nat) (y : Fld), (L ++ [x])[k]? = some y → L[k]? = some y ∨ (k = L.length ∧ y = x) := fun k y hk => by
    by_cases q : k < L.length
    · rw [List.getElem?_append_left q] at hk; exact Or.inl hk
    · have h2 := (List.getElem?_eq_some_iff.mp hk).1
      rw [List.length_append, List.length_singleton] at h2
      obtain rfl : k = L.length := by omega
      rw [List.getElem?_append_right (Nat.le_refl _), Nat.sub_self] at hk
      cases hk
      exact Or.inr ⟨rfl, rfl⟩
  refine ⟨fun k y hk => ?_, fun k l y z hk hl e => ?_⟩
  · rcases hg k y hk with q | ⟨-, rfl⟩
    · exact h.1 k y q
    · exact hx
  · rcases hg k y hk with q | ⟨q1, rfl⟩ <;> rcases hg l z hl with r | ⟨r1, rfl⟩
    · exact h.2 k l y z q r e
    · exact absurd e (seenL_at hs q)
    · exact absurd e.symm (seenL_at hs r)
    · omega
theorem pAll_ok {T : Nat → Int32} {u : Nat} : ∀ {d : Nat} {L D : List Fld} {p : Nat}, FldsK L → pAll T u d L p = .inr D → FldsK D ∧ L.length < D.length ∧ D.length ≤ L.length + d
  | 0, L, D, p, _, h => by cases h
  | d + 1, L, D, p, hL, h => by
    unfold pAll at h
    split at h
    · cases h
    next x q hx =>
      obtain ⟨h1, h2, h3, h4⟩ := pFld_ok hx
      have hp := hL.push h1 h4
      split at h
      · obtain ⟨g1, g2, g3⟩ := pAll_ok hp h
        rw [List.length_append, List.length_singleton] at g2 g3
        exact ⟨g1, by omega, by omega⟩
      · split at h
        · cases h
          refine ⟨hp, ?_, ?_⟩ <;> rw [List.length_append, List.length_singleton] <;> omega
        · cases h
