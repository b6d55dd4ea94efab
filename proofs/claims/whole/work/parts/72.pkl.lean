/-! what a body brings, as cells -/
def cellAt (s : St) (f : Nat) : Option (List (Int32 × Int64)) := if fsl s f = -1 then none else some ((List.range (fnn s f)).map fun i => (if s.1 8 f = 8 then fKd s f i else s.1 8 f, fVl s f i))
def pkL (s : St) (v n : Nat) : List (Option (List (Int32 × Int64))) := (List.range n).map fun k => cellAt s (8 * v + k)
theorem pkL_len (s : St) (v n : Nat) : (pkL s v n).length = n := by unfold pkL; rw [List.length_map, List.length_range]
theorem pkL_at {s : St} {v n k : Nat} (h : k < n) : (pkL s v n)[k]? = some (cellAt s (8 * v + k)) := by
  unfold pkL
  rw [List.getElem?_map, List.getElem?_range h]
  rfl
theorem pkL_some {s : St} {v n k : Nat} {C : List (Int32 × Int64)} (h : (pkL s v n)[k]? = some (some C)) : k < n ∧ ¬ fsl s (8 * v + k) = -1 ∧ C = (List.range (fnn s (8 * v + k))).map fun i => (if s.1 8 (8 * v + k) = 8 then fKd s (8 * v + k) i else s.1 8 (8 * v + k), fVl s (8 * v + k) i) := by
  have hk : k < n := by
    rcases Nat.lt_or_ge k n with q | q
    · exact q
    · rw [List.getElem?_eq_none (by rw [pkL_len]; exact q)] at h; cases h
  rw [pkL_at hk] at h
  unfold cellAt at h
  split at h
  · cases h
  next q =>
    cases h
    exact ⟨hk, q, rfl⟩
theorem orT : ∀ k, k < 8 → ∀ q, q < 2 ^ k → nI q ||| (1 <<< (nI k &&& 31)) = nI (q + 2 ^ k) := by decide +kernel
theorem pk_pres {s : St} {v : Nat} : ∀ {k : Nat} {p : Int32} {B : List Int32}, k ≤ 8 → pk s v k = .inr (p, B) → ∃ q, p = nI q ∧ q < 2 ^ k ∧ ∀ j, j < k → (q / 2 ^ j % 2 = 0 ↔ fsl s (8 * v + j) = -1)
  | 0, p, B, _, h => by
    unfold pk at h
    cases h
    exact ⟨0, rfl, by decide, fun j hj => absurd hj (Nat.not_lt_zero j)⟩
  | k + 1, p, B, hk, h => by
    unfold pk at h
    split at h
    · cases h
    next p0 B0 h0 =>
      obtain ⟨q, e, hq, hb⟩ := pk_pres (by omega) h0
      have hpow : 2 ^ (k + 1) = 2 ^ k + 2 ^ k := by rw [Nat.pow_succ]; omega
      split at h
      next e1 =>
        split at h
        · cases h
        · cases h
          refine ⟨q, e, by omega, fun j hj => ?_⟩
          rcases Nat.lt_or_ge j k with z | z
          · exact hb j z
          · obtain rfl : j = k := by omega
            rw [Nat.div_eq_of_lt hq]
            exact ⟨fun _ => e1, fun _ => rfl⟩
      next e1 =>
        split at h
        · cases h
          refine ⟨q + 2 ^ k, by rw [e, orT k (by omega) q hq], by omega, fun j hj => ?_⟩
          rcases Nat.lt_or_ge j k with z | z
          · rw [← hb j z]
            have : (q + 2 ^ k) / 2 ^ j = q / 2 ^ j + 2 * 2 ^ (k - j - 1) := by
              have e2 : 2 ^ k = 2 ^ j * (2 * 2 ^ (k - j - 1)) := by
                rw [← Nat.mul_assoc, Nat.mul_comm (2 ^ j) 2, Nat.mul_assoc, ← Nat.pow_add, Nat.mul_comm 2, ← Nat.pow_succ]
                congr 1
                omega
              rw [e2, Nat.add_mul_div_left _ _ (Nat.pow_pos (by decide))]
            rw [this, Nat.add_mul_mod_self_left]
          · obtain rfl : j = k := by omega
            rw [show (q + 2 ^ j) / 2 ^ j = 1 from by rw [Nat.add_div_right _ (Nat.pow_pos (by decide)), Nat.div_eq_of_lt hq]]
            exact ⟨fun z2 => absurd z2 (by decide), fun z2 => absurd z2 e1⟩
        · cases h
theorem pk_code {s : St} {v : Nat} : ∀ {n : Nat} {x : Int32 × List Int32}, pk s v n = .inr x → ∀ k, k < n → ¬ fsl s (8 * v + k) = -1 → fcode s (8 * v + k) = 0
  | 0, _, _, k, hk, _ => absurd hk (Nat.not_lt_zero k)
  | n + 1, x, h, k, hk, hs => by
    unfold pk at h
    split at h
    · cases h
    next p0 B0 h0 =>
      rcases Nat.lt_or_ge k n with z | z
      · exact pk_code h0 k z hs
      · obtain rfl : k = n := by omega
        rw [if_neg hs] at h
        split at h
        next q => exact q
        · cases h
theorem pkL_pres {s : St} {v n q : Nat} (hn : n ≤ 8) (hq : q < 2 ^ n) (h : ∀ j, j < n → (q / 2 ^ j % 2 = 0 ↔ fsl s (8 * v + j) = -1)) : PresL q (pkL s v n) := by
  refine ⟨Nat.lt_of_lt_of_le hq (Nat.pow_le_pow_right (by decide) hn), fun j hj => ?_⟩
  rw [pkL_len] at hj
  rw [h j hj, pkL_at hj]
  unfold cellAt
  split
  next q => exact ⟨fun _ => rfl, fun _ => q⟩
  next q => exact ⟨fun z => absurd z q, fun z => by cases z⟩
theorem pkL_got {m n v : Nat} {w : Wd} {s : St} (h : GotM m w s v n) : GotR m w (pkL s v n) := by
  intro k C hC
  obtain ⟨hk, hs, rfl⟩ := pkL_some hC
  obtain ⟨h1, h2, h3⟩ := h k hk hs
  rw [List.length_map, List.length_range]
  refine ⟨h1, h2, fun j hj => ?_⟩
  rw [List.length_map, List.length_range] at hj
  rw [List.getElem?_map, List.getElem?_range hj]
  obtain ⟨a1, a2⟩ := h3 j hj
  rw [a1, a2]
  rfl
theorem pkL_ok {s : St} {v n : Nat} {x : Int32 × List Int32} (hR : RW s) (hV : VerS s v n) (h : pk s v n = .inr x) : LOK (pkL s v n) := by
  intro k C hC
  obtain ⟨hk, hs, rfl⟩ := pkL_some hC
  obtain ⟨hn8, hmany, hfld⟩ := hV
  obtain ⟨sl, kd, c, nd, td, hs8, hkd, hc, hnd, htd, f0, f1, -⟩ := hfld k hk
  have g1 : s.1 8 (8 * v + k) = nI kd := f1
  have hcode := pk_code h k hk hs
  obtain ⟨r, z, hr, hz, hfs, hrs, hfrow, hfn⟩ := (fcode_s hR hs8 f0 hs).2 hcode
  have hsl : s.1 1 sl = nI r := by
    rw [← hfs]
    unfold fsl
    rw [show s.1 7 (8 * v + k) = nI sl from f0, ni_cl (by omega)]
  have hneg : ¬ s.1 1 sl = -1 := by rw [hsl]; exact ni_nem (by omega)
  have hne9 : ¬ s.1 1 sl = 9 := by rw [hsl]; exact ni_ne9 (by omega)
  obtain ⟨r', hr', e1, a, z', ea, ez, hRV⟩ := (hR sl hs8).resolve_left hneg |>.resolve_left hne9
  obtain rfl : r' = r := by rw [e1, ni_eq (by omega) (by omega)] at hsl; exact hsl
  obtain rfl : z' = z := by rw [ez, ni_eq (by have := hRV.2.1; omega) (by omega)] at hrs; exact hrs
  intro y hy
  obtain ⟨i, hi, rfl⟩ := List.mem_map.mp hy
  rw [hfn] at hi
  have hi' := List.mem_range.mp hi
  obtain ⟨⟨b, hb, eb, hab⟩, hcv⟩ := hRV.2.2 i hi'
  have hfK : fKd s (8 * v + k) i = nI b := by unfold fKd; rw [hfrow]; exact eb
  have hcv' : cvl (nI b) (s.2 5 (16 * r' + i)) := by rw [← eb]; exact hcv
  show (∃ b, b ≤ 8 ∧ (if s.1 8 (8 * v + k) = 8 then fKd s (8 * v + k) i else s.1 8 (8 * v + k)) = nI b) ∧ cvl (if s.1 8 (8 * v + k) = 8 then fKd s (8 * v + k) i else s.1 8 (8 * v + k)) (fVl s (8 * v + k) i)
  by_cases h8 : s.1 8 (8 * v + k) = 8
  · rw [if_pos h8]
    refine ⟨⟨b, hb, hfK⟩, ?_⟩
    unfold fVl vwC
    rw [if_pos h8, hfK, hfrow]
    exact hcv'
  · rw [if_neg h8]
    refine ⟨⟨kd, hkd, g1⟩, cvl_of h8 ?_⟩
    unfold fVl vwC
    rw [if_neg h8, hfK, hfrow]
    have hkd7 : kd ≤ 7 := by
      rcases Nat.lt_or_ge kd 8 with q | q
      · omega
      · exact absurd (by rw [g1, show kd = 8 by omega]; rfl) h8
    have hvok : vok (nI a) (s.1 8 (8 * v + k)) = true := by
      by_cases hv : vok (nI a) (s.1 8 (8 * v + k)) = true
      · exact hv
      · unfold fcode rdCode at hcode
        have h9 : ¬ fsl s (8 * v + k) = 9 := by rw [hfs]; exact ni_ne9 (by omega)
        have hp : 0 < nI z' := by rw [show (0 : Int32) = nI 0 from rfl, ni_lt (by decide) (by omega)]; omega
        rw [hfrow, ea, hrs, if_neg h9] at hcode
        split at hcode
        · exact absurd hcode (by decide)
        · rw [if_pos ⟨hp, hv⟩] at hcode
          exact absurd hcode (by decide)
    unfold vok at hvok
    obtain ⟨q1, q2⟩ := (of_decide_eq_true hvok).resolve_left h8
    have ha8 : a ≠ 8 := fun e => q1 (by rw [e]; rfl)
    obtain rfl : b = a := hab ha8
    unfold cvl at hcv'
    rw [if_neg q1] at hcv'
    exact wds_val hkd7 g1 hcv' q2
