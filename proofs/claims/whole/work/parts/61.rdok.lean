/-! what is read is sound -/
theorem rdVal_ok {b : Nat → Nat} {e a : Nat} {kd : Int32} {w : Nat} {base v : Int64} (h : rdVal b e a kd w base = .inr v) : isVal kd v = true := by
  unfold rdVal at h
  split at h
  · cases h
  · split at h
    · cases h; assumption
    · cases h
theorem cvl_of {kd : Int32} {v : Int64} (hk : ¬ kd = 8) (h : isVal kd v = true) : cvl kd v := by
  unfold cvl
  rw [if_neg hk]
  exact h
theorem CelOK.nil : CelOK [] := fun x hx => by cases hx
theorem CelOK.cons {x : Int32 × Int64} {C : List (Int32 × Int64)} (h1 : (∃ b, b ≤ 8 ∧ x.1 = nI b) ∧ cvl x.1 x.2) (h2 : CelOK C) : CelOK (x :: C) := fun y hy => by
  rcases List.mem_cons.mp hy with rfl | hy
  · exact h1
  · exact h2 y hy
theorem rdB_ok {b : Nat → Nat} {e : Nat} : ∀ {r a : Nat} {L : List (Int32 × Int64)} {c : Nat}, rdB b e r a = .inr (L, c) → CelOK L ∧ L.length = r
  | 0, a, L, c, h => by
    cases h
    exact ⟨CelOK.nil, rfl⟩
  | r + 1, a, L, c, h => by
    unfold rdB at h
    split at h
    · cases h
    · split at h
      · split at h
        · cases h
        next L' c' h2 =>
          cases h
          obtain ⟨g1, g2⟩ := rdB_ok h2
          exact ⟨CelOK.cons ⟨⟨8, by decide, rfl⟩, by unfold cvl; rw [if_pos rfl]⟩ g1, by rw [List.length_cons, g2]⟩
      · split at h
        · cases h
        next hc =>
          split at h
          · cases h
          next v hv =>
            split at h
            · cases h
            next L' c' h2 =>
              cases h
              obtain ⟨g1, g2⟩ := rdB_ok h2
              refine ⟨CelOK.cons ⟨⟨b a / 16 - 1, by omega, rfl⟩, cvl_of ?_ (rdVal_ok hv)⟩ g1, by rw [List.length_cons, g2]⟩
              show ¬ nI (b a / 16 - 1) = 8
              rw [ni_eq8 (by omega)]
              omega
theorem rdP_ok {b : Nat → Nat} {e : Nat} {kd : Int32} {how w d : Nat} (hk : ∃ z, z ≤ 7 ∧ kd = nI z) : ∀ {r i a : Nat} {pv : Int64} {L : List (Int32 × Int64)} {c : Nat}, rdP b e kd how w d r i a pv = .inr (L, c) → CelOK L ∧ L.length = r
  | 0, i, a, pv, L, c, h => by
    cases h
    exact ⟨CelOK.nil, rfl⟩
  | r + 1, i, a, pv, L, c, h => by
    rw [rdP] at h
    split at h
    · cases h
    next v hv =>
      split at h
      · cases h
      next L' c' h2 =>
        cases h
        obtain ⟨g1, g2⟩ := rdP_ok hk h2
        obtain ⟨z, hz, rfl⟩ := hk
        refine ⟨CelOK.cons ⟨⟨z, by omega, rfl⟩, cvl_of ?_ (rdVal_ok hv)⟩ g1, by rw [List.length_cons, g2]⟩
        show ¬ nI z = 8
        rw [ni_eq8 (by omega)]
        omega
theorem rdR_ok {b : Nat → Nat} {e : Nat} {kd : Int32} {w : Nat} (hk : ∃ z, z ≤ 7 ∧ kd = nI z) : ∀ {r l a : Nat} {v0 : Int64} {L : List (Int32 × Int64)} {c : Nat}, rdR b e kd w r l a v0 = .inr (L, c) → (0 < l → isVal kd v0 = true) → CelOK L ∧ L.length = r
  | 0, l, a, v0, L, c, h, _ => by
    cases h
    exact ⟨CelOK.nil, rfl⟩
  | r + 1, l, a, v0, L, c, h, hl => by
    have hcell : ∀ v, isVal kd v = true → (∃ b, b ≤ 8 ∧ (kd, v).1 = nI b) ∧ cvl (kd, v).1 (kd, v).2 := fun v hv => by
      obtain ⟨z, hz, rfl⟩ := hk
      refine ⟨⟨z, by omega, rfl⟩, cvl_of ?_ hv⟩
      show ¬ nI z = 8
      rw [ni_eq8 (by omega)]
      omega
    rw [rdR] at h
    split at h
    · split at h
      · cases h
      · split at h
        · cases h
        · split at h
          · cases h
          next v hv =>
            split at h
            · cases h
            next L' c' h2 =>
              cases h
              obtain ⟨g1, g2⟩ := rdR_ok hk h2 (fun _ => rdVal_ok hv)
              exact ⟨CelOK.cons (hcell _ (rdVal_ok hv)) g1, by rw [List.length_cons, g2]⟩
    · split at h
      · cases h
      next L' c' h2 =>
        cases h
        have hv := hl (by omega)
        obtain ⟨g1, g2⟩ := rdR_ok hk h2 (fun _ => hv)
        exact ⟨CelOK.cons (hcell _ hv) g1, by rw [List.length_cons, g2]⟩
theorem rdN_ok {b : Nat → Nat} {e : Nat} {kd : Int32} {z a : Nat} {L : List (Int32 × Int64)} {c : Nat} (hk : ∃ z, z ≤ 7 ∧ kd = nI z) (h : rdN b e kd z a = .inr (L, c)) : CelOK L ∧ L.length = z := by
  unfold rdN at h
  split at h
  · cases h
  · split at h
    · cases h
    · split at h
      · split at h
        · cases h
        · split at h
          · cases h
          · exact rdP_ok hk h
      · split at h
        · exact rdR_ok hk h (fun q => absurd q (Nat.lt_irrefl 0))
        · exact rdP_ok hk h
theorem rdCl_ok {b : Nat → Nat} {e : Nat} {kd : Int32} {z a : Nat} {L : List (Int32 × Int64)} {c : Nat} (hk : ∃ z, z ≤ 8 ∧ kd = nI z) (h : rdCl b e kd z a = .inr (L, c)) : CelOK L ∧ L.length = z := by
  unfold rdCl at h
  split at h
  · exact rdB_ok h
  next h8 =>
    split at h
    next hz =>
      cases h
      exact ⟨CelOK.nil, hz.symm⟩
    · refine rdN_ok ?_ h
      obtain ⟨y, hy, rfl⟩ := hk
      rw [ni_eq8 (by omega)] at h8
      exact ⟨y, by omega, rfl⟩
theorem rdFs_ok {b : Nat → Nat} {e : Nat} {F : Nat → Nat → Int32} {p n : Nat} (hF : ∀ k, k < n → FldW (fun j => F j k)) : ∀ {r k a : Nat} {L : List (Option (List (Int32 × Int64)))} {c : Nat}, k + r = n → rdFs b e F p r k a = .inr (L, c) → LOK L ∧ L.length = r ∧ ∀ (j : Nat), j < L.length → (p / 2 ^ (k + j) % 2 = 0 ↔ L[j]? = some none)
  | 0, k, a, L, c, hk, h => by
    cases h
    exact ⟨fun k C h => (by cases h), rfl, fun j hj => absurd hj (Nat.not_lt_zero j)⟩
  | r + 1, k, a, L, c, hk, h => by
    rw [rdFs] at h
    split at h
    next hb =>
      split at h
      · cases h
      next L' c' h2 =>
        cases h
        obtain ⟨g1, g2, g3⟩ := rdFs_ok hF (by omega) h2
        refine ⟨fun j C hj => ?_, by rw [List.length_cons, g2], fun j hj => ?_⟩
        · cases j with
          | zero => cases hj
          | succ j => exact g1 j C hj
        · cases j with
          | zero => exact ⟨fun _ => rfl, fun _ => hb⟩
          | succ j =>
            rw [List.length_cons] at hj
            have := g3 j (by omega)
            rw [show k + 1 + j = k + (j + 1) by omega] at this
            exact this
    next hb =>
      split at h
      · cases h
      next z a1 hsz =>
        split at h
        · cases h
        next C a2 hcl =>
          split at h
          · cases h
          next L' c' h2 =>
            cases h
            obtain ⟨g1, g2, g3⟩ := rdFs_ok hF (by omega) h2
            obtain ⟨sl, kd, cc, nd, td, hs8, hkd, hc, hnd, htd, f0, f1, -⟩ := hF k (by omega)
            obtain ⟨q1, q2⟩ := rdCl_ok ⟨kd, hkd, f1⟩ hcl
            refine ⟨fun j C' hj => ?_, by rw [List.length_cons, g2], fun j hj => ?_⟩
            · cases j with
              | zero => cases hj; exact q1
              | succ j => exact g1 j C' hj
            · cases j with
              | zero => exact ⟨fun y => absurd y hb, fun y => by cases y⟩
              | succ j =>
                rw [List.length_cons] at hj
                have := g3 j (by omega)
                rw [show k + 1 + j = k + (j + 1) by omega] at this
                exact this
theorem rdBody_ok {b : Nat → Nat} {e : Nat} {F : Nat → Nat → Int32} {n a p : Nat} {L : List (Option (List (Int32 × Int64)))} (hF : ∀ k, k < n → FldW (fun j => F j k)) (hb : ∀ i, i < e → b i ≤ 255) (h : rdBody b e F n a = .inr (p, L)) : LOK L ∧ L.length = n ∧ PresL p L := by
  unfold rdBody at h
  split at h
  · cases h
  next hea =>
    split at h
    · cases h
    · split at h
      · cases h
      · split at h
        · cases h
        next L' c h2 =>
          split at h
          · cases h
          · cases h
            obtain ⟨g1, g2, g3⟩ := rdFs_ok hF (by omega) h2
            refine ⟨g1, g2, by have := hb a (by omega); omega, fun j hj => ?_⟩
            have := g3 j hj
            rwa [Nat.zero_add] at this
