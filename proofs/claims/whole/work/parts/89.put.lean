/-! the class: writing into rows -/
theorem ne_sh {w : Wd} {a A t n m : Nat} (h : wsh w a = (t, m)) (s1 : wsh w (A + 1) = (100, n)) (s2 : wsh w (A + 2) = (101, n)) (h1 : t ≠ 100) (h2 : t ≠ 101) : ¬ (a = A + 1 ∨ a = A + 2) := fun z => by
  rcases z with rfl | rfl
  · rw [s1] at h; exact h1 (congrArg Prod.fst h).symm
  · rw [s2] at h; exact h2 (congrArg Prod.fst h).symm
theorem VersX.put {b A n i0 : Nat} {w w' : Wd} {P : Nat → Option Nat} {mn : Nat → Int32} {f : Nat → Nat → Int32} (h : VersX b w P mn f) (hf : Fr (fun a j => (a = A + 1 ∨ a = A + 2) ∧ j = i0) w w') (s1 : wsh w (A + 1) = (100, n)) (s2 : wsh w (A + 2) = (101, n)) : VersX b w' P mn f := by
  intro v hv
  rcases h v hv with z | ⟨a, m, h1, h2, h3, h4, ⟨g1, g2, g3, c, g4, g5, g6, g7⟩⟩
  · exact Or.inl z
  · have ka := ne_sh g2 s1 s2 (by decide) (by decide)
    refine Or.inr ⟨a, m, h1, h2, h3, h4, g1, by rw [hf.sh]; exact g2, (hf.I _ _ fun z => ka z.1).trans g3, c, g4, by rw [hf.P]; exact g5, by rw [hf.sh]; exact g6, fun k hk => ?_⟩
    obtain ⟨d, d1, d2, d3, d4⟩ := g7 k hk
    have kd := ne_sh d3 s1 s2 (by decide) (by decide)
    exact ⟨d, d1, by rw [hf.P]; exact d2, by rw [hf.sh]; exact d3, fun j hj => (hf.I _ _ fun z => kd z.1).trans (d4 j hj)⟩
theorem PapR.put {x A n i0 : Nat} {w w' : Wd} {p : Option Nat} {sl : Int32} {sb : Nat → Int32} (h : PapR x w p sl sb) (hf : Fr (fun a j => (a = A + 1 ∨ a = A + 2) ∧ j = i0) w w') (s1 : wsh w (A + 1) = (100, n)) (s2 : wsh w (A + 2) = (101, n)) : PapR x w' p sl sb := by
  obtain ⟨m, a, h1, h2, h3, h4, h5, h6, h7, b, h8, h9, h10⟩ := h
  have ka := ne_sh h6 s1 s2 (by decide) (by decide)
  have kb := ne_sh h9 s1 s2 (by decide) (by decide)
  exact ⟨m, a, h1, h2, h3, h4, fun c hc => h5 c (by rw [hf.P] at hc; exact hc), by rw [hf.sh]; exact h6, (hf.I _ _ fun z => ka z.1).trans h7, b, by rw [hf.P]; exact h8, by rw [hf.sh]; exact h9, fun i hi => by rw [hf.I _ _ fun z => kb z.1]; exact h10 i hi⟩
theorem RowAt.put {A n i0 a kd m : Nat} {w w' : Wd} {K : Nat → Int32} {V : Nat → Int64} (h : RowAt w a kd m K V) (hf : Fr (fun a j => (a = A + 1 ∨ a = A + 2) ∧ j = i0) w w') (s1 : wsh w (A + 1) = (100, n)) (s2 : wsh w (A + 2) = (101, n)) (hne : a ≠ A) : RowAt w' a kd m K V := by
  obtain ⟨h1, h2, h3, h4, h5, h6, h7⟩ := h
  have k0 := ne_sh h1 s1 s2 (by decide) (by decide)
  have k1 : ¬ (a + 1 = A + 1 ∨ a + 1 = A + 2) := fun z => by
    rcases z with z | z
    · omega
    · rw [z, s2] at h5; cases h5
  have k2 : ¬ (a + 2 = A + 1 ∨ a + 2 = A + 2) := fun z => by
    rcases z with z | z
    · rw [z, s1] at h6; cases h6
    · omega
  exact ⟨by rw [hf.sh]; exact h1, (hf.I _ _ fun z => k0 z.1).trans h2, by rw [hf.P]; exact h3, by rw [hf.P]; exact h4, by rw [hf.sh]; exact h5, by rw [hf.sh]; exact h6, fun i hi => ⟨(hf.I _ _ fun z => k1 z.1).trans (h7 i hi).1, (hf.L _ _ fun z => k2 z.1).trans (h7 i hi).2⟩⟩
theorem RowsX.put {b A n i0 : Nat} {w w' : Wd} {P : Nat → Option Nat} {ra : Nat → Nat} {sl rk rs kd : Nat → Int32} {vl : Nat → Int64} (h : RowsX b w P ra sl rk rs kd vl) (hf : Fr (fun a j => (a = A + 1 ∨ a = A + 2) ∧ j = i0) w w') (s0 : wI w A 0 = nI 0 ∨ ∃ k, k ≤ 8 ∧ wI w A 0 = nI k) (s1 : wsh w (A + 1) = (100, n)) (s2 : wsh w (A + 2) = (101, n)) (hne : ∀ t r, t < 8 → r < 8 → sl t = nI r → ra r ≠ A) : RowsX b w' P ra sl rk rs kd vl := by
  refine ⟨fun t ht => ?_, h.2⟩
  rcases h.1 t ht with z | ⟨z1, a, z2, z3, z4⟩ | ⟨r, h1, h2, h3, h4, a, m, h5, h6, h7, h8⟩
  · exact Or.inl z
  · refine Or.inr (Or.inl ⟨z1, a, z2, z3, z4.put hf s1 s2 fun e => ?_⟩)
    have := z4.2.1
    rw [e] at this
    rcases s0 with q | ⟨k, hk, q⟩
    · rw [this, ni_eq (by omega) (by omega)] at q; cases q
    · rw [this, ni_eq (by omega) (by omega)] at q; omega
  · exact Or.inr (Or.inr ⟨r, h1, h2, h3, h4, a, m, h5, h6, h7, h8.put hf s1 s2 (hne t r ht h1 h2)⟩)
theorem AbsX.put {g : Ge} {x : Nat} {w w' : Wd} {s s' : St} {t0 r0 a n i0 : Nat} (hx : XS g x w) (ra : Nat → Nat) (hR : RowsX (x + 81) w (wP w (x + 1)) ra (s.1 1) (s.1 2) (s.1 3) (s.1 4) (s.2 5)) (hA : ∃ rb, VersX (x + 81) w (wP w (x + 2)) (s.1 6) (fun j i => s.1 (7 + j) i) ∧ TapeR (wI w x 11) (wI w (x + 3)) (s.1 0 15) (s.1 14) ∧ WireR (wI w x 12) (wI w (x + 4)) (s.1 0 13) (s.1 13) ∧ PapR x w (wP w x 10) (s.1 0 17) (s.1 15) ∧ (wI w x 14 = s.1 0 19 ∧ wL w x 15 = s.2 0 20) ∧ LaxR (wI w x 13) (s.1 0 5) ∧ StopR (wI w (x + 36)) (s.1 0 21) (s.1 16) ∧ (∀ i, i < 6 → wI w (x + 5) i = s.1 17 i) ∧ ImgR x w ra rb s)
    (ht0 : t0 < 8) (hr0 : r0 < 8) (e0 : s.1 1 t0 = nI r0) (e1 : s.1 2 r0 = nI a) (e2 : s.1 3 r0 = nI n) (ha : a ≤ 8) (hn : n ≤ 16) (hi : i0 < n) (hb : x + 81 ≤ ra r0) (hS : RowS w (ra r0) a n) (hcel : ∀ i, i < n → CelS w (ra r0) a r0 (s.1 4) (s.2 5) i)
    (hf : Fr (fun b j => (b = ra r0 + 1 ∨ b = ra r0 + 2) ∧ j = i0) w w') (hB : Bt (fun o j => (o = 4 ∨ o = 5) ∧ j = 16 * r0 + i0) s s') (new : CelS w' (ra r0) a r0 (s'.1 4) (s'.2 5) i0) : AbsX x w' s' := by
  obtain ⟨rb, h2, h3, h4, h5, h6, h7, h8, h9, h10⟩ := hA
  obtain ⟨p1, p2, p3, p4, p5, p6⟩ := hS
  have b0 : ∀ j, j < 35 → s'.1 0 j = s.1 0 j ∧ s'.2 0 j = s.2 0 j := fun j hj => ⟨hB.I 0 j (Or.inl ⟨rfl, hj⟩) (by omega), hB.L 0 j (Or.inl ⟨rfl, hj⟩) (by omega)⟩
  have bo : ∀ o, 1 ≤ o → o ≤ 25 → o ≠ 4 → o ≠ 5 → s'.1 o = s.1 o ∧ s'.2 o = s.2 o := fun o h1 h2 h3 h4 => ⟨hB.A o h1 h2 (by omega), hB.B o h1 h2 (by omega)⟩
  have c := fun o h1 h2 h3 h4 => (bo o h1 h2 h3 h4).1
  have fx : ∀ b j, b < x + 81 → wI w' b j = wI w b j ∧ wL w' b j = wL w b j := fun b j hb2 => ⟨hf.I _ _ (by omega), hf.L _ _ (by omega)⟩
  have fxF : ∀ b, b < x + 81 → wI w' b = wI w b := fun b hb2 => funext fun j => (fx b j hb2).1
  have cel : ∀ r i, r < 8 → i < 16 → (r ≠ r0 ∨ i ≠ i0) → s'.1 4 (16 * r + i) = s.1 4 (16 * r + i) ∧ s'.2 5 (16 * r + i) = s.2 5 (16 * r + i) := fun r i hr hi2 hne => ⟨hB.I 4 _ (Or.inr ⟨by decide, by decide⟩) (by omega), hB.L 5 _ (Or.inr ⟨by decide, by decide⟩) (by omega)⟩
  have hCel : ∀ i, i < n → CelS w' (ra r0) a r0 (s'.1 4) (s'.2 5) i := fun i hin => by
    by_cases ei : i = i0
    · subst ei; exact new
    · obtain ⟨o, o1, o2, o3, o4, o5, o6⟩ := hcel i hin
      obtain ⟨q1, q2⟩ := cel r0 i hr0 (by omega) (Or.inr ei)
      exact ⟨o, o1, q1.trans o2, o3, by rw [q2]; exact o4, (hf.I _ _ (by omega)).trans o5, ((hf.L _ _ (by omega)).trans o6).trans q2.symm⟩
  refine ⟨ra, rb, ?_, ?_, ?_, ?_, ?_, ?_, ?_, ?_, ?_, ?_⟩
  · rw [c 1 (by decide) (by decide) (by decide) (by decide), c 2 (by decide) (by decide) (by decide) (by decide), c 3 (by decide) (by decide) (by decide) (by decide), hf.P]
    refine ⟨fun t ht => ?_, hR.2⟩
    rcases hR.1 t ht with z | ⟨z1, a2, z2, z3, z4⟩ | ⟨r, g1, g2, g3, g4, a2, m, g5, g6, g7, g8⟩
    · exact Or.inl z
    · refine Or.inr (Or.inl ⟨z1, a2, z2, z3, z4.put hf p5 p6 fun e => ?_⟩)
      have q := z4.2.1
      rw [e, p2, ni_eq (by omega) (by omega)] at q
      omega
    · by_cases er : r = r0
      · subst er
        have ea : a2 = a := by have := g5.symm.trans e1; rwa [ni_eq (by have := g7.1; omega) (by omega)] at this
        have em : m = n := by have := g6.symm.trans e2; rwa [ni_eq (by have := g7.2.1; omega) (by omega)] at this
        subst ea em
        refine Or.inr (Or.inr ⟨r, g1, g2, g3, g4, a2, m, g5, g6, ⟨ha, hn, fun i hin => ?_⟩, ⟨by rw [hf.sh]; exact p1, (hf.I _ _ (by omega)).trans p2, by rw [hf.P]; exact p3, by rw [hf.P]; exact p4, by rw [hf.sh]; exact p5, by rw [hf.sh]; exact p6, fun i hin => ?_⟩⟩)
        · obtain ⟨o, o1, o2, o3, o4, -⟩ := hCel i hin
          exact ⟨⟨o, o1, o2, o3⟩, by show cvl (s'.1 4 (16 * r + i)) _; rw [o2]; exact o4⟩
        · obtain ⟨o, o1, o2, o3, o4, o5, o6⟩ := hCel i hin
          exact ⟨o5.trans o2.symm, o6⟩
      · have hne : ra r ≠ ra r0 := fun e => er (hR.2 t t0 r r0 ht ht0 g1 hr0 g2 e0 e)
        have cg : ∀ i, i < 16 → s'.1 4 (16 * r + i) = s.1 4 (16 * r + i) ∧ s'.2 5 (16 * r + i) = s.2 5 (16 * r + i) := fun i hi2 => cel r i g1 hi2 (Or.inl er)
        exact Or.inr (Or.inr ⟨r, g1, g2, g3, g4, a2, m, g5, g6, g7.cg cg, (g8.put hf p5 p6 hne).cg g7.2.1 cg⟩)
  · rw [c 6 (by decide) (by decide) (by decide) (by decide), hf.P]
    refine (h2.put hf p5 p6).cg (fun v _ => rfl) fun j i hj _ => ?_
    rw [c (7 + j) (by omega) (by omega) (by omega) (by omega)]
  · exact tapR_cg h3 (fx x 11 (by omega)).1 (fxF _ (by omega)) (b0 15 (by decide)).1 (c 14 (by decide) (by decide) (by decide) (by decide))
  · exact wirR_cg h4 (fx x 12 (by omega)).1 (fxF _ (by omega)) (b0 13 (by decide)).1 (c 13 (by decide) (by decide) (by decide) (by decide))
  · rw [hf.P, (b0 17 (by decide)).1, c 15 (by decide) (by decide) (by decide) (by decide)]
    exact h5.put hf p5 p6
  · exact ⟨(fx x 14 (by omega)).1.trans (h6.1.trans (b0 19 (by decide)).1.symm), (fx x 15 (by omega)).2.trans (h6.2.trans (b0 20 (by decide)).2.symm)⟩
  · rw [(fx x 13 (by omega)).1, (b0 5 (by decide)).1]
    exact h7
  · exact h8.cg (fun i _ => (fx _ i (by omega)).1) (b0 21 (by decide)).1 fun i _ => by rw [c 16 (by decide) (by decide) (by decide) (by decide)]
  · intro i hi6
    rw [(fx _ i (by omega)).1, c 17 (by decide) (by decide) (by decide) (by decide)]
    exact h9 i hi6
  · obtain ⟨k0, k1⟩ := h10
    unfold ImgR
    rw [(fx _ 0 (by omega)).1, (b0 24 (by decide)).1]
    refine ⟨k0, k1.imp id fun ⟨m0, m1, m2, m3, m4, m5⟩ => ⟨m0, ?_, ?_, ?_, ?_, ?_⟩⟩
    · rw [hf.P, c 18 (by decide) (by decide) (by decide) (by decide), c 19 (by decide) (by decide) (by decide) (by decide), c 20 (by decide) (by decide) (by decide) (by decide), c 21 (by decide) (by decide) (by decide) (by decide), (bo 22 (by decide) (by decide) (by decide) (by decide)).2]
      exact m1.put hf (Or.inr ⟨a, ha, p2⟩) p5 p6 fun t r ht hr er => (m5 t0 t r0 r ht0 ht hr0 hr e0 er).symm
    · rw [hf.P, c 23 (by decide) (by decide) (by decide) (by decide), c 24 (by decide) (by decide) (by decide) (by decide)]
      exact m2.put hf p5 p6
    · exact wirR_cg m3 (fx _ 4 (by omega)).1 (fxF _ (by omega)) (b0 26 (by decide)).1 (c 25 (by decide) (by decide) (by decide) (by decide))
    · rw [(fx _ 5 (by omega)).1, (b0 25 (by decide)).1]
      exact m4
    · rw [c 1 (by decide) (by decide) (by decide) (by decide), c 18 (by decide) (by decide) (by decide) (by decide)]
      exact m5
