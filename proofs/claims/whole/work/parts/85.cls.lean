/-! the class: what a call keeps -/
def Same (a : Nat) (w w' : Wd) : Prop := wsh w' a = wsh w a ∧ wI w' a = wI w a ∧ wL w' a = wL w a ∧ wP w' a = wP w a
theorem Same.rf {a : Nat} {w : Wd} : Same a w w := ⟨rfl, rfl, rfl, rfl⟩
theorem Same.tr {a : Nat} {w w1 w2 : Wd} (h1 : Same a w w1) (h2 : Same a w1 w2) : Same a w w2 := ⟨h2.1.trans h1.1, h2.2.1.trans h1.2.1, h2.2.2.1.trans h1.2.2.1, h2.2.2.2.trans h1.2.2.2⟩
/-- what has not been made yet has no shape -/
def WF (w : Wd) : Prop := ∀ a, wn w ≤ a → 109 ≤ (wsh w a).1
def Xo (g : Ge) (x : Nat) (w w' : Wd) : Prop := wn w ≤ wn w' ∧ WF w' ∧ XS g x w' ∧ ∀ a, (a < x ∨ (x + 41 ≤ a ∧ a < x + 81)) → Same a w w'
/-- the class between two calls -/
def CI (g : Ge) (x : Nat) (w : Wd) (s : St) : Prop := XS g x w ∧ Cn g w ∧ WF w ∧ x + 81 ≤ wn w ∧ AbsX x w s
theorem Fr.same {S : Nat → Nat → Prop} {w w' : Wd} (h : Fr S w w') {a : Nat} (hs : ∀ j, ¬ S a j) : Same a w w' := ⟨by rw [h.sh], funext fun j => h.I _ _ (hs j), funext fun j => h.L _ _ (hs j), by rw [h.P]⟩
theorem Fr.wfk {S : Nat → Nat → Prop} {w w' : Wd} (h : Fr S w w') (hw : WF w) : WF w' := fun a ha => by
  rw [h.n] at ha
  rw [h.sh]
  exact hw a ha
theorem Fr.xo {g : Ge} {x : Nat} {S : Nat → Nat → Prop} {w w' : Wd} (h : Fr S w w') (hx : XS g x w) (hw : WF w) (hs : ∀ a j, (a < x ∨ (x + 41 ≤ a ∧ a < x + 81)) → ¬ S a j) : Xo g x w w' := ⟨Nat.le_of_eq h.n.symm, h.wfk hw, hx.fr h, fun a ha => h.same fun j => hs a j ha⟩
theorem Fr.keep {x : Nat} {S : Nat → Nat → Prop} {w w' : Wd} (h : Fr S w w') (hs : ∀ a j, (a < x ∨ x + 81 ≤ a) → ¬ S a j) : Keep x w w' := fun a ha _ => h.same fun j => hs a j ha
theorem FldW.cg {f f' : Nat → Int32} (h : FldW f) (e : ∀ j, j < 6 → f' j = f j) : FldW f' := by
  obtain ⟨sl, kd, c, nd, td, a1, a2, a3, a4, a5, f0, f1, f2, f3, f4, f5, f6, f7, f8⟩ := h
  refine ⟨sl, kd, c, nd, td, a1, a2, a3, a4, a5, (e 0 (by decide)).trans f0, (e 1 (by decide)).trans f1, (e 2 (by decide)).trans f2, (e 3 (by decide)).trans f3, (e 4 (by decide)).trans f4, fun z => (e 5 (by decide)).trans (f5 z), f6, ?_, ?_⟩
  · rw [e 5 (by decide)]; exact f7
  · rw [e 5 (by decide)]; exact f8
theorem VersX.cg {b : Nat} {w : Wd} {P : Nat → Option Nat} {mn mn' : Nat → Int32} {f f' : Nat → Nat → Int32} (h : VersX b w P mn f) (e1 : ∀ v, v < 6 → mn' v = mn v) (e2 : ∀ j i, j < 6 → i < 48 → f' j i = f j i) : VersX b w P mn' f' := by
  intro v hv
  rcases h v hv with ⟨a1, a2⟩ | ⟨a, n, h1, h2, h3, ⟨h4, h5, h6⟩, ⟨g1, g2, g3, c, g4, g5, g6, g7⟩⟩
  · exact Or.inl ⟨(e1 v hv).trans a1, a2⟩
  · refine Or.inr ⟨a, n, h1, (e1 v hv).trans h2, h3, ⟨h4, fun k hk => (h5 k hk).cg fun j hj => e2 j _ hj (by omega), fun k l hk hl e => h6 k l hk hl ?_⟩, ⟨g1, g2, g3, c, g4, g5, g6, fun k hk => ?_⟩⟩
    · have q1 := e2 0 (8 * v + k) (by decide) (by omega)
      have q2 := e2 0 (8 * v + l) (by decide) (by omega)
      exact q1.symm.trans (Eq.trans e q2)
    · obtain ⟨d, d1, d2, d3, d4⟩ := g7 k hk
      exact ⟨d, d1, d2, d3, fun j hj => (d4 j hj).trans (e2 j _ hj (by omega)).symm⟩
theorem RowV.cg {a n : Nat} {K K' : Nat → Int32} {V V' : Nat → Int64} (h : RowV a n K V) (e : ∀ i, i < 16 → K' i = K i ∧ V' i = V i) : RowV a n K' V' := by
  refine ⟨h.1, h.2.1, fun i hi => ?_⟩
  have hn := h.2.1
  rw [(e i (by omega)).1, (e i (by omega)).2]
  exact h.2.2 i hi
theorem RowAt.cg {w : Wd} {a kd n : Nat} {K K' : Nat → Int32} {V V' : Nat → Int64} (h : RowAt w a kd n K V) (hn : n ≤ 16) (e : ∀ i, i < 16 → K' i = K i ∧ V' i = V i) : RowAt w a kd n K' V' := by
  obtain ⟨h1, h2, h3, h4, h5, h6, h7⟩ := h
  refine ⟨h1, h2, h3, h4, h5, h6, fun i hi => ?_⟩
  rw [(e i (by omega)).1, (e i (by omega)).2]
  exact h7 i hi
/-- only what the slots hold counts -/
theorem RowsX.cg {b : Nat} {w : Wd} {P P' : Nat → Option Nat} {ra : Nat → Nat} {sl sl' rk rk' rs rs' kd kd' : Nat → Int32} {vl vl' : Nat → Int64} (h : RowsX b w P ra sl rk rs kd vl) (e0 : ∀ t, t < 8 → P' t = P t) (e1 : ∀ t, t < 8 → sl' t = sl t) (e2 : ∀ t r, t < 8 → r < 8 → sl t = nI r → rk' r = rk r ∧ rs' r = rs r ∧ ∀ i, i < 16 → kd' (16 * r + i) = kd (16 * r + i) ∧ vl' (16 * r + i) = vl (16 * r + i)) : RowsX b w P' ra sl' rk' rs' kd' vl' := by
  refine ⟨fun t ht => ?_, fun t u r q ht hu hr hq a1 a2 a3 => h.2 t u r q ht hu hr hq ((e1 t ht).symm.trans a1) ((e1 u hu).symm.trans a2) a3⟩
  rw [e0 t ht, e1 t ht]
  rcases h.1 t ht with z | z | ⟨r, h1, h2, h3, h4, a, n, h5, h6, h7, h8⟩
  · exact Or.inl z
  · exact Or.inr (Or.inl z)
  · obtain ⟨g1, g2, g3⟩ := e2 t r ht h1 h2
    exact Or.inr (Or.inr ⟨r, h1, h2, h3, h4, a, n, g1.trans h5, g2.trans h6, h7.cg g3, h8.cg h7.2.1 g3⟩)
theorem Bt.none2A {s s' : St} (h : Bt none2 s s') {o : Nat} (h1 : 1 ≤ o) (h2 : o ≤ 25) : s'.1 o = s.1 o ∧ s'.2 o = s.2 o := ⟨h.A o h1 h2 fun _ => id, h.B o h1 h2 fun _ => id⟩
/-- the image's part that a call leaves alone -/
theorem ImgR.keep {x : Nat} {w w' : Wd} {ra ra' rb : Nat → Nat} {s s' : St} (h : ImgR x w ra rb s) (hk : Keep x w w') (p3 : wP w' (x + 38) = wP w (x + 38)) (p4 : wP w' (x + 39) = wP w (x + 39)) (i37 : wI w' (x + 37) = wI w (x + 37)) (i40 : wI w' (x + 40) = wI w (x + 40)) (b18 : ∀ o, 18 ≤ o → o ≤ 25 → s'.1 o = s.1 o ∧ s'.2 o = s.2 o) (b24 : ∀ j, 24 ≤ j → j ≤ 26 → s'.1 0 j = s.1 0 j) (hne : s.1 0 24 = 1 → ∀ t u r q, t < 8 → u < 8 → r < 8 → q < 8 → s'.1 1 t = nI r → s.1 18 u = nI q → ra' r ≠ rb q) : ImgR x w' ra' rb s' := by
  have c := fun o h1 h2 => (b18 o h1 h2).1
  obtain ⟨h0, h⟩ := h
  unfold ImgR
  rw [i37, b24 24 (by decide) (by decide)]
  refine ⟨h0, h.imp id fun ⟨g0, g1, g2, g3, g4, g5⟩ => ⟨g0, ?_, ?_, ?_, ?_, ?_⟩⟩
  · rw [p3, c 18 (by decide) (by decide), c 19 (by decide) (by decide), c 20 (by decide) (by decide), c 21 (by decide) (by decide), (b18 22 (by decide) (by decide)).2]
    exact g1.keep hk rfl
  · rw [p4, c 23 (by decide) (by decide), c 24 (by decide) (by decide)]
    exact g2.keep hk rfl
  · rw [i40, b24 26 (by decide) (by decide), c 25 (by decide) (by decide)]
    exact g3
  · rw [b24 25 (by decide) (by decide)]
    exact g4
  · rw [c 18 (by decide) (by decide)]
    exact hne g0
theorem ImgR.ne {x : Nat} {w : Wd} {ra rb : Nat → Nat} {s : St} (h : ImgR x w ra rb s) (h1 : s.1 0 24 = 1) : ∀ t u r q, t < 8 → u < 8 → r < 8 → q < 8 → s.1 1 t = nI r → s.1 18 u = nI q → ra r ≠ rb q := by
  rcases h.2 with z | ⟨-, -, -, -, -, z⟩
  · rw [h1] at z
    exact absurd z (by decide)
  · exact z
/-- a call that writes ints and longs of the class alone -/
theorem AbsX.ints {x : Nat} {w w' : Wd} {s s' : St} (hA : AbsX x w s) (hk : Keep x w w') (hp : ∀ a, x ≤ a → a ≤ x + 40 → (a = x ∨ a = x + 1 ∨ a = x + 2 ∨ a = x + 38 ∨ a = x + 39) → wP w' a = wP w a)
    (b1 : ∀ o, 1 ≤ o → o ≤ 12 → s'.1 o = s.1 o ∧ s'.2 o = s.2 o) (b15 : s'.1 15 = s.1 15) (b17 : s'.1 0 17 = s.1 0 17) (b18 : ∀ o, 18 ≤ o → o ≤ 25 → s'.1 o = s.1 o ∧ s'.2 o = s.2 o) (b24 : ∀ j, 24 ≤ j → j ≤ 26 → s'.1 0 j = s.1 0 j) (i37 : wI w' (x + 37) = wI w (x + 37)) (i40 : wI w' (x + 40) = wI w (x + 40))
    (t : TapeR (wI w' x 11) (wI w' (x + 3)) (s'.1 0 15) (s'.1 14)) (wr : WireR (wI w' x 12) (wI w' (x + 4)) (s'.1 0 13) (s'.1 13)) (lt : wI w' x 14 = s'.1 0 19 ∧ wL w' x 15 = s'.2 0 20) (lx : LaxR (wI w' x 13) (s'.1 0 5)) (sp : StopR (wI w' (x + 36)) (s'.1 0 21) (s'.1 16)) (ta : ∀ i, i < 6 → wI w' (x + 5) i = s'.1 17 i) : AbsX x w' s' := by
  obtain ⟨ra, rb, h1, h2, -, -, h5, -, -, -, -, h10⟩ := hA
  have c := fun o h1 h2 => (b1 o h1 h2).1
  refine ⟨ra, rb, ?_, ?_, t, wr, ?_, lt, lx, sp, ta, ?_⟩
  · rw [hp (x + 1) (by omega) (by omega) (by omega), c 1 (by decide) (by decide), c 2 (by decide) (by decide), c 3 (by decide) (by decide), c 4 (by decide) (by decide), (b1 5 (by decide) (by decide)).2]
    exact h1.keep hk rfl
  · rw [hp (x + 2) (by omega) (by omega) (by omega)]
    exact (h2.keep hk rfl).cg (fun v _ => by rw [c 6 (by decide) (by decide)]) fun j i hj _ => by rw [c (7 + j) (by omega) (by omega)]
  · rw [hp x (by omega) (by omega) (by omega), b17, b15]
    exact h5.keep hk rfl
  · refine h10.keep hk (hp _ (by omega) (by omega) (by omega)) (hp _ (by omega) (by omega) (by omega)) i37 i40 b18 b24 ?_
    rw [c 1 (by decide) (by decide)]
    exact h10.ne
theorem XS.tag {g : Ge} {x : Nat} {w : Wd} (h : XS g x w) : ∀ o, (o < 6 ∨ 36 ≤ o) → o ≤ 40 → (wsh w (x + o)).1 < 109 := by
  intro o h1 h2
  rcases (show o = 0 ∨ o = 1 ∨ o = 2 ∨ o = 3 ∨ o = 4 ∨ o = 5 ∨ o = 36 ∨ o = 37 ∨ o = 38 ∨ o = 39 ∨ o = 40 by omega) with rfl | rfl | rfl | rfl | rfl | rfl | rfl | rfl | rfl | rfl | rfl
  · rw [Nat.add_zero, xs_obj h]; decide
  · rw [xs_slots h]; decide
  · rw [xs_versions h]; decide
  · rw [xs_tape h]; show 100 < 109; omega
  · rw [xs_wire h]; show 100 < 109; omega
  · rw [xs_tallies h]; show 100 < 109; omega
  · rw [xs_stop h]; show 100 < 109; omega
  · rw [xs_kept h]; decide
  · rw [xs_kslots h]; decide
  · rw [xs_kversions h]; decide
  · rw [xs_kwire h]; show 100 < 109; omega
/-- a call that changes nothing that stays -/
theorem AbsX.ro {g : Ge} {x : Nat} {w w' : Wd} {s s' : St} (hA : AbsX x w s) (hx : XS g x w) (hk : ∀ a, (a < x + 6 ∨ x + 36 ≤ a) → (wsh w a).1 < 109 → Same a w w') (hB : Bt none2 s s') : AbsX x w' s' := by
  have S : ∀ o, (o < 6 ∨ 36 ≤ o) → o ≤ 40 → Same (x + o) w w' := fun o h1 h2 => hk _ (by omega) (hx.tag o h1 h2)
  have S0 : Same x w w' := S 0 (by decide) (by decide)
  have b0 : ∀ j, j < 35 → s'.1 0 j = s.1 0 j ∧ s'.2 0 j = s.2 0 j := fun j hj => hB 0 j (Or.inl ⟨rfl, hj⟩) id
  obtain ⟨ra, rb, h1, h2, h3, h4, h5, h6, h7, h8, h9, h10⟩ := id hA
  refine hA.ints (fun a ha ht => hk a (by omega) ht) (fun a h1 h2 h3 => ?_) (fun o h1 h2 => hB.none2A h1 (by omega)) (hB.none2A (by decide) (by decide)).1 (b0 17 (by decide)).1 (fun o h1 h2 => hB.none2A (by omega) h2) (fun j h1 h2 => (b0 j (by omega)).1) (S 37 (by decide) (by decide)).2.1 (S 40 (by decide) (by decide)).2.1 ?_ ?_ ?_ ?_ ?_ ?_
  · obtain ⟨o, rfl⟩ : ∃ o, a = x + o := ⟨a - x, by omega⟩
    exact (S o (by omega) (by omega)).2.2.2
  · rw [S0.2.1, (S 3 (by decide) (by decide)).2.1, (b0 15 (by decide)).1, (hB.none2A (o := 14) (by decide) (by decide)).1]
    exact h3
  · rw [S0.2.1, (S 4 (by decide) (by decide)).2.1, (b0 13 (by decide)).1, (hB.none2A (o := 13) (by decide) (by decide)).1]
    exact h4
  · rw [S0.2.1, S0.2.2.1, (b0 19 (by decide)).1, (b0 20 (by decide)).2]
    exact h6
  · rw [S0.2.1, (b0 5 (by decide)).1]
    exact h7
  · rw [(S 36 (by decide) (by decide)).2.1, (b0 21 (by decide)).1, (hB.none2A (o := 16) (by decide) (by decide)).1]
    exact h8
  · intro i hi
    rw [(S 5 (by decide) (by decide)).2.1, (hB.none2A (o := 17) (by decide) (by decide)).1]
    exact h9 i hi
theorem AbsX.bt {g : Ge} {x : Nat} {w : Wd} {s s' : St} (hA : AbsX x w s) (hx : XS g x w) (hB : Bt none2 s s') : AbsX x w s' := hA.ro hx (fun _ _ _ => Same.rf) hB
theorem Xo.rf {g : Ge} {x : Nat} {w : Wd} (hx : XS g x w) (hw : WF w) : Xo g x w w := ⟨Nat.le_refl _, hw, hx, fun _ _ => Same.rf⟩
