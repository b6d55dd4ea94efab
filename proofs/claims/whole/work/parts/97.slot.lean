/-! the class: a slot set anew -/
theorem XS.sm {g : Ge} {x : Nat} {w w' : Wd} (h : XS g x w) (hs : ∀ o, o ≤ 40 → wsh w' (x + o) = wsh w (x + o)) (hp : ∀ q ∈ xpT, wP w' (x + q.1) q.2.1 = wP w (x + q.1) q.2.1) : XS g x w' := by
  have t1 : ∀ q ∈ xoT, q.1 ≤ 40 := by decide
  exact ⟨h.1, fun q hq => (hs q.1 (t1 q hq)).trans (h.2.1 q hq), fun q hq => (hp q hq).trans (h.2.2 q hq)⟩
theorem XS.sam {g : Ge} {x : Nat} {w w' : Wd} (h : XS g x w) (hs : ∀ o, o ≤ 40 → Same (x + o) w w') : XS g x w' := by
  have t2 : ∀ q ∈ xpT, q.1 ≤ 40 := by decide
  exact h.sm (fun o ho => (hs o ho).1) fun q hq => by rw [(hs q.1 (t2 q hq)).2.2.2]
theorem RowsX.upd {b : Nat} {w : Wd} {P P' : Nat → Option Nat} {ra : Nat → Nat} {sl sl' rk rs kd : Nat → Int32} {vl : Nat → Int64} {t0 : Nat} (h : RowsX b w P ra sl rk rs kd vl) (ht0 : t0 < 8) (e : ∀ t, t < 8 → t ≠ t0 → P' t = P t ∧ sl' t = sl t) (new : (sl' t0 = -1 ∧ P' t0 = none) ∨ (sl' t0 = 9 ∧ ∃ a, b ≤ a ∧ P' t0 = some a ∧ RowAt w a 9 0 (fun _ => 0) (fun _ => 0))) : RowsX b w P' ra sl' rk rs kd vl := by
  have nr : ∀ r, r < 8 → ¬ sl' t0 = nI r := fun r hr z => by
    rcases new with ⟨q, -⟩ | ⟨q, -⟩
    · rw [q] at z
      exact absurd z.symm (ni_nem (by omega))
    · rw [q, show (9 : Int32) = nI 9 from rfl, ni_eq (by omega) (by omega)] at z
      omega
  refine ⟨fun t ht => ?_, fun t u r q ht hu hr hq a1 a2 a3 => ?_⟩
  · by_cases et : t = t0
    · subst et
      exact new.imp id Or.inl
    · rw [(e t ht et).1, (e t ht et).2]
      exact h.1 t ht
  · have k1 : t ≠ t0 := fun z => by subst z; exact nr r hr a1
    have k2 : u ≠ t0 := fun z => by subst z; exact nr q hq a2
    exact h.2 t u r q ht hu hr hq ((e t ht k1).2.symm.trans a1) ((e u hu k2).2.symm.trans a2) a3
theorem RowsX.fresh {b : Nat} {w : Wd} {P P' : Nat → Option Nat} {ra : Nat → Nat} {sl sl' rk rk' rs rs' kd kd' : Nat → Int32} {vl vl' : Nat → Int64} {t0 r0 A a n : Nat} (h : RowsX b w P ra sl rk rs kd vl) (ht0 : t0 < 8) (hr0 : r0 < 8) (hA : b ≤ A) (e : ∀ t, t < 8 → t ≠ t0 → P' t = P t ∧ sl' t = sl t) (hno : ∀ t, t < 8 → t ≠ t0 → ¬ sl t = nI r0) (hne : ∀ t r, t < 8 → r < 8 → sl t = nI r → ra r ≠ A) (e2 : ∀ r, r < 8 → r ≠ r0 → rk' r = rk r ∧ rs' r = rs r ∧ ∀ i, i < 16 → kd' (16 * r + i) = kd (16 * r + i) ∧ vl' (16 * r + i) = vl (16 * r + i)) (p : P' t0 = some A) (q : sl' t0 = nI r0) (g1 : rk' r0 = nI a) (g2 : rs' r0 = nI n) (g3 : RowV a n (fun i => kd' (16 * r0 + i)) (fun i => vl' (16 * r0 + i))) (g4 : RowAt w A a n (fun i => kd' (16 * r0 + i)) (fun i => vl' (16 * r0 + i))) {ra' : Nat → Nat} (f0 : ra' r0 = A) (f1 : ∀ r, r ≠ r0 → ra' r = ra r) : RowsX b w P' ra' sl' rk' rs' kd' vl' := by
  refine ⟨fun t ht => ?_, fun t u r q2 ht hu hr hq a1 a2 a3 => ?_⟩
  · by_cases et : t = t0
    · subst et
      exact Or.inr (Or.inr ⟨r0, hr0, q, by rw [f0]; exact p, by rw [f0]; exact hA, a, n, g1, g2, g3, by rw [f0]; exact g4⟩)
    · rw [(e t ht et).1, (e t ht et).2]
      rcases h.1 t ht with z | z | ⟨r, h1, h2, h3, h4, a2, m, h5, h6, h7, h8⟩
      · exact Or.inl z
      · exact Or.inr (Or.inl z)
      · have er : r ≠ r0 := fun z => by subst z; exact hno t ht et h2
        obtain ⟨y1, y2, y3⟩ := e2 r h1 er
        exact Or.inr (Or.inr ⟨r, h1, h2, by rw [f1 r er]; exact h3, by rw [f1 r er]; exact h4, a2, m, y1.trans h5, y2.trans h6, h7.cg y3, by rw [f1 r er]; exact h8.cg h7.2.1 y3⟩)
  · have key : ∀ t r, t < 8 → r < 8 → sl' t = nI r → (r = r0 ∧ t = t0) ∨ (r ≠ r0 ∧ sl t = nI r) := fun t r ht hr z => by
      by_cases et : t = t0
      · subst et
        rw [q, ni_eq (by omega) (by omega)] at z
        exact Or.inl ⟨z.symm, rfl⟩
      · have z2 := (e t ht et).2.symm.trans z
        exact Or.inr ⟨fun y => by subst y; exact hno t ht et z2, z2⟩
    rcases key t r ht hr a1 with ⟨k1, k2⟩ | ⟨k1, k2⟩ <;> rcases key u q2 hu hq a2 with ⟨l1, l2⟩ | ⟨l1, l2⟩
    · exact k1.trans l1.symm
    · rw [k1, f0, f1 _ l1] at a3
      exact absurd a3.symm (hne u q2 hu hq l2)
    · rw [l1, f0, f1 _ k1] at a3
      exact absurd a3 (hne t r ht hr k2)
    · rw [f1 _ k1, f1 _ l1] at a3
      exact h.2 t u r q2 ht hu hr hq k2 l2 a3
theorem RowsX.perm {b : Nat} {w : Wd} {P P' : Nat → Option Nat} {ra : Nat → Nat} {sl sl' rk rs kd : Nat → Int32} {vl : Nat → Int64} (h : RowsX b w P ra sl rk rs kd vl) (e : ∀ t, t < 8 → ∃ u, u < 8 ∧ P' t = P u ∧ sl' t = sl u) : RowsX b w P' ra sl' rk rs kd vl := by
  refine ⟨fun t ht => ?_, fun t u r q ht hu hr hq a1 a2 a3 => ?_⟩
  · obtain ⟨u, hu, e1, e2⟩ := e t ht
    rw [e1, e2]
    exact h.1 u hu
  · obtain ⟨t', ht', -, e2⟩ := e t ht
    obtain ⟨u', hu', -, f2⟩ := e u hu
    exact h.2 t' u' r q ht' hu' hr hq (e2.symm.trans a1) (f2.symm.trans a2) a3
/-- the rows are others, the rest is as it was -/
theorem AbsX.rowsTo {x : Nat} {w w' : Wd} {s s' : St} {T : Nat → Nat → Prop} {ra ra' rb : Nat → Nat} (h2 : VersX (x + 81) w (wP w (x + 2)) (s.1 6) (fun j i => s.1 (7 + j) i) ∧ TapeR (wI w x 11) (wI w (x + 3)) (s.1 0 15) (s.1 14) ∧ WireR (wI w x 12) (wI w (x + 4)) (s.1 0 13) (s.1 13) ∧ PapR x w (wP w x 10) (s.1 0 17) (s.1 15) ∧ (wI w x 14 = s.1 0 19 ∧ wL w x 15 = s.2 0 20) ∧ LaxR (wI w x 13) (s.1 0 5) ∧ StopR (wI w (x + 36)) (s.1 0 21) (s.1 16) ∧ (∀ i, i < 6 → wI w (x + 5) i = s.1 17 i) ∧ ImgR x w ra rb s)
    (hk : Keep x w w') (hS : ∀ o, o ≤ 40 → o ≠ 1 → Same (x + o) w w') (hB : Bt T s s') (hT : ∀ o j, T o j → 1 ≤ o ∧ o ≤ 5) (h1 : RowsX (x + 81) w' (wP w' (x + 1)) ra' (s'.1 1) (s'.1 2) (s'.1 3) (s'.1 4) (s'.2 5)) (hne : s.1 0 24 = 1 → ∀ t u r q, t < 8 → u < 8 → r < 8 → q < 8 → s'.1 1 t = nI r → s.1 18 u = nI q → ra' r ≠ rb q) : AbsX x w' s' := by
  obtain ⟨h2, h3, h4, h5, h6, h7, h8, h9, h10⟩ := h2
  have b0 : ∀ j, j < 35 → s'.1 0 j = s.1 0 j ∧ s'.2 0 j = s.2 0 j := fun j hj => hB 0 j (Or.inl ⟨rfl, hj⟩) fun z => by have := hT _ _ z; omega
  have bo : ∀ o, 6 ≤ o → o ≤ 25 → s'.1 o = s.1 o ∧ s'.2 o = s.2 o := fun o h1 h2 => ⟨hB.A o (by omega) h2 fun j z => by have := hT _ _ z; omega, hB.B o (by omega) h2 fun j z => by have := hT _ _ z; omega⟩
  have c := fun o h1 h2 => (bo o h1 h2).1
  have S0 : Same x w w' := hS 0 (by decide) (by decide)
  refine ⟨ra', rb, h1, ?_, ?_, ?_, ?_, ?_, ?_, ?_, ?_, ?_⟩
  · rw [(hS 2 (by decide) (by decide)).2.2.2]
    exact (h2.keep hk rfl).cg (fun v _ => by rw [c 6 (by decide) (by decide)]) fun j i hj _ => by rw [c (7 + j) (by omega) (by omega)]
  · rw [S0.2.1, (hS 3 (by decide) (by decide)).2.1, (b0 15 (by decide)).1, c 14 (by decide) (by decide)]
    exact h3
  · rw [S0.2.1, (hS 4 (by decide) (by decide)).2.1, (b0 13 (by decide)).1, c 13 (by decide) (by decide)]
    exact h4
  · rw [S0.2.2.2, (b0 17 (by decide)).1, c 15 (by decide) (by decide)]
    exact h5.keep hk rfl
  · rw [S0.2.1, S0.2.2.1, (b0 19 (by decide)).1, (b0 20 (by decide)).2]
    exact h6
  · rw [S0.2.1, (b0 5 (by decide)).1]
    exact h7
  · rw [(hS 36 (by decide) (by decide)).2.1, (b0 21 (by decide)).1, c 16 (by decide) (by decide)]
    exact h8
  · intro i hi
    rw [(hS 5 (by decide) (by decide)).2.1, c 17 (by decide) (by decide)]
    exact h9 i hi
  · exact h10.keep hk (hS 38 (by decide) (by decide)).2.2.2 (hS 39 (by decide) (by decide)).2.2.2 (hS 37 (by decide) (by decide)).2.1 (hS 40 (by decide) (by decide)).2.1 (fun o h1 h2 => bo o (by omega) h2) (fun j h1 h2 => (b0 j (by omega)).1) hne
theorem WF.lt {w : Wd} (hW : WF w) {a : Nat} (h : (wsh w a).1 < 109) : a < wn w := Decidable.byContradiction fun z => by have := hW a (by omega); omega
theorem RowAt.sam {w w' : Wd} {a kd n : Nat} {K : Nat → Int32} {V : Nat → Int64} (h : RowAt w a kd n K V) (s0 : Same a w w') (s1 : Same (a + 1) w w') (s2 : Same (a + 2) w w') : RowAt w' a kd n K V := by
  obtain ⟨h1, h2, h3, h4, h5, h6, h7⟩ := h
  exact ⟨s0.1.trans h1, by rw [s0.2.1]; exact h2, by rw [s0.2.2.2]; exact h3, by rw [s0.2.2.2]; exact h4, s1.1.trans h5, s2.1.trans h6, fun i hi => ⟨by rw [s1.2.1]; exact (h7 i hi).1, by rw [s2.2.2.1]; exact (h7 i hi).2⟩⟩
theorem RowsX.lt {b : Nat} {w : Wd} (hW : WF w) {P : Nat → Option Nat} {ra : Nat → Nat} {sl rk rs kd : Nat → Int32} {vl : Nat → Int64} (h : RowsX b w P ra sl rk rs kd vl) : ∀ t r, t < 8 → r < 8 → sl t = nI r → ra r < wn w := by
  intro t r ht hr e
  rcases h.1 t ht with ⟨z, -⟩ | ⟨z, -⟩ | ⟨q, h1, h2, h3, h4, a, n, h5, h6, h7, h8⟩
  · exact absurd (e.symm.trans z) (ni_nem (by omega))
  · have := e.symm.trans z
    rw [show (9 : Int32) = nI 9 from rfl, ni_eq (by omega) (by omega)] at this
    omega
  · have := e.symm.trans h2
    rw [ni_eq (by omega) (by omega)] at this
    subst this
    exact hW.lt (by rw [h8.1]; decide)
theorem X7_new_ok {g : Ge} {w : Wd} {k n : Nat} {K : Wd → Nat → Nat → Prop} {kd nn : Nat} (hg : gB g ≤ wn w) (hW : WF w) (hn16 : nn ≤ 16) (hk : 2 ≤ k) (hn : 32 ≤ n) (h : ∀ w', wn w' = wn w + 3 → WF w' → (∀ b, b < wn w → Same b w w') → RowAt w' (wn w) kd nn (fun _ => nI kd) (fun _ => 0) → K w' (k - 2) (n - 32)) : cV g mX7_init [.ref (wn w), .int (nI kd), .int (nI nn)] (nw w 7 0) k n K := X7_init_ok hg (wsh_nwA w 7 0) rfl hn16 hk hn fun w' e1 e2 e3 e4 => h w' e1 (fun b hb => by rw [e4 b (by omega), wsh_nwN (by omega)]; exact hW b (by omega)) (fun b hb => (nw_same (by omega)).tr (e2 b hb)) e3
/-- a slot's write, behind what was made anew -/
theorem slot_put {g : Ge} {x : Nat} {w w' : Wd} (hx : XS g x w) (hW : WF w) (hw : x + 81 ≤ wn w) (e1 : wn w ≤ wn w') (e2 : WF w') (e3 : ∀ b, b < wn w → Same b w w') {o : Nat} (ho : o = 1 ∨ o = 2) (t : Nat) (v : Option Nat) : Xo g x w (sP w' (x + o) t v) ∧ Keep x w (sP w' (x + o) t v) ∧ (∀ o', o' ≤ 40 → o' ≠ o → Same (x + o') w (sP w' (x + o) t v)) ∧ ∀ t', wP (sP w' (x + o) t v) (x + o) t' = if t' = t then v else wP w (x + o) t' := by
  have sm : ∀ b, b < wn w → b ≠ x + o → Same b w (sP w' (x + o) t v) := fun b hb hn => (e3 b hb).tr (sP_same hn)
  refine ⟨⟨by rw [wn_sP]; exact e1, fun b hb => by rw [wn_sP] at hb; rw [wsh_sP]; exact e2 b hb, hx.sm (fun o _ => by rw [wsh_sP]; exact (e3 _ (by omega)).1) fun q hq => ?_, fun b hb => sm b (by omega) (by omega)⟩, fun b hb ht => sm b (hW.lt ht) (by omega), fun o' h1 h2 => sm _ (by omega) (by omega), fun t' => ?_⟩
  · have t1 : ∀ q ∈ xpT, q.1 ≤ 40 ∧ q.1 ≠ 1 ∧ q.1 ≠ 2 := by decide
    have := t1 q hq
    rw [(sm (x + q.1) (by omega) (by omega)).2.2.2]
  · rw [wP_at, (e3 (x + o) (by omega)).2.2.2]
theorem ImgR.lt {x : Nat} {w : Wd} {ra rb : Nat → Nat} {s : St} (hW : WF w) (h : ImgR x w ra rb s) (h1 : s.1 0 24 = 1) : ∀ t r, t < 8 → r < 8 → s.1 18 t = nI r → rb r < wn w := by
  rcases h.2 with z | ⟨-, z, -⟩
  · rw [h1] at z
    exact absurd z (by decide)
  · exact z.lt hW
theorem AbsX.rowTag {x u v : Nat} {w : Wd} {s : St} (hA : AbsX x w s) (hu : u < 8) (e : wP w (x + 1) u = some v) : (wsh w v).1 = aCl 104 := by
  obtain ⟨ra, hR⟩ := hA.rows
  rcases hR.slot hu with ⟨-, z⟩ | ⟨-, a, -, z, z4⟩ | ⟨r, kd, nn, -, -, z, -, -, -, -, -, z4, -⟩
  · rw [z] at e; cases e
  · rw [z] at e; cases e; rw [z4.1]; rfl
  · rw [z] at e; cases e; rw [z4.1]; rfl
set_option maxRecDepth 100000 in
set_option maxHeartbeats 4000000 in
theorem X_same {g : Ge} {w : Wd} {k n : Nat} {K : Int32 → Wd → Nat → Nat → Prop} {x : Nat} {s : St} (hI : CI g x w s) (hk : 1000 ≤ k) (hn : 14000 ≤ n) (a c : Int32) (h : ∀ ans w', Xo g x w w' → (∀ b s', SpSame s a c b s' → b = ans ∧ AbsX x w' s') → K ans w' (k - 1000) (n - 14000)) : cI g mX11_same [.ref x, .int a, .int c] w k n K := by
  obtain ⟨hx, hC, hW, hw, hA⟩ := id hI
  have no : ¬ ((0 ≤ a ∧ a ≤ 7) ∧ 0 ≤ c ∧ c ≤ 7) → K (-1) w (k - 1000) (n - 14000) := fun q => SpNo hI h fun b s' z => by unfold SpSame at z; rw [if_pos q] at z; exact z
  refine cI_of 3 1000 14000 rfl (by decide +kernel) rfl (Nat.le_of_ble_eq_true rfl) hk hn ?_
  simp only [vX11_same_0, vX11_same_1, pI_c, pL_c, pF_c, pD_c, pA_n, pA_c, pA_rf, pR_c, pR_rf, pV_i, pV_a, pV_n, pV_rf, ldI_c, ldL_c, ldF_c, ldD_c, ldA_c, ldA_n, ldA_rf, dup2_l, dup2_ia, dup2_ir, popA_0, popA_s, getL_z, getL_s, setL_z, setL_1, setL_s, setL2_z, setL2_1, setL2_s, drop2_i, drop2_a, drop2_0, drop2_n, drop2_l, drop2_d, drop2_r, cwd_0, cwd_i, cwd_a, cwd_n, cwd_l, cwd_d, cwd_f, cwd_r, rf_s, rf_n, swi_0, swi_s, zR_b0, zR_b1, zN_b0, zN_b1, entV_i, entV_a, entV_n, entV_r, entV_f, entV_l, entV_d, entV_s, entV_0, List.length_cons, List.length_nil, List.nil_append, List.cons_append, true_and, and_true, Nat.reduceAdd, Nat.reduceLT, Nat.reduceEqDiff, Nat.reduceLeDiff, Nat.reduceSub, Nat.zero_add, Classical.not_not, ex_i, ex_l, ex_d, ex_r, ex_rs, ex_rn, ex_sm, Nat.sub_zero, eq_self, wn_sI, wn_sL, wn_sP, wsh_sI, wsh_sL, wsh_sP, wI_sL, wI_sP, wL_sI, wL_sP, wP_sI, wP_sL, wI_sI, wL_sL, Int32.reduceLT, Int32.reduceLE, true_implies, not_true_eq_false, false_implies, not_false_eq_true, i_10]
  refine X11_isSlot_ok _ ?_
  by_cases ha : 0 ≤ a ∧ a ≤ 7
  · rw [b2i_t ha]
    simp only [vX11_same_4, vX11_same_7, vX11_same_8, pI_c, pL_c, pF_c, pD_c, pA_n, pA_c, pA_rf, pR_c, pR_rf, pV_i, pV_a, pV_n, pV_rf, ldI_c, ldL_c, ldF_c, ldD_c, ldA_c, ldA_n, ldA_rf, dup2_l, dup2_ia, dup2_ir, popA_0, popA_s, getL_z, getL_s, setL_z, setL_1, setL_s, setL2_z, setL2_1, setL2_s, drop2_i, drop2_a, drop2_0, drop2_n, drop2_l, drop2_d, drop2_r, cwd_0, cwd_i, cwd_a, cwd_n, cwd_l, cwd_d, cwd_f, cwd_r, rf_s, rf_n, swi_0, swi_s, zR_b0, zR_b1, zN_b0, zN_b1, entV_i, entV_a, entV_n, entV_r, entV_f, entV_l, entV_d, entV_s, entV_0, List.length_cons, List.length_nil, List.nil_append, List.cons_append, true_and, and_true, Nat.reduceAdd, Nat.reduceLT, Nat.reduceEqDiff, Nat.reduceLeDiff, Nat.reduceSub, Nat.zero_add, Classical.not_not, ex_i, ex_l, ex_d, ex_r, ex_rs, ex_rn, ex_sm, Nat.sub_zero, eq_self, wn_sI, wn_sL, wn_sP, wsh_sI, wsh_sL, wsh_sP, wI_sL, wI_sP, wL_sI, wL_sP, wP_sI, wP_sL, wI_sI, wL_sL, Int32.reduceLT, Int32.reduceLE, true_implies, not_true_eq_false, false_implies, not_false_eq_true, i_10, i_10]
    refine X11_isSlot_ok _ ?_
    by_cases hc : 0 ≤ c ∧ c ≤ 7
    · rw [b2i_t hc]
      obtain ⟨t, ht, rfl⟩ := i_slot ha
      obtain ⟨u, hu, rfl⟩ := i_slot hc
      simp (disch := omega) only [vX11_same_11, vX11_same_16, vX11_same_17, vX11_same_20, vX11_same_21, vX11_same_22, vX11_same_25, vX11_same_26, vX11_same_27, vX11_same_28, vX11_same_29, xs_b hx, xs_0 hx, xs_obj hx, xs_slots hx, xp_x_0 hx, pI_c, pL_c, pF_c, pD_c, pA_n, pA_c, pA_rf, pR_c, pR_rf, pV_i, pV_a, pV_n, pV_rf, ldI_c, ldL_c, ldF_c, ldD_c, ldA_c, ldA_n, ldA_rf, dup2_l, dup2_ia, dup2_ir, popA_0, popA_s, getL_z, getL_s, setL_z, setL_1, setL_s, setL2_z, setL2_1, setL2_s, drop2_i, drop2_a, drop2_0, drop2_n, drop2_l, drop2_d, drop2_r, cwd_0, cwd_i, cwd_a, cwd_n, cwd_l, cwd_d, cwd_f, cwd_r, rf_s, rf_n, swi_0, swi_s, zR_b0, zR_b1, zN_b0, zN_b1, entV_i, entV_a, entV_n, entV_r, entV_f, entV_l, entV_d, entV_s, entV_0, List.length_cons, List.length_nil, List.nil_append, List.cons_append, true_and, and_true, Nat.reduceAdd, Nat.reduceLT, Nat.reduceEqDiff, Nat.reduceLeDiff, Nat.reduceSub, Nat.zero_add, Classical.not_not, ex_i, ex_l, ex_d, ex_r, ex_rs, ex_rn, ex_sm, Nat.sub_zero, eq_self, wn_sI, wn_sL, wn_sP, wsh_sI, wsh_sL, wsh_sP, wI_sL, wI_sP, wL_sI, wL_sP, wP_sI, wP_sL, wI_sI, wL_sL, Int32.reduceLT, Int32.reduceLE, true_implies, not_true_eq_false, false_implies, not_false_eq_true, i_10, na_1, nb_1, nm_1, ns_1, nr_1, na_2, nb_2, nm_2, ns_2, nr_2, na_3, nb_3, nm_3, ns_3, nr_3, na_4, nb_4, nm_4, ns_4, nr_4, na_5, nb_5, nm_5, ns_5, nr_5, na_6, nb_6, nm_6, ns_6, nr_6, na_7, nb_7, nm_7, ns_7, nr_7, na_8, nb_8, nm_8, ns_8, nr_8, na_10, nb_10, nm_10, ns_10, nr_10, na_16, nb_16, nm_16, ns_16, nr_16, nl_m1, ni_add, ni_mul, ni_sub, ni_cl, ni_in, vp_0, vp_1, vp_2, vp_3, vp_4, vp_5, Int32.reduceToNatClampNeg, i_10]
      obtain ⟨y1, y2, y3, y4⟩ := slot_put hx hW hw (Nat.le_refl _) hW (fun _ _ => Same.rf) (Or.inl rfl) t (wP w (x + 1) u)
      refine ⟨fun v ev => hA.rowTag hu ev, ?_⟩
      refine h _ _ y1 fun b s' z => ?_
      unfold SpSame at z
      rw [if_neg (not_not_intro ⟨ha, hc⟩), ni_cl (by omega), ni_cl (by omega)] at z
      obtain ⟨z1, z2, z3⟩ := z
      obtain ⟨ra, rb, h1, hrest⟩ := hA
      have e1 : ∀ t', t' < 8 → ∃ u', u' < 8 ∧ wP (sP w (x + 1) t (wP w (x + 1) u)) (x + 1) t' = wP w (x + 1) u' ∧ s'.1 1 t' = s.1 1 u' := fun t' ht' => by
        rw [y4]
        by_cases et : t' = t
        · subst et; exact ⟨u, hu, if_pos rfl, z3⟩
        · exact ⟨t', ht', if_neg et, z2.I 1 t' (Or.inr ⟨by decide, by decide⟩) (by omega)⟩
      refine ⟨z1, AbsX.rowsTo (ra := ra) (ra' := ra) (rb := rb) hrest y2 y3 z2 (by omega) ?_ fun q t' u' r q ht' hu' hr hq a1 a2 => ?_⟩
      · rw [z2.A 2 (by decide) (by decide) (by omega), z2.A 3 (by decide) (by decide) (by omega), z2.A 4 (by decide) (by decide) (by omega), z2.B 5 (by decide) (by decide) (by omega)]
        exact (h1.keep y2 rfl).perm e1
      · obtain ⟨v, hv, -, e3⟩ := e1 t' ht'
        obtain ⟨-, -, -, -, -, -, -, -, h10⟩ := hrest
        exact h10.ne (by assumption) v u' r _ hv hu' hr hq (e3.symm.trans a1) a2
    · rw [b2i_f hc]
      simp only [vX11_same_11, vX11_same_14, vX11_same_15, pI_c, pL_c, pF_c, pD_c, pA_n, pA_c, pA_rf, pR_c, pR_rf, pV_i, pV_a, pV_n, pV_rf, ldI_c, ldL_c, ldF_c, ldD_c, ldA_c, ldA_n, ldA_rf, dup2_l, dup2_ia, dup2_ir, popA_0, popA_s, getL_z, getL_s, setL_z, setL_1, setL_s, setL2_z, setL2_1, setL2_s, drop2_i, drop2_a, drop2_0, drop2_n, drop2_l, drop2_d, drop2_r, cwd_0, cwd_i, cwd_a, cwd_n, cwd_l, cwd_d, cwd_f, cwd_r, rf_s, rf_n, swi_0, swi_s, zR_b0, zR_b1, zN_b0, zN_b1, entV_i, entV_a, entV_n, entV_r, entV_f, entV_l, entV_d, entV_s, entV_0, List.length_cons, List.length_nil, List.nil_append, List.cons_append, true_and, and_true, Nat.reduceAdd, Nat.reduceLT, Nat.reduceEqDiff, Nat.reduceLeDiff, Nat.reduceSub, Nat.zero_add, Classical.not_not, ex_i, ex_l, ex_d, ex_r, ex_rs, ex_rn, ex_sm, Nat.sub_zero, eq_self, wn_sI, wn_sL, wn_sP, wsh_sI, wsh_sL, wsh_sP, wI_sL, wI_sP, wL_sI, wL_sP, wP_sI, wP_sL, wI_sI, wL_sL, Int32.reduceLT, Int32.reduceLE, true_implies, not_true_eq_false, false_implies, not_false_eq_true, i_10]
      exact no fun z => hc z.2
  · rw [b2i_f ha]
    simp only [vX11_same_4, vX11_same_14, vX11_same_15, pI_c, pL_c, pF_c, pD_c, pA_n, pA_c, pA_rf, pR_c, pR_rf, pV_i, pV_a, pV_n, pV_rf, ldI_c, ldL_c, ldF_c, ldD_c, ldA_c, ldA_n, ldA_rf, dup2_l, dup2_ia, dup2_ir, popA_0, popA_s, getL_z, getL_s, setL_z, setL_1, setL_s, setL2_z, setL2_1, setL2_s, drop2_i, drop2_a, drop2_0, drop2_n, drop2_l, drop2_d, drop2_r, cwd_0, cwd_i, cwd_a, cwd_n, cwd_l, cwd_d, cwd_f, cwd_r, rf_s, rf_n, swi_0, swi_s, zR_b0, zR_b1, zN_b0, zN_b1, entV_i, entV_a, entV_n, entV_r, entV_f, entV_l, entV_d, entV_s, entV_0, List.length_cons, List.length_nil, List.nil_append, List.cons_append, true_and, and_true, Nat.reduceAdd, Nat.reduceLT, Nat.reduceEqDiff, Nat.reduceLeDiff, Nat.reduceSub, Nat.zero_add, Classical.not_not, ex_i, ex_l, ex_d, ex_r, ex_rs, ex_rn, ex_sm, Nat.sub_zero, eq_self, wn_sI, wn_sL, wn_sP, wsh_sI, wsh_sL, wsh_sP, wI_sL, wI_sP, wL_sI, wL_sP, wP_sI, wP_sL, wI_sI, wL_sL, Int32.reduceLT, Int32.reduceLE, true_implies, not_true_eq_false, false_implies, not_false_eq_true, i_10]
    exact no fun z => ha z.1
set_option maxRecDepth 100000 in
set_option maxHeartbeats 4000000 in
theorem X_thing {g : Ge} {w : Wd} {k n : Nat} {K : Int32 → Wd → Nat → Nat → Prop} {x : Nat} {s : St} (hI : CI g x w s) (hk : 1000 ≤ k) (hn : 14000 ≤ n) (a c : Int32) (h : ∀ ans w', Xo g x w w' → (∀ b s', SpThing s a c b s' → b = ans ∧ AbsX x w' s') → K ans w' (k - 1000) (n - 14000)) : cI g mX11_thing [.ref x, .int a, .int c] w k n K := by
  obtain ⟨hx, hC, hW, hw, hA⟩ := id hI
  have no : ¬ (0 ≤ a ∧ a ≤ 7) → K (-1) w (k - 1000) (n - 14000) := fun q => SpNo hI h fun b s' z => by unfold SpThing at z; rw [if_pos q] at z; exact z
  refine cI_of 3 1000 14000 rfl (by decide +kernel) rfl (Nat.le_of_ble_eq_true rfl) hk hn ?_
  simp only [vX11_thing_0, vX11_thing_1, pI_c, pL_c, pF_c, pD_c, pA_n, pA_c, pA_rf, pR_c, pR_rf, pV_i, pV_a, pV_n, pV_rf, ldI_c, ldL_c, ldF_c, ldD_c, ldA_c, ldA_n, ldA_rf, dup2_l, dup2_ia, dup2_ir, popA_0, popA_s, getL_z, getL_s, setL_z, setL_1, setL_s, setL2_z, setL2_1, setL2_s, drop2_i, drop2_a, drop2_0, drop2_n, drop2_l, drop2_d, drop2_r, cwd_0, cwd_i, cwd_a, cwd_n, cwd_l, cwd_d, cwd_f, cwd_r, rf_s, rf_n, swi_0, swi_s, zR_b0, zR_b1, zN_b0, zN_b1, entV_i, entV_a, entV_n, entV_r, entV_f, entV_l, entV_d, entV_s, entV_0, List.length_cons, List.length_nil, List.nil_append, List.cons_append, true_and, and_true, Nat.reduceAdd, Nat.reduceLT, Nat.reduceEqDiff, Nat.reduceLeDiff, Nat.reduceSub, Nat.zero_add, Classical.not_not, ex_i, ex_l, ex_d, ex_r, ex_rs, ex_rn, ex_sm, Nat.sub_zero, eq_self, wn_sI, wn_sL, wn_sP, wsh_sI, wsh_sL, wsh_sP, wI_sL, wI_sP, wL_sI, wL_sP, wP_sI, wP_sL, wI_sI, wL_sL, Int32.reduceLT, Int32.reduceLE, true_implies, not_true_eq_false, false_implies, not_false_eq_true, i_10]
  refine X11_isSlot_ok _ ?_
  by_cases ha : 0 ≤ a ∧ a ≤ 7
  · have no2 : ¬ (0 ≤ c ∧ c ≤ 1) → K (-2) w (k - 1000) (n - 14000) := fun q => SpNo hI h fun b s' z => by unfold SpThing at z; rw [if_neg (not_not_intro ha), if_pos q] at z; exact z
    rw [b2i_t ha]
    obtain ⟨t, ht, rfl⟩ := i_slot ha
    have fin : ∀ w' v (z : Int32), (0 ≤ c ∧ c ≤ 1) → z = (if c = 1 then 9 else -1) → wn w ≤ wn w' → WF w' → (∀ b, b < wn w → Same b w w') → ((z = -1 ∧ v = none) ∨ (z = 9 ∧ ∃ a, x + 81 ≤ a ∧ v = some a ∧ RowAt w' a 9 0 (fun _ => 0) (fun _ => 0))) → K 1 (sP w' (x + 1) t v) (k - 1000) (n - 14000) := by
      intro w' v z hc hz e1 e2 e3 e4
      obtain ⟨y1, y2, y3, y4⟩ := slot_put hx hW hw e1 e2 e3 (Or.inl rfl) t v
      refine h _ _ y1 fun b s' q => ?_
      unfold SpThing at q
      rw [if_neg (not_not_intro ha), if_neg (not_not_intro hc), ni_cl (by omega)] at q
      obtain ⟨z1, z2, z3⟩ := q
      obtain ⟨ra, rb, h1, hrest⟩ := hA
      have q2 : ∀ t', t' < 8 → t' ≠ t → s'.1 1 t' = s.1 1 t' := fun t' ht' et => z2.I 1 t' (Or.inr ⟨by decide, by decide⟩) fun y => by
        have := y.2
        rw [ni_eq (by omega) (by omega)] at this
        exact et this
      have q3 : s'.1 1 t = z := z3.trans hz.symm
      refine ⟨z1, AbsX.rowsTo (ra := ra) (ra' := ra) (rb := rb) hrest y2 y3 z2 (by omega) ?_ fun q t' u' r q ht' hu' hr hq a1 a2 => ?_⟩
      · rw [z2.A 2 (by decide) (by decide) (by omega), z2.A 3 (by decide) (by decide) (by omega), z2.A 4 (by decide) (by decide) (by omega), z2.B 5 (by decide) (by decide) (by omega)]
        refine (h1.keep y2 rfl).upd ht (fun t' ht' et => ⟨by rw [y4, if_neg et], q2 t' ht' et⟩) ?_
        rw [q3, y4, if_pos rfl]
        refine e4.imp id fun ⟨f1, a, f2, f3, f4⟩ => ⟨f1, a, f2, f3, f4.sam (sP_same (by omega)) (sP_same (by omega)) (sP_same (by omega))⟩
      · obtain ⟨-, -, -, -, -, -, -, -, h10⟩ := hrest
        have et : t' ≠ t := fun y => by
          rw [y, q3] at a1
          rcases e4 with ⟨q, -⟩ | ⟨q, -⟩
          · rw [q] at a1
            exact absurd a1.symm (ni_nem (by omega))
          · rw [q, show (9 : Int32) = nI 9 from rfl, ni_eq (by omega) (by omega)] at a1
            omega
        exact h10.ne (by assumption) t' u' r _ ht' hu' hr hq ((q2 t' ht' et).symm.trans a1) a2
    have e01 : ¬ (0 : Int32) = 1 := by decide
    simp (disch := omega) only [vX11_thing_4, vX11_thing_7, vX11_thing_8, vX11_thing_9, vX11_thing_10, vX11_thing_13, vX11_thing_14, vX11_thing_15, vX11_thing_18, vX11_thing_20, vX11_thing_21, vX11_thing_22, vX11_thing_25, vX11_thing_26, vX11_thing_27, vX11_thing_28, xs_b hx, xs_0 hx, xs_obj hx, xs_slots hx, xp_x_0 hx, pI_c, pL_c, pF_c, pD_c, pA_n, pA_c, pA_rf, pR_c, pR_rf, pV_i, pV_a, pV_n, pV_rf, ldI_c, ldL_c, ldF_c, ldD_c, ldA_c, ldA_n, ldA_rf, dup2_l, dup2_ia, dup2_ir, popA_0, popA_s, getL_z, getL_s, setL_z, setL_1, setL_s, setL2_z, setL2_1, setL2_s, drop2_i, drop2_a, drop2_0, drop2_n, drop2_l, drop2_d, drop2_r, cwd_0, cwd_i, cwd_a, cwd_n, cwd_l, cwd_d, cwd_f, cwd_r, rf_s, rf_n, swi_0, swi_s, zR_b0, zR_b1, zN_b0, zN_b1, entV_i, entV_a, entV_n, entV_r, entV_f, entV_l, entV_d, entV_s, entV_0, List.length_cons, List.length_nil, List.nil_append, List.cons_append, true_and, and_true, Nat.reduceAdd, Nat.reduceLT, Nat.reduceEqDiff, Nat.reduceLeDiff, Nat.reduceSub, Nat.zero_add, Classical.not_not, ex_i, ex_l, ex_d, ex_r, ex_rs, ex_rn, ex_sm, Nat.sub_zero, eq_self, wn_sI, wn_sL, wn_sP, wsh_sI, wsh_sL, wsh_sP, wI_sL, wI_sP, wL_sI, wL_sP, wP_sI, wP_sL, wI_sI, wL_sL, Int32.reduceLT, Int32.reduceLE, true_implies, not_true_eq_false, false_implies, not_false_eq_true, i_10, na_1, nb_1, nm_1, ns_1, nr_1, na_2, nb_2, nm_2, ns_2, nr_2, na_3, nb_3, nm_3, ns_3, nr_3, na_4, nb_4, nm_4, ns_4, nr_4, na_5, nb_5, nm_5, ns_5, nr_5, na_6, nb_6, nm_6, ns_6, nr_6, na_7, nb_7, nm_7, ns_7, nr_7, na_8, nb_8, nm_8, ns_8, nr_8, na_10, nb_10, nm_10, ns_10, nr_10, na_16, nb_16, nm_16, ns_16, nr_16, nl_m1, ni_add, ni_mul, ni_sub, ni_cl, ni_in, vp_0, vp_1, vp_2, vp_3, vp_4, vp_5, Int32.reduceToNatClampNeg, i_10]
    refine ⟨fun q => ?_, fun q => ⟨fun q2 => ?_, fun q2 => no2 fun z => ?_⟩⟩
    · simp (disch := omega) only [vX11_thing_21, vX11_thing_22, vX11_thing_25, vX11_thing_26, vX11_thing_27, vX11_thing_28, vX11_thing_44, vX11_thing_45, vX11_thing_46, vX11_thing_47, xs_b hx, xs_0 hx, xs_obj hx, xs_slots hx, xp_x_0 hx, pI_c, pL_c, pF_c, pD_c, pA_n, pA_c, pA_rf, pR_c, pR_rf, pV_i, pV_a, pV_n, pV_rf, ldI_c, ldL_c, ldF_c, ldD_c, ldA_c, ldA_n, ldA_rf, dup2_l, dup2_ia, dup2_ir, popA_0, popA_s, getL_z, getL_s, setL_z, setL_1, setL_s, setL2_z, setL2_1, setL2_s, drop2_i, drop2_a, drop2_0, drop2_n, drop2_l, drop2_d, drop2_r, cwd_0, cwd_i, cwd_a, cwd_n, cwd_l, cwd_d, cwd_f, cwd_r, rf_s, rf_n, swi_0, swi_s, zR_b0, zR_b1, zN_b0, zN_b1, entV_i, entV_a, entV_n, entV_r, entV_f, entV_l, entV_d, entV_s, entV_0, List.length_cons, List.length_nil, List.nil_append, List.cons_append, true_and, and_true, Nat.reduceAdd, Nat.reduceLT, Nat.reduceEqDiff, Nat.reduceLeDiff, Nat.reduceSub, Nat.zero_add, Classical.not_not, ex_i, ex_l, ex_d, ex_r, ex_rs, ex_rn, ex_sm, Nat.sub_zero, eq_self, wn_sI, wn_sL, wn_sP, wsh_sI, wsh_sL, wsh_sP, wI_sL, wI_sP, wL_sI, wL_sP, wP_sI, wP_sL, wI_sI, wL_sL, Int32.reduceLT, Int32.reduceLE, true_implies, not_true_eq_false, false_implies, not_false_eq_true, i_10, na_1, nb_1, nm_1, ns_1, nr_1, na_2, nb_2, nm_2, ns_2, nr_2, na_3, nb_3, nm_3, ns_3, nr_3, na_4, nb_4, nm_4, ns_4, nr_4, na_5, nb_5, nm_5, ns_5, nr_5, na_6, nb_6, nm_6, ns_6, nr_6, na_7, nb_7, nm_7, ns_7, nr_7, na_8, nb_8, nm_8, ns_8, nr_8, na_10, nb_10, nm_10, ns_10, nr_10, na_16, nb_16, nm_16, ns_16, nr_16, nl_m1, ni_add, ni_mul, ni_sub, ni_cl, ni_in, vp_0, vp_1, vp_2, vp_3, vp_4, vp_5, Int32.reduceToNatClampNeg, q, e01]
      exact ⟨fun v ev => (by cases ev), fin w none (-1) (by rw [q]; exact ⟨by decide, by decide⟩) (by rw [q]; rfl) (Nat.le_refl _) hW (fun _ _ => Same.rf) (Or.inl ⟨rfl, rfl⟩)⟩
    · simp (disch := omega) only [vX11_thing_21, vX11_thing_22, vX11_thing_25, vX11_thing_26, vX11_thing_27, vX11_thing_28, vX11_thing_31, vX11_thing_34, vX11_thing_35, vX11_thing_37, vX11_thing_38, xs_b hx, xs_0 hx, xs_obj hx, xs_slots hx, xp_x_0 hx, pI_c, pL_c, pF_c, pD_c, pA_n, pA_c, pA_rf, pR_c, pR_rf, pV_i, pV_a, pV_n, pV_rf, ldI_c, ldL_c, ldF_c, ldD_c, ldA_c, ldA_n, ldA_rf, dup2_l, dup2_ia, dup2_ir, popA_0, popA_s, getL_z, getL_s, setL_z, setL_1, setL_s, setL2_z, setL2_1, setL2_s, drop2_i, drop2_a, drop2_0, drop2_n, drop2_l, drop2_d, drop2_r, cwd_0, cwd_i, cwd_a, cwd_n, cwd_l, cwd_d, cwd_f, cwd_r, rf_s, rf_n, swi_0, swi_s, zR_b0, zR_b1, zN_b0, zN_b1, entV_i, entV_a, entV_n, entV_r, entV_f, entV_l, entV_d, entV_s, entV_0, List.length_cons, List.length_nil, List.nil_append, List.cons_append, true_and, and_true, Nat.reduceAdd, Nat.reduceLT, Nat.reduceEqDiff, Nat.reduceLeDiff, Nat.reduceSub, Nat.zero_add, Classical.not_not, ex_i, ex_l, ex_d, ex_r, ex_rs, ex_rn, ex_sm, Nat.sub_zero, eq_self, wn_sI, wn_sL, wn_sP, wsh_sI, wsh_sL, wsh_sP, wI_sL, wI_sP, wL_sI, wL_sP, wP_sI, wP_sL, wI_sI, wL_sL, Int32.reduceLT, Int32.reduceLE, true_implies, not_true_eq_false, false_implies, not_false_eq_true, i_10, na_1, nb_1, nm_1, ns_1, nr_1, na_2, nb_2, nm_2, ns_2, nr_2, na_3, nb_3, nm_3, ns_3, nr_3, na_4, nb_4, nm_4, ns_4, nr_4, na_5, nb_5, nm_5, ns_5, nr_5, na_6, nb_6, nm_6, ns_6, nr_6, na_7, nb_7, nm_7, ns_7, nr_7, na_8, nb_8, nm_8, ns_8, nr_8, na_10, nb_10, nm_10, ns_10, nr_10, na_16, nb_16, nm_16, ns_16, nr_16, nl_m1, ni_add, ni_mul, ni_sub, ni_cl, ni_in, vp_0, vp_1, vp_2, vp_3, vp_4, vp_5, Int32.reduceToNatClampNeg, q2]
      refine X7_new_ok (kd := 9) (nn := 0) (Nat.le_trans hx.1 (by omega)) hW (by omega) (by omega) (by omega) fun w' e1 e2 e3 e4 => ?_
      have hx' : XS g x w' := hx.sam fun o ho => e3 _ (by omega)
      simp (disch := omega) only [vX11_thing_41, vX11_thing_44, vX11_thing_45, vX11_thing_46, vX11_thing_47, xs_b hx', xs_0 hx', xs_obj hx', xs_slots hx', xp_x_0 hx', pI_c, pL_c, pF_c, pD_c, pA_n, pA_c, pA_rf, pR_c, pR_rf, pV_i, pV_a, pV_n, pV_rf, ldI_c, ldL_c, ldF_c, ldD_c, ldA_c, ldA_n, ldA_rf, dup2_l, dup2_ia, dup2_ir, popA_0, popA_s, getL_z, getL_s, setL_z, setL_1, setL_s, setL2_z, setL2_1, setL2_s, drop2_i, drop2_a, drop2_0, drop2_n, drop2_l, drop2_d, drop2_r, cwd_0, cwd_i, cwd_a, cwd_n, cwd_l, cwd_d, cwd_f, cwd_r, rf_s, rf_n, swi_0, swi_s, zR_b0, zR_b1, zN_b0, zN_b1, entV_i, entV_a, entV_n, entV_r, entV_f, entV_l, entV_d, entV_s, entV_0, List.length_cons, List.length_nil, List.nil_append, List.cons_append, true_and, and_true, Nat.reduceAdd, Nat.reduceLT, Nat.reduceEqDiff, Nat.reduceLeDiff, Nat.reduceSub, Nat.zero_add, Classical.not_not, ex_i, ex_l, ex_d, ex_r, ex_rs, ex_rn, ex_sm, Nat.sub_zero, eq_self, wn_sI, wn_sL, wn_sP, wsh_sI, wsh_sL, wsh_sP, wI_sL, wI_sP, wL_sI, wL_sP, wP_sI, wP_sL, wI_sI, wL_sL, Int32.reduceLT, Int32.reduceLE, true_implies, not_true_eq_false, false_implies, not_false_eq_true, i_10, na_1, nb_1, nm_1, ns_1, nr_1, na_2, nb_2, nm_2, ns_2, nr_2, na_3, nb_3, nm_3, ns_3, nr_3, na_4, nb_4, nm_4, ns_4, nr_4, na_5, nb_5, nm_5, ns_5, nr_5, na_6, nb_6, nm_6, ns_6, nr_6, na_7, nb_7, nm_7, ns_7, nr_7, na_8, nb_8, nm_8, ns_8, nr_8, na_10, nb_10, nm_10, ns_10, nr_10, na_16, nb_16, nm_16, ns_16, nr_16, nl_m1, ni_add, ni_mul, ni_sub, ni_cl, ni_in, vp_0, vp_1, vp_2, vp_3, vp_4, vp_5, Int32.reduceToNatClampNeg]
      exact ⟨fun v ev => (by cases ev; rw [e4.1]; rfl), fin w' (some (wn w)) 9 (by rw [q2]; exact ⟨by decide, by decide⟩) (by rw [q2]; rfl) (by omega) e2 e3 (Or.inr ⟨rfl, wn w, hw, rfl, e4.1, e4.2.1, e4.2.2.1, e4.2.2.2.1, e4.2.2.2.2.1, e4.2.2.2.2.2.1, fun i hi => absurd hi (Nat.not_lt_zero i)⟩)⟩
    · obtain ⟨j, hj, rfl⟩ := i_nat (c := 1) (by decide) z.1 z.2
      rcases (show j = 0 ∨ j = 1 by omega) with rfl | rfl
      · exact q rfl
      · exact q2 rfl
  · rw [b2i_f ha]
    simp only [vX11_thing_4, vX11_thing_7, vX11_thing_8, pI_c, pL_c, pF_c, pD_c, pA_n, pA_c, pA_rf, pR_c, pR_rf, pV_i, pV_a, pV_n, pV_rf, ldI_c, ldL_c, ldF_c, ldD_c, ldA_c, ldA_n, ldA_rf, dup2_l, dup2_ia, dup2_ir, popA_0, popA_s, getL_z, getL_s, setL_z, setL_1, setL_s, setL2_z, setL2_1, setL2_s, drop2_i, drop2_a, drop2_0, drop2_n, drop2_l, drop2_d, drop2_r, cwd_0, cwd_i, cwd_a, cwd_n, cwd_l, cwd_d, cwd_f, cwd_r, rf_s, rf_n, swi_0, swi_s, zR_b0, zR_b1, zN_b0, zN_b1, entV_i, entV_a, entV_n, entV_r, entV_f, entV_l, entV_d, entV_s, entV_0, List.length_cons, List.length_nil, List.nil_append, List.cons_append, true_and, and_true, Nat.reduceAdd, Nat.reduceLT, Nat.reduceEqDiff, Nat.reduceLeDiff, Nat.reduceSub, Nat.zero_add, Classical.not_not, ex_i, ex_l, ex_d, ex_r, ex_rs, ex_rn, ex_sm, Nat.sub_zero, eq_self, wn_sI, wn_sL, wn_sP, wsh_sI, wsh_sL, wsh_sP, wI_sL, wI_sP, wL_sI, wL_sP, wP_sI, wP_sL, wI_sI, wL_sL, Int32.reduceLT, Int32.reduceLE, true_implies, not_true_eq_false, false_implies, not_false_eq_true, i_10]
    exact no ha
theorem isVal0 {kd : Nat} (h : kd ≤ 7) : isVal (nI kd) 0 = true := by
  rcases (show kd = 0 ∨ kd = 1 ∨ kd = 2 ∨ kd = 3 ∨ kd = 4 ∨ kd = 5 ∨ kd = 6 ∨ kd = 7 by omega) with rfl | rfl | rfl | rfl | rfl | rfl | rfl | rfl <;> decide +kernel
theorem cvl0 {kd : Nat} (h : kd ≤ 8) : cvl (nI kd) 0 := by
  unfold cvl
  by_cases q : kd = 8
  · rw [q, if_pos (show nI 8 = (8 : Int32) from rfl)]
  · rw [if_neg (by rw [show (8 : Int32) = nI 8 from rfl, ni_eq (by omega) (by omega)]; exact q)]
    exact isVal0 (by omega)
set_option maxRecDepth 100000 in
set_option maxHeartbeats 4000000 in
theorem X_make {g : Ge} {w : Wd} {k n : Nat} {K : Int32 → Wd → Nat → Nat → Prop} {x : Nat} {s : St} (hI : CI g x w s) (hk : 1000 ≤ k) (hn : 14000 ≤ n) (a c d : Int32) (h : ∀ ans w', Xo g x w w' → (∀ b s', SpMake s a c d b s' → b = ans ∧ AbsX x w' s') → K ans w' (k - 1000) (n - 14000)) : cI g mX11_make [.ref x, .int a, .int c, .int d] w k n K := by
  obtain ⟨hx, hC, hW, hw, hA⟩ := id hI
  have no : ¬ (0 ≤ a ∧ a ≤ 7) → K (-1) w (k - 1000) (n - 14000) := fun q => SpNo hI h fun b s' z => by unfold SpMake at z; rw [if_pos q] at z; exact z
  refine cI_of 4 1000 14000 rfl (by decide +kernel) rfl (Nat.le_of_ble_eq_true rfl) hk hn ?_
  simp only [vX11_make_0, vX11_make_1, pI_c, pL_c, pF_c, pD_c, pA_n, pA_c, pA_rf, pR_c, pR_rf, pV_i, pV_a, pV_n, pV_rf, ldI_c, ldL_c, ldF_c, ldD_c, ldA_c, ldA_n, ldA_rf, dup2_l, dup2_ia, dup2_ir, popA_0, popA_s, getL_z, getL_s, setL_z, setL_1, setL_s, setL2_z, setL2_1, setL2_s, drop2_i, drop2_a, drop2_0, drop2_n, drop2_l, drop2_d, drop2_r, cwd_0, cwd_i, cwd_a, cwd_n, cwd_l, cwd_d, cwd_f, cwd_r, rf_s, rf_n, swi_0, swi_s, zR_b0, zR_b1, zN_b0, zN_b1, entV_i, entV_a, entV_n, entV_r, entV_f, entV_l, entV_d, entV_s, entV_0, List.length_cons, List.length_nil, List.nil_append, List.cons_append, true_and, and_true, Nat.reduceAdd, Nat.reduceLT, Nat.reduceEqDiff, Nat.reduceLeDiff, Nat.reduceSub, Nat.zero_add, Classical.not_not, ex_i, ex_l, ex_d, ex_r, ex_rs, ex_rn, ex_sm, Nat.sub_zero, eq_self, wn_sI, wn_sL, wn_sP, wsh_sI, wsh_sL, wsh_sP, wI_sL, wI_sP, wL_sI, wL_sP, wP_sI, wP_sL, wI_sI, wL_sL, Int32.reduceLT, Int32.reduceLE, true_implies, not_true_eq_false, false_implies, not_false_eq_true, i_10]
  refine X11_isSlot_ok _ ?_
  by_cases ha : 0 ≤ a ∧ a ≤ 7
  · have no2 : (¬ (0 ≤ c ∧ c ≤ 8) ∨ 16 < d) → K (-2) w (k - 1000) (n - 14000) := fun q => SpNo hI h fun b s' z => by unfold SpMake at z; rw [if_neg (not_not_intro ha), if_pos q] at z; exact z
    have no3 : ¬ (¬ (0 ≤ c ∧ c ≤ 8) ∨ 16 < d) → d < 0 → K (-14) w (k - 1000) (n - 14000) := fun q q2 => SpNo hI h fun b s' z => by unfold SpMake at z; rw [if_neg (not_not_intro ha), if_neg q, if_pos q2] at z; exact z
    rw [b2i_t ha]
    obtain ⟨t, ht, rfl⟩ := i_slot ha
    simp (disch := omega) only [vX11_make_4, vX11_make_7, vX11_make_8, vX11_make_9, vX11_make_10, vX11_make_13, vX11_make_14, vX11_make_16, vX11_make_19, vX11_make_20, vX11_make_22, vX11_make_25, vX11_make_27, vX11_make_28, vX11_make_29, vX11_make_32, vX11_make_34, xs_b hx, xs_0 hx, xs_obj hx, xs_slots hx, xp_x_0 hx, pI_c, pL_c, pF_c, pD_c, pA_n, pA_c, pA_rf, pR_c, pR_rf, pV_i, pV_a, pV_n, pV_rf, ldI_c, ldL_c, ldF_c, ldD_c, ldA_c, ldA_n, ldA_rf, dup2_l, dup2_ia, dup2_ir, popA_0, popA_s, getL_z, getL_s, setL_z, setL_1, setL_s, setL2_z, setL2_1, setL2_s, drop2_i, drop2_a, drop2_0, drop2_n, drop2_l, drop2_d, drop2_r, cwd_0, cwd_i, cwd_a, cwd_n, cwd_l, cwd_d, cwd_f, cwd_r, rf_s, rf_n, swi_0, swi_s, zR_b0, zR_b1, zN_b0, zN_b1, entV_i, entV_a, entV_n, entV_r, entV_f, entV_l, entV_d, entV_s, entV_0, List.length_cons, List.length_nil, List.nil_append, List.cons_append, true_and, and_true, Nat.reduceAdd, Nat.reduceLT, Nat.reduceEqDiff, Nat.reduceLeDiff, Nat.reduceSub, Nat.zero_add, Classical.not_not, ex_i, ex_l, ex_d, ex_r, ex_rs, ex_rn, ex_sm, Nat.sub_zero, eq_self, wn_sI, wn_sL, wn_sP, wsh_sI, wsh_sL, wsh_sP, wI_sL, wI_sP, wL_sI, wL_sP, wP_sI, wP_sL, wI_sI, wL_sL, Int32.reduceLT, Int32.reduceLE, true_implies, not_true_eq_false, false_implies, not_false_eq_true, i_10, na_1, nb_1, nm_1, ns_1, nr_1, na_2, nb_2, nm_2, ns_2, nr_2, na_3, nb_3, nm_3, ns_3, nr_3, na_4, nb_4, nm_4, ns_4, nr_4, na_5, nb_5, nm_5, ns_5, nr_5, na_6, nb_6, nm_6, ns_6, nr_6, na_7, nb_7, nm_7, ns_7, nr_7, na_8, nb_8, nm_8, ns_8, nr_8, na_10, nb_10, nm_10, ns_10, nr_10, na_16, nb_16, nm_16, ns_16, nr_16, nl_m1, ni_add, ni_mul, ni_sub, ni_cl, ni_in, vp_0, vp_1, vp_2, vp_3, vp_4, vp_5, Int32.reduceToNatClampNeg, i_10]
    refine ⟨fun q => no2 (Or.inl fun z => absurd q (Int32.not_lt.mpr z.1)), fun q => ⟨fun q2 => no2 (Or.inl fun z => absurd q2 (Int32.not_lt.mpr z.2)), fun q2' => ⟨fun q3 => ?_, fun q3 => no2 (Or.inr (Int32.not_le.mp q3))⟩⟩⟩
    have q2 := Int32.not_lt.mp q2'
    have hno : ¬ (¬ (0 ≤ c ∧ c ≤ 8) ∨ 16 < d) := fun z => z.elim (fun y => y ⟨Int32.not_lt.mp q, q2⟩) fun y => absurd y (Int32.not_lt.mpr q3)
    refine ⟨fun q4 => ?_, fun q4 => no3 hno (Int32.not_le.mp q4)⟩
    obtain ⟨kd, hkd, rfl⟩ := i_nat (c := 8) (by decide) (Int32.not_lt.mp q) q2
    obtain ⟨nn, hnn, rfl⟩ := i_nat (c := 16) (by decide) q4 q3
    simp (disch := omega) only [vX11_make_35, vX11_make_36, vX11_make_39, vX11_make_40, vX11_make_43, vX11_make_44, vX11_make_45, vX11_make_46, xs_b hx, xs_0 hx, xs_obj hx, xs_slots hx, xp_x_0 hx, pI_c, pL_c, pF_c, pD_c, pA_n, pA_c, pA_rf, pR_c, pR_rf, pV_i, pV_a, pV_n, pV_rf, ldI_c, ldL_c, ldF_c, ldD_c, ldA_c, ldA_n, ldA_rf, dup2_l, dup2_ia, dup2_ir, popA_0, popA_s, getL_z, getL_s, setL_z, setL_1, setL_s, setL2_z, setL2_1, setL2_s, drop2_i, drop2_a, drop2_0, drop2_n, drop2_l, drop2_d, drop2_r, cwd_0, cwd_i, cwd_a, cwd_n, cwd_l, cwd_d, cwd_f, cwd_r, rf_s, rf_n, swi_0, swi_s, zR_b0, zR_b1, zN_b0, zN_b1, entV_i, entV_a, entV_n, entV_r, entV_f, entV_l, entV_d, entV_s, entV_0, List.length_cons, List.length_nil, List.nil_append, List.cons_append, true_and, and_true, Nat.reduceAdd, Nat.reduceLT, Nat.reduceEqDiff, Nat.reduceLeDiff, Nat.reduceSub, Nat.zero_add, Classical.not_not, ex_i, ex_l, ex_d, ex_r, ex_rs, ex_rn, ex_sm, Nat.sub_zero, eq_self, wn_sI, wn_sL, wn_sP, wsh_sI, wsh_sL, wsh_sP, wI_sL, wI_sP, wL_sI, wL_sP, wP_sI, wP_sL, wI_sI, wL_sL, Int32.reduceLT, Int32.reduceLE, true_implies, not_true_eq_false, false_implies, not_false_eq_true, i_10, na_1, nb_1, nm_1, ns_1, nr_1, na_2, nb_2, nm_2, ns_2, nr_2, na_3, nb_3, nm_3, ns_3, nr_3, na_4, nb_4, nm_4, ns_4, nr_4, na_5, nb_5, nm_5, ns_5, nr_5, na_6, nb_6, nm_6, ns_6, nr_6, na_7, nb_7, nm_7, ns_7, nr_7, na_8, nb_8, nm_8, ns_8, nr_8, na_10, nb_10, nm_10, ns_10, nr_10, na_16, nb_16, nm_16, ns_16, nr_16, nl_m1, ni_add, ni_mul, ni_sub, ni_cl, ni_in, vp_0, vp_1, vp_2, vp_3, vp_4, vp_5, Int32.reduceToNatClampNeg]
    refine X7_new_ok (Nat.le_trans hx.1 (by omega)) hW hnn (by omega) (by omega) fun w' e1 e2 e3 e4 => ?_
    have hx' : XS g x w' := hx.sam fun o ho => e3 _ (by omega)
    simp (disch := omega) only [vX11_make_49, vX11_make_50, vX11_make_51, xs_b hx', xs_0 hx', xs_obj hx', xs_slots hx', xp_x_0 hx', pI_c, pL_c, pF_c, pD_c, pA_n, pA_c, pA_rf, pR_c, pR_rf, pV_i, pV_a, pV_n, pV_rf, ldI_c, ldL_c, ldF_c, ldD_c, ldA_c, ldA_n, ldA_rf, dup2_l, dup2_ia, dup2_ir, popA_0, popA_s, getL_z, getL_s, setL_z, setL_1, setL_s, setL2_z, setL2_1, setL2_s, drop2_i, drop2_a, drop2_0, drop2_n, drop2_l, drop2_d, drop2_r, cwd_0, cwd_i, cwd_a, cwd_n, cwd_l, cwd_d, cwd_f, cwd_r, rf_s, rf_n, swi_0, swi_s, zR_b0, zR_b1, zN_b0, zN_b1, entV_i, entV_a, entV_n, entV_r, entV_f, entV_l, entV_d, entV_s, entV_0, List.length_cons, List.length_nil, List.nil_append, List.cons_append, true_and, and_true, Nat.reduceAdd, Nat.reduceLT, Nat.reduceEqDiff, Nat.reduceLeDiff, Nat.reduceSub, Nat.zero_add, Classical.not_not, ex_i, ex_l, ex_d, ex_r, ex_rs, ex_rn, ex_sm, Nat.sub_zero, eq_self, wn_sI, wn_sL, wn_sP, wsh_sI, wsh_sL, wsh_sP, wI_sL, wI_sP, wL_sI, wL_sP, wP_sI, wP_sL, wI_sI, wL_sL, Int32.reduceLT, Int32.reduceLE, true_implies, not_true_eq_false, false_implies, not_false_eq_true, i_10, na_1, nb_1, nm_1, ns_1, nr_1, na_2, nb_2, nm_2, ns_2, nr_2, na_3, nb_3, nm_3, ns_3, nr_3, na_4, nb_4, nm_4, ns_4, nr_4, na_5, nb_5, nm_5, ns_5, nr_5, na_6, nb_6, nm_6, ns_6, nr_6, na_7, nb_7, nm_7, ns_7, nr_7, na_8, nb_8, nm_8, ns_8, nr_8, na_10, nb_10, nm_10, ns_10, nr_10, na_16, nb_16, nm_16, ns_16, nr_16, nl_m1, ni_add, ni_mul, ni_sub, ni_cl, ni_in, vp_0, vp_1, vp_2, vp_3, vp_4, vp_5, Int32.reduceToNatClampNeg]
    obtain ⟨y1, y2, y3, y4⟩ := slot_put hx hW hw (by omega) e2 e3 (Or.inl rfl) t (some (wn w))
    refine ⟨fun v ev => (by cases ev; rw [e4.1]; rfl), ?_⟩
    refine h _ _ y1 fun b s' z => ?_
    unfold SpMake at z
    rw [if_neg (not_not_intro ha), if_neg hno, if_neg (Int32.not_lt.mpr q4), ni_cl (by omega)] at z
    obtain ⟨z1, r, z2, z3, z4, z5, z6, z7, z8⟩ := z
    obtain ⟨ra, rb, h1, hrest⟩ := hA
    have lt := h1.lt hW
    have q5 : ∀ t', t' < 8 → t' ≠ t → s'.1 1 t' = s.1 1 t' := fun t' ht' et => z5.I 1 t' (Or.inr ⟨by decide, by decide⟩) (by omega)
    refine ⟨z1, AbsX.rowsTo (ra := ra) (ra' := fun q => if q = r then wn w else ra q) (rb := rb) hrest y2 y3 z5 (by omega) ?_ fun q t' u' r' q' ht' hu' hr' hq' a1 a2 => ?_⟩
    · refine (h1.keep y2 rfl).fresh ht z2 hw (fun t' ht' et => ⟨by rw [y4, if_neg et], q5 t' ht' et⟩) z3 (fun t' r' ht' hr' e => Nat.ne_of_lt (lt t' r' ht' hr' e)) (fun r' hr' er => ⟨z5.I 2 r' (Or.inr ⟨by decide, by decide⟩) (by omega), z5.I 3 r' (Or.inr ⟨by decide, by decide⟩) (by omega), fun i hi => ⟨z5.I 4 _ (Or.inr ⟨by decide, by decide⟩) (by omega), z5.L 5 _ (Or.inr ⟨by decide, by decide⟩) (by omega)⟩⟩) (by rw [y4, if_pos rfl]) z4 z6 z7 ⟨hkd, hnn, fun i hi => ?_⟩ ?_ (if_pos rfl) fun r' er => if_neg er
      · obtain ⟨k1, k2⟩ := z8 i (by omega)
        refine ⟨⟨kd, hkd, k1, fun _ => rfl⟩, ?_⟩
        show cvl (s'.1 4 _) (s'.2 5 _)
        rw [k1, k2]
        exact cvl0 hkd
      · have e5 := e4.sam (w' := sP w' (x + 1) t (some (wn w))) (sP_same (by omega)) (sP_same (by omega)) (sP_same (by omega))
        exact e5.cg hnn fun i hi => ⟨(z8 i hi).1, (z8 i hi).2⟩
    · obtain ⟨-, -, -, -, -, -, -, -, h10⟩ := hrest
      show (if r' = r then wn w else ra r') ≠ rb q'
      split
      · exact (Nat.ne_of_lt (h10.lt hW q u' q' hu' hq' a2)).symm
      · rename_i er
        refine h10.ne q t' u' r' q' ht' hu' hr' hq' ?_ a2
        have et : t' ≠ t := fun y => by
          rw [y, z4, ni_eq (by omega) (by omega)] at a1
          exact er a1.symm
        exact (q5 t' ht' et).symm.trans a1
  · rw [b2i_f ha]
    simp only [vX11_make_4, vX11_make_7, vX11_make_8, pI_c, pL_c, pF_c, pD_c, pA_n, pA_c, pA_rf, pR_c, pR_rf, pV_i, pV_a, pV_n, pV_rf, ldI_c, ldL_c, ldF_c, ldD_c, ldA_c, ldA_n, ldA_rf, dup2_l, dup2_ia, dup2_ir, popA_0, popA_s, getL_z, getL_s, setL_z, setL_1, setL_s, setL2_z, setL2_1, setL2_s, drop2_i, drop2_a, drop2_0, drop2_n, drop2_l, drop2_d, drop2_r, cwd_0, cwd_i, cwd_a, cwd_n, cwd_l, cwd_d, cwd_f, cwd_r, rf_s, rf_n, swi_0, swi_s, zR_b0, zR_b1, zN_b0, zN_b1, entV_i, entV_a, entV_n, entV_r, entV_f, entV_l, entV_d, entV_s, entV_0, List.length_cons, List.length_nil, List.nil_append, List.cons_append, true_and, and_true, Nat.reduceAdd, Nat.reduceLT, Nat.reduceEqDiff, Nat.reduceLeDiff, Nat.reduceSub, Nat.zero_add, Classical.not_not, ex_i, ex_l, ex_d, ex_r, ex_rs, ex_rn, ex_sm, Nat.sub_zero, eq_self, wn_sI, wn_sL, wn_sP, wsh_sI, wsh_sL, wsh_sP, wI_sL, wI_sP, wL_sI, wL_sP, wP_sI, wP_sL, wI_sI, wL_sL, Int32.reduceLT, Int32.reduceLE, true_implies, not_true_eq_false, false_implies, not_false_eq_true, i_10]
    exact no ha
