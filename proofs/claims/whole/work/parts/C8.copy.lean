/-! the class: rows copied -/
theorem cpL_at (w : Wd) (a b sp dp len j : Nat) : wL (cpL w a b sp dp len) b j = if dp ≤ j ∧ j < dp + len then wL w a (sp + (j - dp)) else wL w b j := by
  show va_up (wL w) b (va_cpy (wL w a) (wL w b) sp dp len) b j = _
  simp [va_up, va_cpy]
theorem cpL_ne {w : Wd} {a b sp dp len c : Nat} (h : c ≠ b) : wL (cpL w a b sp dp len) c = wL w c := by
  show va_up (wL w) b (va_cpy (wL w a) (wL w b) sp dp len) c = _
  simp [va_up, h]
theorem cpI_same {w : Wd} {a b sp dp len c : Nat} (h : c ≠ b) : Same c w (cpI w a b sp dp len) := ⟨rfl, cpI_ne h, rfl, rfl⟩
theorem cpL_same {w : Wd} {a b sp dp len c : Nat} (h : c ≠ b) : Same c w (cpL w a b sp dp len) := ⟨rfl, rfl, cpL_ne h, rfl⟩
theorem ni_nn {z : Nat} (h : z < 2147483648) : ¬ nI z < 0 := by
  rw [ni_lit 0, ni_lt h (by decide)]
  omega
theorem stCpI {g : Ge} {M : Mi} {S : Sp} {pc : Nat} {V : List (Option Value)} {st : List Value} {w : Wd} {k n a b sp dp len ca cb : Nat} (hr : rmN M 26) (hc : cwd st ≤ 8) (h1 : wsh w a = (100, ca)) (h2 : wsh w b = (100, cb)) (hs : sp + len ≤ ca) (hd : dp + len ≤ cb) (hl : ca < 2147483648) (hl2 : cb < 2147483648) (hg : gB g ≤ b) (h : S (pc + 3) V st (cpI w a b sp dp len) k n) : stNat g M S pc V (.int (nI len) :: .int (nI dp) :: .ref b :: .int (nI sp) :: .ref a :: st) w k n 2 := by
  simp only [stNat, pI_c, pR_c, h1, h2, ni_cl (show len < 2147483648 by omega), ni_cl (show dp < 2147483648 by omega), ni_cl (show sp < 2147483648 by omega)]
  exact ⟨hr, hc, ni_nn (by omega), ni_nn (by omega), ni_nn (by omega), hs, hd, hg, trivial, Or.inl ⟨trivial, h⟩⟩
theorem stCpL {g : Ge} {M : Mi} {S : Sp} {pc : Nat} {V : List (Option Value)} {st : List Value} {w : Wd} {k n a b sp dp len ca cb : Nat} (hr : rmN M 26) (hc : cwd st ≤ 8) (h1 : wsh w a = (101, ca)) (h2 : wsh w b = (101, cb)) (hs : sp + len ≤ ca) (hd : dp + len ≤ cb) (hl : ca < 2147483648) (hl2 : cb < 2147483648) (hg : gB g ≤ b) (h : S (pc + 3) V st (cpL w a b sp dp len) k n) : stNat g M S pc V (.int (nI len) :: .int (nI dp) :: .ref b :: .int (nI sp) :: .ref a :: st) w k n 2 := by
  simp only [stNat, pI_c, pR_c, h1, h2, ni_cl (show len < 2147483648 by omega), ni_cl (show dp < 2147483648 by omega), ni_cl (show sp < 2147483648 by omega)]
  exact ⟨hr, hc, ni_nn (by omega), ni_nn (by omega), ni_nn (by omega), hs, hd, hg, trivial, Or.inr (Or.inl ⟨trivial, h⟩)⟩
theorem RowS.sam {w w' : Wd} {a kd n : Nat} (h : RowS w a kd n) (s0 : Same a w w') (s1 : Same (a + 1) w w') (s2 : Same (a + 2) w w') : RowS w' a kd n := by
  obtain ⟨h1, h2, h3, h4, h5, h6⟩ := h
  exact ⟨s0.1.trans h1, by rw [s0.2.1]; exact h2, by rw [s0.2.2.2]; exact h3, by rw [s0.2.2.2]; exact h4, s1.1.trans h5, s2.1.trans h6⟩
theorem RowAt.lt {w : Wd} {a kd n : Nat} {Kf : Nat → Int32} {Vf : Nat → Int64} (hW : WF w) (h : RowAt w a kd n Kf Vf) : a + 2 < wn w := hW.lt (by rw [h.2.2.2.2.2.1]; show 101 < 109; omega)
set_option maxRecDepth 100000 in
set_option maxHeartbeats 4000000 in
theorem X7_twin_ok {g : Ge} {w : Wd} {k n : Nat} {K : Option Nat → Wd → Nat → Nat → Prop} {A kd nn : Nat} {Kf : Nat → Int32} {Vf : Nat → Int64} (hg : gB g ≤ wn w) (hW : WF w) (hr : RowAt w A kd nn Kf Vf) (hn16 : nn ≤ 16) (hk : 3 ≤ k) (hn : 64 ≤ n) (h : ∀ w', wn w' = wn w + 3 → WF w' → (∀ b, b < wn w → Same b w w') → RowAt w' (wn w) kd nn Kf Vf → K (some (wn w)) w' (k - 3) (n - 64)) : cR g mX7_twin [.ref A] w k n K := by
  have hA := hr.lt hW
  have hS := hr.S
  have hS0 : RowS (nw w 7 0) A kd nn := hS.sam (nw_same (by omega)) (nw_same (by omega)) (nw_same (by omega))
  refine cR_of 2 3 64 rfl (by decide +kernel) rfl (Nat.le_of_ble_eq_true rfl) hk hn ?_
  simp (disch := omega) only [vX7_twin_0, vX7_twin_3, vX7_twin_4, vX7_twin_5, vX7_twin_8, vX7_twin_9, pI_c, pL_c, pF_c, pD_c, pA_n, pA_c, pA_rf, pR_c, pR_rf, pV_i, pV_a, pV_n, pV_rf, ldI_c, ldL_c, ldF_c, ldD_c, ldA_c, ldA_n, ldA_rf, dup2_l, dup2_ia, dup2_ir, popA_0, popA_s, getL_z, getL_s, setL_z, setL_1, setL_s, setL2_z, setL2_1, setL2_s, drop2_i, drop2_a, drop2_0, drop2_n, drop2_l, drop2_d, drop2_r, cwd_0, cwd_i, cwd_a, cwd_n, cwd_l, cwd_d, cwd_f, cwd_r, rf_s, rf_n, swi_0, swi_s, zR_b0, zR_b1, zN_b0, zN_b1, entV_i, entV_a, entV_n, entV_r, entV_f, entV_l, entV_d, entV_s, entV_0, List.length_cons, List.length_nil, List.nil_append, List.cons_append, true_and, and_true, Nat.reduceAdd, Nat.reduceLT, Nat.reduceEqDiff, Nat.reduceLeDiff, Nat.reduceSub, Nat.zero_add, Classical.not_not, ex_i, ex_l, ex_d, ex_r, ex_rs, ex_rn, ex_sm, Nat.sub_zero, eq_self, wn_sI, wn_sL, wn_sP, wsh_sI, wsh_sL, wsh_sP, wI_sL, wI_sP, wL_sI, wL_sP, wP_sI, wP_sL, wI_sI, wL_sL, Int32.reduceLT, Int32.reduceLE, true_implies, not_true_eq_false, false_implies, not_false_eq_true, i_10, hS0.1, hS0.2.1]
  refine X7_size_ok hS0 ?_
  simp (disch := omega) only [vX7_twin_12, pI_c, pL_c, pF_c, pD_c, pA_n, pA_c, pA_rf, pR_c, pR_rf, pV_i, pV_a, pV_n, pV_rf, ldI_c, ldL_c, ldF_c, ldD_c, ldA_c, ldA_n, ldA_rf, dup2_l, dup2_ia, dup2_ir, popA_0, popA_s, getL_z, getL_s, setL_z, setL_1, setL_s, setL2_z, setL2_1, setL2_s, drop2_i, drop2_a, drop2_0, drop2_n, drop2_l, drop2_d, drop2_r, cwd_0, cwd_i, cwd_a, cwd_n, cwd_l, cwd_d, cwd_f, cwd_r, rf_s, rf_n, swi_0, swi_s, zR_b0, zR_b1, zN_b0, zN_b1, entV_i, entV_a, entV_n, entV_r, entV_f, entV_l, entV_d, entV_s, entV_0, List.length_cons, List.length_nil, List.nil_append, List.cons_append, true_and, and_true, Nat.reduceAdd, Nat.reduceLT, Nat.reduceEqDiff, Nat.reduceLeDiff, Nat.reduceSub, Nat.zero_add, Classical.not_not, ex_i, ex_l, ex_d, ex_r, ex_rs, ex_rn, ex_sm, Nat.sub_zero, eq_self, wn_sI, wn_sL, wn_sP, wsh_sI, wsh_sL, wsh_sP, wI_sL, wI_sP, wL_sI, wL_sP, wP_sI, wP_sL, wI_sI, wL_sL, Int32.reduceLT, Int32.reduceLE, true_implies, not_true_eq_false, false_implies, not_false_eq_true, i_10]
  refine X7_new_ok hg hW hn16 (by omega) (by omega) fun w1 e1 e2 e3 e4 => ?_
  have hS1 : RowS w1 A kd nn := hS.sam (e3 _ (by omega)) (e3 _ (by omega)) (e3 _ (by omega))
  have hN1 := e4.S
  simp (disch := omega) only [vX7_twin_15, vX7_twin_16, vX7_twin_17, vX7_twin_20, vX7_twin_21, vX7_twin_22, vX7_twin_25, vX7_twin_26, vX7_twin_27, pI_c, pL_c, pF_c, pD_c, pA_n, pA_c, pA_rf, pR_c, pR_rf, pV_i, pV_a, pV_n, pV_rf, ldI_c, ldL_c, ldF_c, ldD_c, ldA_c, ldA_n, ldA_rf, dup2_l, dup2_ia, dup2_ir, popA_0, popA_s, getL_z, getL_s, setL_z, setL_1, setL_s, setL2_z, setL2_1, setL2_s, drop2_i, drop2_a, drop2_0, drop2_n, drop2_l, drop2_d, drop2_r, cwd_0, cwd_i, cwd_a, cwd_n, cwd_l, cwd_d, cwd_f, cwd_r, rf_s, rf_n, swi_0, swi_s, zR_b0, zR_b1, zN_b0, zN_b1, entV_i, entV_a, entV_n, entV_r, entV_f, entV_l, entV_d, entV_s, entV_0, List.length_cons, List.length_nil, List.nil_append, List.cons_append, true_and, and_true, Nat.reduceAdd, Nat.reduceLT, Nat.reduceEqDiff, Nat.reduceLeDiff, Nat.reduceSub, Nat.zero_add, Classical.not_not, ex_i, ex_l, ex_d, ex_r, ex_rs, ex_rn, ex_sm, Nat.sub_zero, eq_self, wn_sI, wn_sL, wn_sP, wsh_sI, wsh_sL, wsh_sP, wI_sL, wI_sP, wL_sI, wL_sP, wP_sI, wP_sL, wI_sI, wL_sL, Int32.reduceLT, Int32.reduceLE, true_implies, not_true_eq_false, false_implies, not_false_eq_true, i_10, hS1.1, hS1.2.2.1, hN1.1, hN1.2.2.1]
  refine X7_size_ok hS1 ?_
  rw [vX7_twin_30]
  refine stCpI (sp := 0) (dp := 0) ⟨by decide +kernel, by decide +kernel⟩ (by decide) hS1.2.2.2.2.1 hN1.2.2.2.2.1 (by omega) (by omega) (by omega) (by omega) (by omega) ?_
  have c1 : ∀ b, b ≠ wn w + 1 → Same b w1 (cpI w1 (A + 1) (wn w + 1) 0 0 nn) := fun b hb => cpI_same hb
  have c2 : ∀ i, i < nn → wI (cpI w1 (A + 1) (wn w + 1) 0 0 nn) (wn w + 1) i = Kf i := fun i hi => by
    rw [cpI_at, if_pos (by omega), (e3 (A + 1) (by omega)).2.1, show 0 + (i - 0) = i by omega]
    exact (hr.2.2.2.2.2.2 i hi).1
  have c3 : wn (cpI w1 (A + 1) (wn w + 1) 0 0 nn) = wn w1 := rfl
  have c4 : wsh (cpI w1 (A + 1) (wn w + 1) 0 0 nn) = wsh w1 := rfl
  have c5 : wP (cpI w1 (A + 1) (wn w + 1) 0 0 nn) = wP w1 := rfl
  generalize cpI w1 (A + 1) (wn w + 1) 0 0 nn = w2 at c1 c2 c3 c4 c5 ⊢
  have hS2 : RowS w2 A kd nn := hS1.sam (c1 _ (by omega)) (c1 _ (by omega)) (c1 _ (by omega))
  have hN2 : RowS w2 (wn w) kd nn := ⟨by rw [c4]; exact hN1.1, by rw [(c1 (wn w) (by omega)).2.1]; exact hN1.2.1, by rw [c5]; exact hN1.2.2.1, by rw [c5]; exact hN1.2.2.2.1, by rw [c4]; exact hN1.2.2.2.2.1, by rw [c4]; exact hN1.2.2.2.2.2⟩
  simp (disch := omega) only [vX7_twin_33, vX7_twin_34, vX7_twin_37, vX7_twin_38, vX7_twin_39, vX7_twin_42, vX7_twin_43, vX7_twin_44, pI_c, pL_c, pF_c, pD_c, pA_n, pA_c, pA_rf, pR_c, pR_rf, pV_i, pV_a, pV_n, pV_rf, ldI_c, ldL_c, ldF_c, ldD_c, ldA_c, ldA_n, ldA_rf, dup2_l, dup2_ia, dup2_ir, popA_0, popA_s, getL_z, getL_s, setL_z, setL_1, setL_s, setL2_z, setL2_1, setL2_s, drop2_i, drop2_a, drop2_0, drop2_n, drop2_l, drop2_d, drop2_r, cwd_0, cwd_i, cwd_a, cwd_n, cwd_l, cwd_d, cwd_f, cwd_r, rf_s, rf_n, swi_0, swi_s, zR_b0, zR_b1, zN_b0, zN_b1, entV_i, entV_a, entV_n, entV_r, entV_f, entV_l, entV_d, entV_s, entV_0, List.length_cons, List.length_nil, List.nil_append, List.cons_append, true_and, and_true, Nat.reduceAdd, Nat.reduceLT, Nat.reduceEqDiff, Nat.reduceLeDiff, Nat.reduceSub, Nat.zero_add, Classical.not_not, ex_i, ex_l, ex_d, ex_r, ex_rs, ex_rn, ex_sm, Nat.sub_zero, eq_self, wn_sI, wn_sL, wn_sP, wsh_sI, wsh_sL, wsh_sP, wI_sL, wI_sP, wL_sI, wL_sP, wP_sI, wP_sL, wI_sI, wL_sL, Int32.reduceLT, Int32.reduceLE, true_implies, not_true_eq_false, false_implies, not_false_eq_true, i_10, hS2.1, hS2.2.2.2.1, hN2.1, hN2.2.2.2.1]
  refine X7_size_ok hS2 ?_
  rw [vX7_twin_47]
  refine stCpL (sp := 0) (dp := 0) ⟨by decide +kernel, by decide +kernel⟩ (by decide) hS2.2.2.2.2.2 hN2.2.2.2.2.2 (by omega) (by omega) (by omega) (by omega) (by omega) ?_
  have d1 : ∀ b, b ≠ wn w + 2 → Same b w2 (cpL w2 (A + 2) (wn w + 2) 0 0 nn) := fun b hb => cpL_same hb
  have d2 : ∀ i, i < nn → wL (cpL w2 (A + 2) (wn w + 2) 0 0 nn) (wn w + 2) i = Vf i := fun i hi => by
    rw [cpL_at, if_pos (by omega), (c1 (A + 2) (by omega)).2.2.1, (e3 (A + 2) (by omega)).2.2.1, show 0 + (i - 0) = i by omega]
    exact (hr.2.2.2.2.2.2 i hi).2
  have d3 : wn (cpL w2 (A + 2) (wn w + 2) 0 0 nn) = wn w2 := rfl
  have d4 : wsh (cpL w2 (A + 2) (wn w + 2) 0 0 nn) = wsh w2 := rfl
  have d5 : wP (cpL w2 (A + 2) (wn w + 2) 0 0 nn) = wP w2 := rfl
  generalize cpL w2 (A + 2) (wn w + 2) 0 0 nn = w3 at d1 d2 d3 d4 d5 ⊢
  simp (disch := omega) only [vX7_twin_50, vX7_twin_51, pI_c, pL_c, pF_c, pD_c, pA_n, pA_c, pA_rf, pR_c, pR_rf, pV_i, pV_a, pV_n, pV_rf, ldI_c, ldL_c, ldF_c, ldD_c, ldA_c, ldA_n, ldA_rf, dup2_l, dup2_ia, dup2_ir, popA_0, popA_s, getL_z, getL_s, setL_z, setL_1, setL_s, setL2_z, setL2_1, setL2_s, drop2_i, drop2_a, drop2_0, drop2_n, drop2_l, drop2_d, drop2_r, cwd_0, cwd_i, cwd_a, cwd_n, cwd_l, cwd_d, cwd_f, cwd_r, rf_s, rf_n, swi_0, swi_s, zR_b0, zR_b1, zN_b0, zN_b1, entV_i, entV_a, entV_n, entV_r, entV_f, entV_l, entV_d, entV_s, entV_0, List.length_cons, List.length_nil, List.nil_append, List.cons_append, true_and, and_true, Nat.reduceAdd, Nat.reduceLT, Nat.reduceEqDiff, Nat.reduceLeDiff, Nat.reduceSub, Nat.zero_add, Classical.not_not, ex_i, ex_l, ex_d, ex_r, ex_rs, ex_rn, ex_sm, Nat.sub_zero, eq_self, wn_sI, wn_sL, wn_sP, wsh_sI, wsh_sL, wsh_sP, wI_sL, wI_sP, wL_sI, wL_sP, wP_sI, wP_sL, wI_sI, wL_sL, Int32.reduceLT, Int32.reduceLE, true_implies, not_true_eq_false, false_implies, not_false_eq_true, i_10]
  refine h w3 (by rw [d3, c3, e1]) (fun b hb => ?_) (fun b hb => ((e3 b hb).tr (c1 b (by omega))).tr (d1 b (by omega))) ⟨by rw [d4]; exact hN2.1, by rw [(d1 (wn w) (by omega)).2.1]; exact hN2.2.1, by rw [d5]; exact hN2.2.2.1, by rw [d5]; exact hN2.2.2.2.1, by rw [d4]; exact hN2.2.2.2.2.1, by rw [d4]; exact hN2.2.2.2.2.2, fun i hi => ⟨by rw [(d1 (wn w + 1) (by omega)).2.1]; exact c2 i hi, d2 i hi⟩⟩
  rw [d3, c3] at hb
  rw [d4, c4]
  exact e2 b hb
/-- what a slot of an array holds -/
def RwSt (b : Nat) (w : Wd) (P : Nat → Option Nat) (ra : Nat → Nat) (sl rk rs kd : Nat → Int32) (vl : Nat → Int64) (s : Nat) : Prop := (sl s = -1 ∧ P s = none) ∨ (sl s = 9 ∧ ∃ a, b ≤ a ∧ P s = some a ∧ RowAt w a 9 0 (fun _ => 0) (fun _ => 0)) ∨ ∃ r, r < 8 ∧ sl s = nI r ∧ P s = some (ra r) ∧ b ≤ ra r ∧ ∃ a n, rk r = nI a ∧ rs r = nI n ∧ RowV a n (fun i => kd (16 * r + i)) (fun i => vl (16 * r + i)) ∧ RowAt w (ra r) a n (fun i => kd (16 * r + i)) (fun i => vl (16 * r + i))
def RowsN (N b : Nat) (w : Wd) (P : Nat → Option Nat) (ra : Nat → Nat) (sl rk rs kd : Nat → Int32) (vl : Nat → Int64) : Prop := (∀ s, s < N → RwSt b w P ra sl rk rs kd vl s) ∧ ∀ s t r q, s < N → t < N → r < 8 → q < 8 → sl s = nI r → sl t = nI q → ra r = ra q → r = q
theorem RowAt.sm {w w' : Wd} (hs : ∀ c, (wsh w c).1 < 104 → Same c w w') {a kd n : Nat} {Kf : Nat → Int32} {Vf : Nat → Int64} (h : RowAt w a kd n Kf Vf) : RowAt w' a kd n Kf Vf := h.sam (hs _ (by rw [h.1]; decide)) (hs _ (by rw [h.2.2.2.2.1]; show 100 < 104; omega)) (hs _ (by rw [h.2.2.2.2.2.1]; show 101 < 104; omega))
theorem RwSt.sm {b : Nat} {w w' : Wd} {P P' : Nat → Option Nat} {ra ra' : Nat → Nat} {sl rk rs kd : Nat → Int32} {vl : Nat → Int64} {s t : Nat} (h : RwSt b w P ra sl rk rs kd vl s) (hs : ∀ c, (wsh w c).1 < 104 → Same c w w') (e : P' t = P s) (es : sl t = sl s) (er : ∀ r, r < 8 → sl s = nI r → ra' r = ra r) : RwSt b w' P' ra' sl rk rs kd vl t := by
  unfold RwSt
  rw [e, es]
  rcases h with h | ⟨h1, a, h2, h3, h4⟩ | ⟨r, h1, h2, h3, h4, a, n, h5, h6, h7, h8⟩
  · exact Or.inl h
  · exact Or.inr (Or.inl ⟨h1, a, h2, h3, h4.sm hs⟩)
  · refine Or.inr (Or.inr ⟨r, h1, h2, ?_, ?_, a, n, h5, h6, h7, ?_⟩) <;> rw [er r h1 h2]
    · exact h3
    · exact h4
    · exact h8.sm hs
theorem RowsN.step {i b : Nat} {w w' : Wd} {P P' : Nat → Option Nat} {ra ra' : Nat → Nat} {sl rk rs kd : Nat → Int32} {vl : Nat → Int64} (h : RowsN i b w P ra sl rk rs kd vl) (hs : ∀ c, (wsh w c).1 < 104 → Same c w w') (e : ∀ t, t < i → P' t = P t) (f1 : ∀ t r, t < i → r < 8 → sl t = nI r → ra' r = ra r) (new : RwSt b w' P' ra' sl rk rs kd vl i) (inj : ∀ t r q, t < i → r < 8 → q < 8 → sl t = nI r → sl i = nI q → ra r = ra' q → r = q) : RowsN (i + 1) b w' P' ra' sl rk rs kd vl := by
  refine ⟨fun s hs' => ?_, fun s t r q hs' ht hr hq a1 a2 a3 => ?_⟩
  · by_cases z : s < i
    · exact (h.1 s z).sm hs (e s z) rfl fun r hr y => f1 s r z hr y
    · obtain rfl : s = i := by omega
      exact new
  · by_cases z : s < i <;> by_cases y : t < i
    · rw [f1 s r z hr a1, f1 t q y hq a2] at a3
      exact h.2 s t r q z y hr hq a1 a2 a3
    · obtain rfl : t = i := by omega
      rw [f1 s r z hr a1] at a3
      exact inj s r q z hr hq a1 a2 a3
    · obtain rfl : s = i := by omega
      rw [f1 t q y hq a2] at a3
      exact (inj t q r y hq hr a2 a1 a3.symm).symm
    · obtain rfl : s = i := by omega
      obtain rfl : t = s := by omega
      rw [a1, ni_eq (by omega) (by omega)] at a2
      exact a2
theorem RwSt.row {b : Nat} {w : Wd} {P : Nat → Option Nat} {ra : Nat → Nat} {sl rk rs kd : Nat → Int32} {vl : Nat → Int64} {s r : Nat} (h : RwSt b w P ra sl rk rs kd vl s) (hr : r < 8) (e : sl s = nI r) : P s = some (ra r) ∧ b ≤ ra r ∧ ∃ a n, rk r = nI a ∧ rs r = nI n ∧ RowV a n (fun i => kd (16 * r + i)) (fun i => vl (16 * r + i)) ∧ RowAt w (ra r) a n (fun i => kd (16 * r + i)) (fun i => vl (16 * r + i)) := by
  rcases h with ⟨z, -⟩ | ⟨z, -⟩ | ⟨q, h1, h2, h3, h4, h5⟩
  · exact absurd (e.symm.trans z) (ni_nem (by omega))
  · have := e.symm.trans z
    rw [show (9 : Int32) = nI 9 from rfl, ni_eq (by omega) (by omega)] at this
    omega
  · have := e.symm.trans h2
    rw [ni_eq (by omega) (by omega)] at this
    subst this
    exact ⟨h3, h4, h5⟩
theorem RowsX.eqS {b : Nat} {w : Wd} {P : Nat → Option Nat} {ra : Nat → Nat} {sl rk rs kd : Nat → Int32} {vl : Nat → Int64} (h : RowsX b w P ra sl rk rs kd vl) {s t : Nat} (hs : s < 8) (ht : t < 8) (e : P s = P t) : sl s = sl t := by
  have no : ∀ {s t a}, s < 8 → t < 8 → P s = P t → sl s = 9 → P s = some a → RowAt w a 9 0 (fun _ => 0) (fun _ => 0) → sl t = 9 := fun {s t a} hs ht e z1 z3 z4 => by
    rcases h.1 t ht with ⟨y1, y2⟩ | ⟨y1, -⟩ | ⟨r, h1, h2, h3, h4, a', n', h5, h6, h7, h8⟩
    · rw [e, y2] at z3; cases z3
    · exact y1
    · rw [e, h3] at z3
      cases z3
      have := z4.2.1.symm.trans h8.2.1
      have h9 := h7.1
      rw [ni_eq (by omega) (by omega)] at this
      omega
  rcases h.1 s hs with ⟨z1, z2⟩ | ⟨z1, a, z2, z3, z4⟩ | ⟨r, h1, h2, h3, -⟩
  · rcases h.1 t ht with ⟨y1, y2⟩ | ⟨y1, a, y2, y3, -⟩ | ⟨q, g1, g2, g3, -⟩
    · rw [z1, y1]
    · rw [← e, z2] at y3; cases y3
    · rw [← e, z2] at g3; cases g3
  · rw [z1, no hs ht e z1 z3 z4]
  · rcases h.1 t ht with ⟨y1, y2⟩ | ⟨y1, a, y2, y3, y4⟩ | ⟨q, g1, g2, g3, -⟩
    · rw [e, y2] at h3; cases h3
    · rw [y1, no ht hs e.symm y1 y3 y4]
    · rw [e, g3] at h3
      have := h.2 s t r q hs ht h1 g1 h2 g2 (Option.some.inj h3).symm
      rw [h2, g2, this]
set_option maxRecDepth 100000 in
set_option maxHeartbeats 4000000 in
theorem X11_cpR_loop {g : Ge} {F T b : Nat} {w0 : Wd} {ra : Nat → Nat} {sl rk rs kd : Nat → Int32} {vl : Nat → Int64} {K : Option Value → Wd → Prop} (hg : gB g ≤ T) (hF : wsh w0 F = (104, 8)) (hT : wsh w0 T = (104, 8)) (hFT : F ≠ T) (hW0 : WF w0) (hR : RowsX b w0 (wP w0 F) ra sl rk rs kd vl) (hK : ∀ w' rb, WF w' → wn w0 ≤ wn w' → (∀ c, c < wn w0 → c ≠ T → Same c w0 w') → wsh w' T = (104, 8) → RowsN 8 (wn w0) w' (wP w' T) rb sl rk rs kd vl → K none w') : ∀ (d i : Nat) (w : Wd) (rb : Nat → Nat) (o3 : Option Value) (k0 n0 : Nat), i + d = 8 → 3 * d ≤ k0 → 64 * d ≤ n0 → WF w → wn w0 ≤ wn w → (∀ c, c < wn w0 → c ≠ T → Same c w0 w) → wsh w T = (104, 8) → RowsN i (wn w0) w (wP w T) rb sl rk rs kd vl → R g mX11_copyRows K 2 [some (.ref F), some (.ref T), some (.int (nI i)), o3] [] w k0 n0 := by
  have hFl : F < wn w0 := hW0.lt (by rw [hF]; decide)
  have hTl : T < wn w0 := hW0.lt (by rw [hT]; decide)
  intro d
  induction d with
  | zero =>
    intro i w rb o3 k0 n0 hi hk hn hW hw hS hTs hN
    obtain rfl : i = 8 := by omega
    have e8 : (8 : Int32) ≤ nI 8 := by decide
    simp (disch := omega) only [vX11_copyRows_2, vX11_copyRows_3, vX11_copyRows_5, vX11_copyRows_53, pI_c, pL_c, pF_c, pD_c, pA_n, pA_c, pA_rf, pR_c, pR_rf, pV_i, pV_a, pV_n, pV_rf, ldI_c, ldL_c, ldF_c, ldD_c, ldA_c, ldA_n, ldA_rf, dup2_l, dup2_ia, dup2_ir, popA_0, popA_s, getL_z, getL_s, setL_z, setL_1, setL_s, setL2_z, setL2_1, setL2_s, drop2_i, drop2_a, drop2_0, drop2_n, drop2_l, drop2_d, drop2_r, cwd_0, cwd_i, cwd_a, cwd_n, cwd_l, cwd_d, cwd_f, cwd_r, rf_s, rf_n, swi_0, swi_s, zR_b0, zR_b1, zN_b0, zN_b1, entV_i, entV_a, entV_n, entV_r, entV_f, entV_l, entV_d, entV_s, entV_0, List.length_cons, List.length_nil, List.nil_append, List.cons_append, true_and, and_true, Nat.reduceAdd, Nat.reduceLT, Nat.reduceEqDiff, Nat.reduceLeDiff, Nat.reduceSub, Nat.zero_add, Classical.not_not, ex_i, ex_l, ex_d, ex_r, ex_rs, ex_rn, ex_sm, Nat.sub_zero, eq_self, wn_sI, wn_sL, wn_sP, wsh_sI, wsh_sL, wsh_sP, wI_sL, wI_sP, wL_sI, wL_sP, wP_sI, wP_sL, wI_sI, wL_sL, Int32.reduceLT, Int32.reduceLE, true_implies, not_true_eq_false, false_implies, not_false_eq_true, i_10, e8]
    exact hK w rb hW hw hS hTs hN
  | succ d ih =>
    intro i w rb o3 k0 n0 hi hk hn hW hw hS hTs hN
    have e8 : ¬ (8 : Int32) ≤ nI i := by rw [ni_lit 8, ni_le (by decide) (by omega)]; omega
    have hFs := hS F hFl hFT
    have hFw : wsh w F = (104, 8) := hFs.1.trans hF
    have hFP : wP w F = wP w0 F := hFs.2.2.2
    simp (disch := omega) only [vX11_copyRows_2, vX11_copyRows_3, vX11_copyRows_5, vX11_copyRows_8, vX11_copyRows_9, vX11_copyRows_10, pI_c, pL_c, pF_c, pD_c, pA_n, pA_c, pA_rf, pR_c, pR_rf, pV_i, pV_a, pV_n, pV_rf, ldI_c, ldL_c, ldF_c, ldD_c, ldA_c, ldA_n, ldA_rf, dup2_l, dup2_ia, dup2_ir, popA_0, popA_s, getL_z, getL_s, setL_z, setL_1, setL_s, setL2_z, setL2_1, setL2_s, drop2_i, drop2_a, drop2_0, drop2_n, drop2_l, drop2_d, drop2_r, cwd_0, cwd_i, cwd_a, cwd_n, cwd_l, cwd_d, cwd_f, cwd_r, rf_s, rf_n, swi_0, swi_s, zR_b0, zR_b1, zN_b0, zN_b1, entV_i, entV_a, entV_n, entV_r, entV_f, entV_l, entV_d, entV_s, entV_0, List.length_cons, List.length_nil, List.nil_append, List.cons_append, true_and, and_true, Nat.reduceAdd, Nat.reduceLT, Nat.reduceEqDiff, Nat.reduceLeDiff, Nat.reduceSub, Nat.zero_add, Classical.not_not, ex_i, ex_l, ex_d, ex_r, ex_rs, ex_rn, ex_sm, Nat.sub_zero, eq_self, wn_sI, wn_sL, wn_sP, wsh_sI, wsh_sL, wsh_sP, wI_sL, wI_sP, wL_sI, wL_sP, wP_sI, wP_sL, wI_sI, wL_sL, Int32.reduceLT, Int32.reduceLE, true_implies, not_true_eq_false, false_implies, not_false_eq_true, i_10, e8]
    refine X11_fh_ok hFw (by omega) ?_
    rw [hFP]
    obtain ⟨f1, f2, f3, f4⟩ := fhF_in (wP w0 F) (wP w0 F i) i 0
    rw [Nat.zero_add] at f2 f3
    generalize fhF (wP w0 F) (wP w0 F i) i 0 = f at f1 f2 f3 f4
    have sT : ∀ (w1 : Wd) (v : Option Nat), ∀ c, c ≠ T → Same c w1 (sP w1 T i v) := fun w1 v c hc => sP_same hc
    by_cases q : f < i
    · have q' : ¬ nI i ≤ nI f := by rw [ni_le (by omega) (by omega)]; omega
      have es : sl i = sl f := (hR.eqS (by omega) (by omega) (f3 q)).symm
      simp (disch := omega) only [vX11_copyRows_13, vX11_copyRows_14, vX11_copyRows_15, vX11_copyRows_16, vX11_copyRows_19, vX11_copyRows_20, vX11_copyRows_21, vX11_copyRows_22, vX11_copyRows_23, vX11_copyRows_24, vX11_copyRows_25, pI_c, pL_c, pF_c, pD_c, pA_n, pA_c, pA_rf, pR_c, pR_rf, pV_i, pV_a, pV_n, pV_rf, ldI_c, ldL_c, ldF_c, ldD_c, ldA_c, ldA_n, ldA_rf, dup2_l, dup2_ia, dup2_ir, popA_0, popA_s, getL_z, getL_s, setL_z, setL_1, setL_s, setL2_z, setL2_1, setL2_s, drop2_i, drop2_a, drop2_0, drop2_n, drop2_l, drop2_d, drop2_r, cwd_0, cwd_i, cwd_a, cwd_n, cwd_l, cwd_d, cwd_f, cwd_r, rf_s, rf_n, swi_0, swi_s, zR_b0, zR_b1, zN_b0, zN_b1, entV_i, entV_a, entV_n, entV_r, entV_f, entV_l, entV_d, entV_s, entV_0, List.length_cons, List.length_nil, List.nil_append, List.cons_append, true_and, and_true, Nat.reduceAdd, Nat.reduceLT, Nat.reduceEqDiff, Nat.reduceLeDiff, Nat.reduceSub, Nat.zero_add, Classical.not_not, ex_i, ex_l, ex_d, ex_r, ex_rs, ex_rn, ex_sm, Nat.sub_zero, eq_self, wn_sI, wn_sL, wn_sP, wsh_sI, wsh_sL, wsh_sP, wI_sL, wI_sP, wL_sI, wL_sP, wP_sI, wP_sL, wI_sI, wL_sL, Int32.reduceLT, Int32.reduceLE, true_implies, not_true_eq_false, false_implies, not_false_eq_true, i_10, na_1, nb_1, nm_1, ns_1, nr_1, na_2, nb_2, nm_2, ns_2, nr_2, na_3, nb_3, nm_3, ns_3, nr_3, na_4, nb_4, nm_4, ns_4, nr_4, na_5, nb_5, nm_5, ns_5, nr_5, na_6, nb_6, nm_6, ns_6, nr_6, na_7, nb_7, nm_7, ns_7, nr_7, na_8, nb_8, nm_8, ns_8, nr_8, na_10, nb_10, nm_10, ns_10, nr_10, na_16, nb_16, nm_16, ns_16, nr_16, nl_m1, ni_add, ni_mul, ni_sub, ni_cl, ni_in, vp_0, vp_1, vp_2, vp_3, vp_4, vp_5, Int32.reduceToNatClampNeg, q', hTs, hg]
      have hst := hN.1 f q
      refine ⟨fun v hv => ?_, ?_⟩
      · rcases hst with ⟨-, z⟩ | ⟨-, a, -, z, z4⟩ | ⟨r, -, -, z, -, a, n', -, -, -, z4⟩
        · rw [z] at hv; cases hv
        · rw [z] at hv; cases hv; rw [z4.1]; rfl
        · rw [z] at hv; cases hv; rw [z4.1]; rfl
      · simp (disch := omega) only [vX11_copyRows_47, vX11_copyRows_50, pI_c, pL_c, pF_c, pD_c, pA_n, pA_c, pA_rf, pR_c, pR_rf, pV_i, pV_a, pV_n, pV_rf, ldI_c, ldL_c, ldF_c, ldD_c, ldA_c, ldA_n, ldA_rf, dup2_l, dup2_ia, dup2_ir, popA_0, popA_s, getL_z, getL_s, setL_z, setL_1, setL_s, setL2_z, setL2_1, setL2_s, drop2_i, drop2_a, drop2_0, drop2_n, drop2_l, drop2_d, drop2_r, cwd_0, cwd_i, cwd_a, cwd_n, cwd_l, cwd_d, cwd_f, cwd_r, rf_s, rf_n, swi_0, swi_s, zR_b0, zR_b1, zN_b0, zN_b1, entV_i, entV_a, entV_n, entV_r, entV_f, entV_l, entV_d, entV_s, entV_0, List.length_cons, List.length_nil, List.nil_append, List.cons_append, true_and, and_true, Nat.reduceAdd, Nat.reduceLT, Nat.reduceEqDiff, Nat.reduceLeDiff, Nat.reduceSub, Nat.zero_add, Classical.not_not, ex_i, ex_l, ex_d, ex_r, ex_rs, ex_rn, ex_sm, Nat.sub_zero, eq_self, wn_sI, wn_sL, wn_sP, wsh_sI, wsh_sL, wsh_sP, wI_sL, wI_sP, wL_sI, wL_sP, wP_sI, wP_sL, wI_sI, wL_sL, Int32.reduceLT, Int32.reduceLE, true_implies, not_true_eq_false, false_implies, not_false_eq_true, i_10, na_1, nb_1, nm_1, ns_1, nr_1, na_2, nb_2, nm_2, ns_2, nr_2, na_3, nb_3, nm_3, ns_3, nr_3, na_4, nb_4, nm_4, ns_4, nr_4, na_5, nb_5, nm_5, ns_5, nr_5, na_6, nb_6, nm_6, ns_6, nr_6, na_7, nb_7, nm_7, ns_7, nr_7, na_8, nb_8, nm_8, ns_8, nr_8, na_10, nb_10, nm_10, ns_10, nr_10, na_16, nb_16, nm_16, ns_16, nr_16, nl_m1, ni_add, ni_mul, ni_sub, ni_cl, ni_in, vp_0, vp_1, vp_2, vp_3, vp_4, vp_5, Int32.reduceToNatClampNeg]
        have hs : ∀ c, (wsh w c).1 < 104 → Same c w (sP w T i (wP w T f)) := fun c hc => sT _ _ c fun z => by rw [z, hTs] at hc; exact absurd hc (by decide)
        refine ih (i + 1) _ rb _ k0 n0 (by omega) (by omega) (by omega) (fun c hc => by rw [wn_sP] at hc; rw [wsh_sP]; exact hW c hc) (by rw [wn_sP]; exact hw) (fun c h1 h2 => (hS c h1 h2).tr (sT _ _ c h2)) (by rw [wsh_sP]; exact hTs) (hN.step hs (fun t ht => by rw [wP_at, if_neg (by omega)]) (fun _ _ _ _ _ => rfl) (hst.sm hs (by rw [wP_at, if_pos rfl]) es fun _ _ _ => rfl) fun t r q2 ht hr hq a1 a2 a3 => hN.2 t f r q2 ht q hr hq a1 (es.symm.trans a2) a3)
    · obtain rfl : f = i := by omega
      have q' : nI f ≤ nI f := Int32.le_refl _
      have hne : ∀ v, v < f → wP w0 F v ≠ wP w0 F f := fun v hv => f4 v (Nat.zero_le v) hv
      have end' : ∀ (w1 : Wd) (v : Option Nat) (rb1 : Nat → Nat) (k1 n1 : Nat), 3 * d ≤ k1 → 64 * d ≤ n1 → WF w1 → wn w ≤ wn w1 → (∀ c, c < wn w → Same c w w1) → (∀ a, v = some a → (wsh w1 a).1 = 7) → RowsN (f + 1) (wn w0) (sP w1 T f v) (wP (sP w1 T f v) T) rb1 sl rk rs kd vl → R g mX11_copyRows K 46 [some (.ref F), some (.ref T), some (.int (nI f)), some (.int (nI f))] [va_rf v, .int (nI f), .ref T] w1 k1 n1 := by
        intro w1 v rb1 k1 n1 hk1 hn1 hW1 hw1 hS1 hv hN1
        have hT1 : wsh w1 T = (104, 8) := (hS1 T (by omega)).1.trans hTs
        simp (disch := omega) only [vX11_copyRows_46, vX11_copyRows_47, vX11_copyRows_50, pI_c, pL_c, pF_c, pD_c, pA_n, pA_c, pA_rf, pR_c, pR_rf, pV_i, pV_a, pV_n, pV_rf, ldI_c, ldL_c, ldF_c, ldD_c, ldA_c, ldA_n, ldA_rf, dup2_l, dup2_ia, dup2_ir, popA_0, popA_s, getL_z, getL_s, setL_z, setL_1, setL_s, setL2_z, setL2_1, setL2_s, drop2_i, drop2_a, drop2_0, drop2_n, drop2_l, drop2_d, drop2_r, cwd_0, cwd_i, cwd_a, cwd_n, cwd_l, cwd_d, cwd_f, cwd_r, rf_s, rf_n, swi_0, swi_s, zR_b0, zR_b1, zN_b0, zN_b1, entV_i, entV_a, entV_n, entV_r, entV_f, entV_l, entV_d, entV_s, entV_0, List.length_cons, List.length_nil, List.nil_append, List.cons_append, true_and, and_true, Nat.reduceAdd, Nat.reduceLT, Nat.reduceEqDiff, Nat.reduceLeDiff, Nat.reduceSub, Nat.zero_add, Classical.not_not, ex_i, ex_l, ex_d, ex_r, ex_rs, ex_rn, ex_sm, Nat.sub_zero, eq_self, wn_sI, wn_sL, wn_sP, wsh_sI, wsh_sL, wsh_sP, wI_sL, wI_sP, wL_sI, wL_sP, wP_sI, wP_sL, wI_sI, wL_sL, Int32.reduceLT, Int32.reduceLE, true_implies, not_true_eq_false, false_implies, not_false_eq_true, i_10, na_1, nb_1, nm_1, ns_1, nr_1, na_2, nb_2, nm_2, ns_2, nr_2, na_3, nb_3, nm_3, ns_3, nr_3, na_4, nb_4, nm_4, ns_4, nr_4, na_5, nb_5, nm_5, ns_5, nr_5, na_6, nb_6, nm_6, ns_6, nr_6, na_7, nb_7, nm_7, ns_7, nr_7, na_8, nb_8, nm_8, ns_8, nr_8, na_10, nb_10, nm_10, ns_10, nr_10, na_16, nb_16, nm_16, ns_16, nr_16, nl_m1, ni_add, ni_mul, ni_sub, ni_cl, ni_in, vp_0, vp_1, vp_2, vp_3, vp_4, vp_5, Int32.reduceToNatClampNeg, hT1, hg]
        refine ⟨fun a ha => hv a ha, ?_⟩
        exact ih (f + 1) _ rb1 _ k1 n1 (by omega) (by omega) (by omega) (fun c hc => by rw [wn_sP] at hc; rw [wsh_sP]; exact hW1 c hc) (by rw [wn_sP]; omega) (fun c h1 h2 => ((hS c h1 h2).tr (hS1 c (by omega))).tr (sT _ _ c h2)) (by rw [wsh_sP]; exact hT1) hN1
      have hs1 : ∀ (w1 : Wd) (v : Option Nat), (∀ c, c < wn w → Same c w w1) → ∀ c, (wsh w c).1 < 104 → Same c w (sP w1 T f v) := fun w1 v hS1 c hc => (hS1 c (hW.lt (by omega))).tr (sT _ _ c fun z => by rw [z, hTs] at hc; exact absurd hc (by decide))
      have hlt : ∀ t r, t < f → r < 8 → sl t = nI r → rb r < wn w := fun t r ht hr e => by
        obtain ⟨-, -, a, n', -, -, -, z4⟩ := (hN.1 t ht).row hr e
        have := z4.lt hW
        omega
      have h0 : ∀ c, (wsh w0 c).1 < 104 → Same c w0 w := fun c hc => hS c (hW0.lt (by omega)) fun z => by rw [z, hT] at hc; exact absurd hc (by decide)
      have PT : ∀ (w1 : Wd) (v : Option Nat), (∀ c, c < wn w → Same c w w1) → ∀ t, t < f → wP (sP w1 T f v) T t = wP w T t := fun w1 v hS1 t ht => by rw [wP_at, if_neg (by omega), (hS1 T (by omega)).2.2.2]
      have hPf : wP w F f = wP w0 F f := by rw [hFP]
      rcases hR.1 f (by omega) with ⟨z1, z2⟩ | ⟨z1, A, z2, z3, z4⟩ | ⟨r, z1, z2, z3, z4, a, nn, z5, z6, z7, z8⟩
      · simp (disch := omega) only [vX11_copyRows_13, vX11_copyRows_14, vX11_copyRows_15, vX11_copyRows_16, vX11_copyRows_19, vX11_copyRows_20, vX11_copyRows_21, vX11_copyRows_22, vX11_copyRows_23, vX11_copyRows_24, vX11_copyRows_25, vX11_copyRows_28, vX11_copyRows_29, vX11_copyRows_30, vX11_copyRows_31, vX11_copyRows_32, vX11_copyRows_33, vX11_copyRows_36, vX11_copyRows_37, pI_c, pL_c, pF_c, pD_c, pA_n, pA_c, pA_rf, pR_c, pR_rf, pV_i, pV_a, pV_n, pV_rf, ldI_c, ldL_c, ldF_c, ldD_c, ldA_c, ldA_n, ldA_rf, dup2_l, dup2_ia, dup2_ir, popA_0, popA_s, getL_z, getL_s, setL_z, setL_1, setL_s, setL2_z, setL2_1, setL2_s, drop2_i, drop2_a, drop2_0, drop2_n, drop2_l, drop2_d, drop2_r, cwd_0, cwd_i, cwd_a, cwd_n, cwd_l, cwd_d, cwd_f, cwd_r, rf_s, rf_n, swi_0, swi_s, zR_b0, zR_b1, zN_b0, zN_b1, entV_i, entV_a, entV_n, entV_r, entV_f, entV_l, entV_d, entV_s, entV_0, List.length_cons, List.length_nil, List.nil_append, List.cons_append, true_and, and_true, Nat.reduceAdd, Nat.reduceLT, Nat.reduceEqDiff, Nat.reduceLeDiff, Nat.reduceSub, Nat.zero_add, Classical.not_not, ex_i, ex_l, ex_d, ex_r, ex_rs, ex_rn, ex_sm, Nat.sub_zero, eq_self, wn_sI, wn_sL, wn_sP, wsh_sI, wsh_sL, wsh_sP, wI_sL, wI_sP, wL_sI, wL_sP, wP_sI, wP_sL, wI_sI, wL_sL, Int32.reduceLT, Int32.reduceLE, true_implies, not_true_eq_false, false_implies, not_false_eq_true, i_10, na_1, nb_1, nm_1, ns_1, nr_1, na_2, nb_2, nm_2, ns_2, nr_2, na_3, nb_3, nm_3, ns_3, nr_3, na_4, nb_4, nm_4, ns_4, nr_4, na_5, nb_5, nm_5, ns_5, nr_5, na_6, nb_6, nm_6, ns_6, nr_6, na_7, nb_7, nm_7, ns_7, nr_7, na_8, nb_8, nm_8, ns_8, nr_8, na_10, nb_10, nm_10, ns_10, nr_10, na_16, nb_16, nm_16, ns_16, nr_16, nl_m1, ni_add, ni_mul, ni_sub, ni_cl, ni_in, vp_0, vp_1, vp_2, vp_3, vp_4, vp_5, Int32.reduceToNatClampNeg, q', hFw, hPf, z2]
        refine end' w none rb k0 n0 (by omega) (by omega) hW (Nat.le_refl _) (fun _ _ => Same.rf) (fun a ha => by cases ha) (hN.step (hs1 w none fun _ _ => Same.rf) (PT w none fun _ _ => Same.rf) (fun _ _ _ _ _ => rfl) (Or.inl ⟨z1, by rw [wP_at, if_pos rfl]⟩) fun t r q2 ht hr hq a1 a2 a3 => ?_)
        exact absurd (a2.symm.trans z1) (ni_nem (by omega))
      · have z4w := z4.sm h0
        simp (disch := omega) only [vX11_copyRows_13, vX11_copyRows_14, vX11_copyRows_15, vX11_copyRows_16, vX11_copyRows_19, vX11_copyRows_20, vX11_copyRows_21, vX11_copyRows_22, vX11_copyRows_23, vX11_copyRows_24, vX11_copyRows_25, vX11_copyRows_28, vX11_copyRows_29, vX11_copyRows_30, vX11_copyRows_31, vX11_copyRows_32, vX11_copyRows_33, vX11_copyRows_40, vX11_copyRows_41, vX11_copyRows_42, pI_c, pL_c, pF_c, pD_c, pA_n, pA_c, pA_rf, pR_c, pR_rf, pV_i, pV_a, pV_n, pV_rf, ldI_c, ldL_c, ldF_c, ldD_c, ldA_c, ldA_n, ldA_rf, dup2_l, dup2_ia, dup2_ir, popA_0, popA_s, getL_z, getL_s, setL_z, setL_1, setL_s, setL2_z, setL2_1, setL2_s, drop2_i, drop2_a, drop2_0, drop2_n, drop2_l, drop2_d, drop2_r, cwd_0, cwd_i, cwd_a, cwd_n, cwd_l, cwd_d, cwd_f, cwd_r, rf_s, rf_n, swi_0, swi_s, zR_b0, zR_b1, zN_b0, zN_b1, entV_i, entV_a, entV_n, entV_r, entV_f, entV_l, entV_d, entV_s, entV_0, List.length_cons, List.length_nil, List.nil_append, List.cons_append, true_and, and_true, Nat.reduceAdd, Nat.reduceLT, Nat.reduceEqDiff, Nat.reduceLeDiff, Nat.reduceSub, Nat.zero_add, Classical.not_not, ex_i, ex_l, ex_d, ex_r, ex_rs, ex_rn, ex_sm, Nat.sub_zero, eq_self, wn_sI, wn_sL, wn_sP, wsh_sI, wsh_sL, wsh_sP, wI_sL, wI_sP, wL_sI, wL_sP, wP_sI, wP_sL, wI_sI, wL_sL, Int32.reduceLT, Int32.reduceLE, true_implies, not_true_eq_false, false_implies, not_false_eq_true, i_10, na_1, nb_1, nm_1, ns_1, nr_1, na_2, nb_2, nm_2, ns_2, nr_2, na_3, nb_3, nm_3, ns_3, nr_3, na_4, nb_4, nm_4, ns_4, nr_4, na_5, nb_5, nm_5, ns_5, nr_5, na_6, nb_6, nm_6, ns_6, nr_6, na_7, nb_7, nm_7, ns_7, nr_7, na_8, nb_8, nm_8, ns_8, nr_8, na_10, nb_10, nm_10, ns_10, nr_10, na_16, nb_16, nm_16, ns_16, nr_16, nl_m1, ni_add, ni_mul, ni_sub, ni_cl, ni_in, vp_0, vp_1, vp_2, vp_3, vp_4, vp_5, Int32.reduceToNatClampNeg, q', hFw, hPf, z3]
        rw [vX11_copyRows_43]
        simp only [pI_c, pL_c, pF_c, pD_c, pA_n, pA_c, pA_rf, pR_c, pR_rf, pV_i, pV_a, pV_n, pV_rf, ldI_c, ldL_c, ldF_c, ldD_c, ldA_c, ldA_n, ldA_rf, dup2_l, dup2_ia, dup2_ir, popA_0, popA_s, getL_z, getL_s, setL_z, setL_1, setL_s, setL2_z, setL2_1, setL2_s, drop2_i, drop2_a, drop2_0, drop2_n, drop2_l, drop2_d, drop2_r, cwd_0, cwd_i, cwd_a, cwd_n, cwd_l, cwd_d, cwd_f, cwd_r, rf_s, rf_n, swi_0, swi_s, zR_b0, zR_b1, zN_b0, zN_b1, entV_i, entV_a, entV_n, entV_r, entV_f, entV_l, entV_d, entV_s, entV_0, List.length_cons, List.length_nil, List.nil_append, List.cons_append, true_and, and_true, Nat.reduceAdd, Nat.reduceLT, Nat.reduceEqDiff, Nat.reduceLeDiff, Nat.reduceSub, Nat.zero_add, Classical.not_not, ex_i, ex_l, ex_d, ex_r, ex_rs, ex_rn, ex_sm, Nat.sub_zero, eq_self, wn_sI, wn_sL, wn_sP, wsh_sI, wsh_sL, wsh_sP, wI_sL, wI_sP, wL_sI, wL_sP, wP_sI, wP_sL, wI_sI, wL_sL, Int32.reduceLT, Int32.reduceLE, true_implies, not_true_eq_false, false_implies, not_false_eq_true, i_10, so_n, z4w.1]
        refine X7_twin_ok (k := k0) (n := n0) (Nat.le_trans hg (by omega)) hW z4w (by omega) (by omega) (by omega) fun w1 e1 e2 e3 e4 => ?_
        refine end' w1 (some (wn w)) rb _ _ (by omega) (by omega) e2 (by omega) e3 (fun a ha => by cases ha; rw [e4.1]) (hN.step (hs1 w1 _ e3) (PT w1 _ e3) (fun _ _ _ _ _ => rfl) (Or.inr (Or.inl ⟨z1, wn w, hw, by rw [wP_at, if_pos rfl], e4.sam (sT _ _ _ (by omega)) (sT _ _ _ (by omega)) (sT _ _ _ (by omega))⟩)) fun t r q2 ht hr hq a1 a2 a3 => ?_)
        have := a2.symm.trans z1
        rw [show (9 : Int32) = nI 9 from rfl, ni_eq (by omega) (by omega)] at this
        omega
      · have z8w := z8.sm h0
        have hn16 := z7.2.1
        simp (disch := omega) only [vX11_copyRows_13, vX11_copyRows_14, vX11_copyRows_15, vX11_copyRows_16, vX11_copyRows_19, vX11_copyRows_20, vX11_copyRows_21, vX11_copyRows_22, vX11_copyRows_23, vX11_copyRows_24, vX11_copyRows_25, vX11_copyRows_28, vX11_copyRows_29, vX11_copyRows_30, vX11_copyRows_31, vX11_copyRows_32, vX11_copyRows_33, vX11_copyRows_40, vX11_copyRows_41, vX11_copyRows_42, pI_c, pL_c, pF_c, pD_c, pA_n, pA_c, pA_rf, pR_c, pR_rf, pV_i, pV_a, pV_n, pV_rf, ldI_c, ldL_c, ldF_c, ldD_c, ldA_c, ldA_n, ldA_rf, dup2_l, dup2_ia, dup2_ir, popA_0, popA_s, getL_z, getL_s, setL_z, setL_1, setL_s, setL2_z, setL2_1, setL2_s, drop2_i, drop2_a, drop2_0, drop2_n, drop2_l, drop2_d, drop2_r, cwd_0, cwd_i, cwd_a, cwd_n, cwd_l, cwd_d, cwd_f, cwd_r, rf_s, rf_n, swi_0, swi_s, zR_b0, zR_b1, zN_b0, zN_b1, entV_i, entV_a, entV_n, entV_r, entV_f, entV_l, entV_d, entV_s, entV_0, List.length_cons, List.length_nil, List.nil_append, List.cons_append, true_and, and_true, Nat.reduceAdd, Nat.reduceLT, Nat.reduceEqDiff, Nat.reduceLeDiff, Nat.reduceSub, Nat.zero_add, Classical.not_not, ex_i, ex_l, ex_d, ex_r, ex_rs, ex_rn, ex_sm, Nat.sub_zero, eq_self, wn_sI, wn_sL, wn_sP, wsh_sI, wsh_sL, wsh_sP, wI_sL, wI_sP, wL_sI, wL_sP, wP_sI, wP_sL, wI_sI, wL_sL, Int32.reduceLT, Int32.reduceLE, true_implies, not_true_eq_false, false_implies, not_false_eq_true, i_10, na_1, nb_1, nm_1, ns_1, nr_1, na_2, nb_2, nm_2, ns_2, nr_2, na_3, nb_3, nm_3, ns_3, nr_3, na_4, nb_4, nm_4, ns_4, nr_4, na_5, nb_5, nm_5, ns_5, nr_5, na_6, nb_6, nm_6, ns_6, nr_6, na_7, nb_7, nm_7, ns_7, nr_7, na_8, nb_8, nm_8, ns_8, nr_8, na_10, nb_10, nm_10, ns_10, nr_10, na_16, nb_16, nm_16, ns_16, nr_16, nl_m1, ni_add, ni_mul, ni_sub, ni_cl, ni_in, vp_0, vp_1, vp_2, vp_3, vp_4, vp_5, Int32.reduceToNatClampNeg, q', hFw, hPf, z3]
        rw [vX11_copyRows_43]
        simp only [pI_c, pL_c, pF_c, pD_c, pA_n, pA_c, pA_rf, pR_c, pR_rf, pV_i, pV_a, pV_n, pV_rf, ldI_c, ldL_c, ldF_c, ldD_c, ldA_c, ldA_n, ldA_rf, dup2_l, dup2_ia, dup2_ir, popA_0, popA_s, getL_z, getL_s, setL_z, setL_1, setL_s, setL2_z, setL2_1, setL2_s, drop2_i, drop2_a, drop2_0, drop2_n, drop2_l, drop2_d, drop2_r, cwd_0, cwd_i, cwd_a, cwd_n, cwd_l, cwd_d, cwd_f, cwd_r, rf_s, rf_n, swi_0, swi_s, zR_b0, zR_b1, zN_b0, zN_b1, entV_i, entV_a, entV_n, entV_r, entV_f, entV_l, entV_d, entV_s, entV_0, List.length_cons, List.length_nil, List.nil_append, List.cons_append, true_and, and_true, Nat.reduceAdd, Nat.reduceLT, Nat.reduceEqDiff, Nat.reduceLeDiff, Nat.reduceSub, Nat.zero_add, Classical.not_not, ex_i, ex_l, ex_d, ex_r, ex_rs, ex_rn, ex_sm, Nat.sub_zero, eq_self, wn_sI, wn_sL, wn_sP, wsh_sI, wsh_sL, wsh_sP, wI_sL, wI_sP, wL_sI, wL_sP, wP_sI, wP_sL, wI_sI, wL_sL, Int32.reduceLT, Int32.reduceLE, true_implies, not_true_eq_false, false_implies, not_false_eq_true, i_10, so_n, z8w.1]
        refine X7_twin_ok (k := k0) (n := n0) (Nat.le_trans hg (by omega)) hW z8w hn16 (by omega) (by omega) fun w1 e1 e2 e3 e4 => ?_
        have hno : ∀ t q2, t < f → q2 < 8 → sl t = nI q2 → q2 ≠ r := fun t q2 ht hq e y => by
          subst y
          rcases hR.1 t (by omega) with ⟨y1, -⟩ | ⟨y1, -⟩ | ⟨r2, y1, y2, y3, -⟩
          · exact absurd (e.symm.trans y1) (ni_nem (by omega))
          · have := e.symm.trans y1
            rw [show (9 : Int32) = nI 9 from rfl, ni_eq (by omega) (by omega)] at this
            omega
          · have := e.symm.trans y2
            rw [ni_eq (by omega) (by omega)] at this
            subst this
            exact hne t ht (y3.trans z3.symm)
        refine end' w1 (some (wn w)) (fun q2 => if q2 = r then wn w else rb q2) _ _ (by omega) (by omega) e2 (by omega) e3 (fun a ha => by cases ha; rw [e4.1]) (hN.step (hs1 w1 _ e3) (PT w1 _ e3) (fun t q2 ht hq e => if_neg (hno t q2 ht hq e)) (Or.inr (Or.inr ⟨r, z1, z2, ?_, ?_, a, nn, z5, z6, z7, ?_⟩)) fun t q2 r2 ht hq hr a1 a2 a3 => ?_)
        · rw [wP_at, if_pos rfl]
          exact congrArg some (if_pos rfl).symm
        · exact Nat.le_trans hw (Nat.le_of_eq (if_pos rfl).symm)
        · show RowAt _ (if r = r then wn w else rb r) a nn _ _
          rw [if_pos rfl]
          exact e4.sam (sT _ _ _ (by omega)) (sT _ _ _ (by omega)) (sT _ _ _ (by omega))
        · have := a2.symm.trans z2
          rw [ni_eq (by omega) (by omega)] at this
          subst this
          rw [if_pos rfl] at a3
          have := hlt t q2 ht hq a1
          omega
set_option maxRecDepth 100000 in
set_option maxHeartbeats 4000000 in
theorem X11_cpR_ok {g : Ge} {w : Wd} {k n : Nat} {K : Wd → Nat → Nat → Prop} {F T b : Nat} {ra : Nat → Nat} {sl rk rs kd : Nat → Int32} {vl : Nat → Int64} (hg : gB g ≤ T) (hF : wsh w F = (104, 8)) (hT : wsh w T = (104, 8)) (hFT : F ≠ T) (hW : WF w) (hR : RowsX b w (wP w F) ra sl rk rs kd vl) (hk : 24 ≤ k) (hn : 512 ≤ n) (h : ∀ w' rb, WF w' → wn w ≤ wn w' → (∀ c, c < wn w → c ≠ T → Same c w w') → wsh w' T = (104, 8) → RowsX (wn w) w' (wP w' T) rb sl rk rs kd vl → K w' (k - 24) (n - 512)) : cV g mX11_copyRows [.ref F, .ref T] w k n K := by
  refine cV_of 4 24 512 rfl (by decide +kernel) rfl (Nat.le_of_ble_eq_true rfl) hk hn ?_
  simp only [vX11_copyRows_0, vX11_copyRows_1, pI_c, pL_c, pF_c, pD_c, pA_n, pA_c, pA_rf, pR_c, pR_rf, pV_i, pV_a, pV_n, pV_rf, ldI_c, ldL_c, ldF_c, ldD_c, ldA_c, ldA_n, ldA_rf, dup2_l, dup2_ia, dup2_ir, popA_0, popA_s, getL_z, getL_s, setL_z, setL_1, setL_s, setL2_z, setL2_1, setL2_s, drop2_i, drop2_a, drop2_0, drop2_n, drop2_l, drop2_d, drop2_r, cwd_0, cwd_i, cwd_a, cwd_n, cwd_l, cwd_d, cwd_f, cwd_r, rf_s, rf_n, swi_0, swi_s, zR_b0, zR_b1, zN_b0, zN_b1, entV_i, entV_a, entV_n, entV_r, entV_f, entV_l, entV_d, entV_s, entV_0, List.length_cons, List.length_nil, List.nil_append, List.cons_append, true_and, and_true, Nat.reduceAdd, Nat.reduceLT, Nat.reduceEqDiff, Nat.reduceLeDiff, Nat.reduceSub, Nat.zero_add, Classical.not_not, ex_i, ex_l, ex_d, ex_r, ex_rs, ex_rn, ex_sm, Nat.sub_zero, eq_self, wn_sI, wn_sL, wn_sP, wsh_sI, wsh_sL, wsh_sP, wI_sL, wI_sP, wL_sI, wL_sP, wP_sI, wP_sL, wI_sI, wL_sL, Int32.reduceLT, Int32.reduceLE, true_implies, not_true_eq_false, false_implies, not_false_eq_true, i_10]
  rw [show (0 : Int32) = nI 0 from rfl]
  exact X11_cpR_loop hg hF hT hFT hW hR (fun w' rb h1 h2 h3 h4 h5 => ⟨rfl, h w' rb h1 h2 h3 h4 h5⟩) 8 0 w (fun _ => 0) none 24 512 (by omega) (by omega) (by omega) hW (Nat.le_refl _) (fun _ _ _ => Same.rf) hT ⟨fun s hs => absurd hs (Nat.not_lt_zero s), fun s t r q hs => absurd hs (Nat.not_lt_zero s)⟩
set_option maxRecDepth 100000 in
set_option maxHeartbeats 4000000 in
theorem X11_cpV_loop {g : Ge} {F T : Nat} {w0 : Wd} {K : Option Value → Wd → Prop} (hg : gB g ≤ T) (hF : wsh w0 F = (105, 6)) (hT : wsh w0 T = (105, 6)) (hFT : F ≠ T) (hV : ∀ v a, v < 6 → wP w0 F v = some a → (wsh w0 a).1 = 10) (hK : ∀ w', wn w' = wn w0 → wsh w' = wsh w0 → (∀ c, c ≠ T → Same c w0 w') → (∀ v, v < 6 → wP w' T v = wP w0 F v) → K none w') : ∀ (d i : Nat) (w : Wd) (k0 n0 : Nat), i + d = 6 → wn w = wn w0 → wsh w = wsh w0 → (∀ c, c ≠ T → Same c w0 w) → (∀ v, v < i → wP w T v = wP w0 F v) → R g mX11_copyVersions K 2 [some (.ref F), some (.ref T), some (.int (nI i))] [] w k0 n0 := by
  intro d
  induction d with
  | zero =>
    intro i w k0 n0 hi h1 h2 h3 h4
    obtain rfl : i = 6 := by omega
    have e8 : (6 : Int32) ≤ nI 6 := by decide
    simp (disch := omega) only [vX11_copyVersions_2, vX11_copyVersions_3, vX11_copyVersions_5, vX11_copyVersions_20, pI_c, pL_c, pF_c, pD_c, pA_n, pA_c, pA_rf, pR_c, pR_rf, pV_i, pV_a, pV_n, pV_rf, ldI_c, ldL_c, ldF_c, ldD_c, ldA_c, ldA_n, ldA_rf, dup2_l, dup2_ia, dup2_ir, popA_0, popA_s, getL_z, getL_s, setL_z, setL_1, setL_s, setL2_z, setL2_1, setL2_s, drop2_i, drop2_a, drop2_0, drop2_n, drop2_l, drop2_d, drop2_r, cwd_0, cwd_i, cwd_a, cwd_n, cwd_l, cwd_d, cwd_f, cwd_r, rf_s, rf_n, swi_0, swi_s, zR_b0, zR_b1, zN_b0, zN_b1, entV_i, entV_a, entV_n, entV_r, entV_f, entV_l, entV_d, entV_s, entV_0, List.length_cons, List.length_nil, List.nil_append, List.cons_append, true_and, and_true, Nat.reduceAdd, Nat.reduceLT, Nat.reduceEqDiff, Nat.reduceLeDiff, Nat.reduceSub, Nat.zero_add, Classical.not_not, ex_i, ex_l, ex_d, ex_r, ex_rs, ex_rn, ex_sm, Nat.sub_zero, eq_self, wn_sI, wn_sL, wn_sP, wsh_sI, wsh_sL, wsh_sP, wI_sL, wI_sP, wL_sI, wL_sP, wP_sI, wP_sL, wI_sI, wL_sL, Int32.reduceLT, Int32.reduceLE, true_implies, not_true_eq_false, false_implies, not_false_eq_true, i_10, e8]
    exact hK w h1 h2 h3 h4
  | succ d ih =>
    intro i w k0 n0 hi h1 h2 h3 h4
    have e8 : ¬ (6 : Int32) ≤ nI i := by rw [ni_lit 6, ni_le (by decide) (by omega)]; omega
    have hFw : wsh w F = (105, 6) := by rw [h2]; exact hF
    have hTw : wsh w T = (105, 6) := by rw [h2]; exact hT
    simp (disch := omega) only [vX11_copyVersions_2, vX11_copyVersions_3, vX11_copyVersions_5, pI_c, pL_c, pF_c, pD_c, pA_n, pA_c, pA_rf, pR_c, pR_rf, pV_i, pV_a, pV_n, pV_rf, ldI_c, ldL_c, ldF_c, ldD_c, ldA_c, ldA_n, ldA_rf, dup2_l, dup2_ia, dup2_ir, popA_0, popA_s, getL_z, getL_s, setL_z, setL_1, setL_s, setL2_z, setL2_1, setL2_s, drop2_i, drop2_a, drop2_0, drop2_n, drop2_l, drop2_d, drop2_r, cwd_0, cwd_i, cwd_a, cwd_n, cwd_l, cwd_d, cwd_f, cwd_r, rf_s, rf_n, swi_0, swi_s, zR_b0, zR_b1, zN_b0, zN_b1, entV_i, entV_a, entV_n, entV_r, entV_f, entV_l, entV_d, entV_s, entV_0, List.length_cons, List.length_nil, List.nil_append, List.cons_append, true_and, and_true, Nat.reduceAdd, Nat.reduceLT, Nat.reduceEqDiff, Nat.reduceLeDiff, Nat.reduceSub, Nat.zero_add, Classical.not_not, ex_i, ex_l, ex_d, ex_r, ex_rs, ex_rn, ex_sm, Nat.sub_zero, eq_self, wn_sI, wn_sL, wn_sP, wsh_sI, wsh_sL, wsh_sP, wI_sL, wI_sP, wL_sI, wL_sP, wP_sI, wP_sL, wI_sI, wL_sL, Int32.reduceLT, Int32.reduceLE, true_implies, not_true_eq_false, false_implies, not_false_eq_true, i_10, na_1, nb_1, nm_1, ns_1, nr_1, na_2, nb_2, nm_2, ns_2, nr_2, na_3, nb_3, nm_3, ns_3, nr_3, na_4, nb_4, nm_4, ns_4, nr_4, na_5, nb_5, nm_5, ns_5, nr_5, na_6, nb_6, nm_6, ns_6, nr_6, na_7, nb_7, nm_7, ns_7, nr_7, na_8, nb_8, nm_8, ns_8, nr_8, na_10, nb_10, nm_10, ns_10, nr_10, na_16, nb_16, nm_16, ns_16, nr_16, nl_m1, ni_add, ni_mul, ni_sub, ni_cl, ni_in, vp_0, vp_1, vp_2, vp_3, vp_4, vp_5, Int32.reduceToNatClampNeg, e8]
    simp (disch := omega) only [vX11_copyVersions_8, vX11_copyVersions_9, vX11_copyVersions_10, vX11_copyVersions_11, vX11_copyVersions_12, vX11_copyVersions_13, vX11_copyVersions_14, vX11_copyVersions_17, pI_c, pL_c, pF_c, pD_c, pA_n, pA_c, pA_rf, pR_c, pR_rf, pV_i, pV_a, pV_n, pV_rf, ldI_c, ldL_c, ldF_c, ldD_c, ldA_c, ldA_n, ldA_rf, dup2_l, dup2_ia, dup2_ir, popA_0, popA_s, getL_z, getL_s, setL_z, setL_1, setL_s, setL2_z, setL2_1, setL2_s, drop2_i, drop2_a, drop2_0, drop2_n, drop2_l, drop2_d, drop2_r, cwd_0, cwd_i, cwd_a, cwd_n, cwd_l, cwd_d, cwd_f, cwd_r, rf_s, rf_n, swi_0, swi_s, zR_b0, zR_b1, zN_b0, zN_b1, entV_i, entV_a, entV_n, entV_r, entV_f, entV_l, entV_d, entV_s, entV_0, List.length_cons, List.length_nil, List.nil_append, List.cons_append, true_and, and_true, Nat.reduceAdd, Nat.reduceLT, Nat.reduceEqDiff, Nat.reduceLeDiff, Nat.reduceSub, Nat.zero_add, Classical.not_not, ex_i, ex_l, ex_d, ex_r, ex_rs, ex_rn, ex_sm, Nat.sub_zero, eq_self, wn_sI, wn_sL, wn_sP, wsh_sI, wsh_sL, wsh_sP, wI_sL, wI_sP, wL_sI, wL_sP, wP_sI, wP_sL, wI_sI, wL_sL, Int32.reduceLT, Int32.reduceLE, true_implies, not_true_eq_false, false_implies, not_false_eq_true, i_10, na_1, nb_1, nm_1, ns_1, nr_1, na_2, nb_2, nm_2, ns_2, nr_2, na_3, nb_3, nm_3, ns_3, nr_3, na_4, nb_4, nm_4, ns_4, nr_4, na_5, nb_5, nm_5, ns_5, nr_5, na_6, nb_6, nm_6, ns_6, nr_6, na_7, nb_7, nm_7, ns_7, nr_7, na_8, nb_8, nm_8, ns_8, nr_8, na_10, nb_10, nm_10, ns_10, nr_10, na_16, nb_16, nm_16, ns_16, nr_16, nl_m1, ni_add, ni_mul, ni_sub, ni_cl, ni_in, vp_0, vp_1, vp_2, vp_3, vp_4, vp_5, Int32.reduceToNatClampNeg, hFw, hTw, hg]
    have hP : wP w F i = wP w0 F i := by rw [(h3 F hFT).2.2.2]
    refine ⟨fun a ha => ?_, ?_⟩
    · rw [hP] at ha
      rw [h2]
      exact hV i a (by omega) ha
    · refine ih (i + 1) _ k0 n0 (by omega) (by rw [wn_sP]; exact h1) (by rw [wsh_sP]; exact h2) (fun c hc => (h3 c hc).tr (sP_same hc)) fun v hv => ?_
      rw [wP_at]
      by_cases z : v = i
      · rw [if_pos z, z, hP]
      · rw [if_neg z]
        exact h4 v (by omega)
set_option maxRecDepth 100000 in
set_option maxHeartbeats 4000000 in
theorem X11_cpV_ok {g : Ge} {w : Wd} {k n : Nat} {K : Wd → Nat → Nat → Prop} {F T : Nat} (hg : gB g ≤ T) (hF : wsh w F = (105, 6)) (hT : wsh w T = (105, 6)) (hFT : F ≠ T) (hV : ∀ v a, v < 6 → wP w F v = some a → (wsh w a).1 = 10) (h : ∀ w', wn w' = wn w → wsh w' = wsh w → (∀ c, c ≠ T → Same c w w') → (∀ v, v < 6 → wP w' T v = wP w F v) → K w' k n) : cV g mX11_copyVersions [.ref F, .ref T] w k n K := by
  refine cV_of 3 0 0 rfl (by decide +kernel) rfl (Nat.le_of_ble_eq_true rfl) (Nat.zero_le _) (Nat.zero_le _) ?_
  simp only [vX11_copyVersions_0, vX11_copyVersions_1, pI_c, pL_c, pF_c, pD_c, pA_n, pA_c, pA_rf, pR_c, pR_rf, pV_i, pV_a, pV_n, pV_rf, ldI_c, ldL_c, ldF_c, ldD_c, ldA_c, ldA_n, ldA_rf, dup2_l, dup2_ia, dup2_ir, popA_0, popA_s, getL_z, getL_s, setL_z, setL_1, setL_s, setL2_z, setL2_1, setL2_s, drop2_i, drop2_a, drop2_0, drop2_n, drop2_l, drop2_d, drop2_r, cwd_0, cwd_i, cwd_a, cwd_n, cwd_l, cwd_d, cwd_f, cwd_r, rf_s, rf_n, swi_0, swi_s, zR_b0, zR_b1, zN_b0, zN_b1, entV_i, entV_a, entV_n, entV_r, entV_f, entV_l, entV_d, entV_s, entV_0, List.length_cons, List.length_nil, List.nil_append, List.cons_append, true_and, and_true, Nat.reduceAdd, Nat.reduceLT, Nat.reduceEqDiff, Nat.reduceLeDiff, Nat.reduceSub, Nat.zero_add, Classical.not_not, ex_i, ex_l, ex_d, ex_r, ex_rs, ex_rn, ex_sm, Nat.sub_zero, eq_self, wn_sI, wn_sL, wn_sP, wsh_sI, wsh_sL, wsh_sP, wI_sL, wI_sP, wL_sI, wL_sP, wP_sI, wP_sL, wI_sI, wL_sL, Int32.reduceLT, Int32.reduceLE, true_implies, not_true_eq_false, false_implies, not_false_eq_true, i_10]
  rw [show (0 : Int32) = nI 0 from rfl]
  exact X11_cpV_loop hg hF hT hFT hV (fun w' h1 h2 h3 h4 => ⟨rfl, h w' h1 h2 h3 h4⟩) 6 0 w 0 0 (by omega) rfl rfl (fun _ _ => Same.rf) fun v hv => absurd hv (Nat.not_lt_zero v)
