/-! the class: new rows -/
theorem wn_nw (w : Wd) (t n : Nat) : wn (nw w t n) = wn w + 1 := rfl
theorem wsh_nwA (w : Wd) (t n : Nat) : wsh (nw w t n) (wn w) = (t, n) := by show va_up (wsh w) (wn w) (t, n) (wn w) = _; simp [va_up]
theorem wsh_nwN {w : Wd} {t n a : Nat} (h : a ≠ wn w) : wsh (nw w t n) a = wsh w a := by show va_up (wsh w) (wn w) (t, n) a = _; simp [va_up, h]
theorem wI_nwA (w : Wd) (t n : Nat) : wI (nw w t n) (wn w) = fun _ => 0 := by show va_up (wI w) (wn w) _ (wn w) = _; simp [va_up]
theorem wI_nwN {w : Wd} {t n a : Nat} (h : a ≠ wn w) : wI (nw w t n) a = wI w a := by show va_up (wI w) (wn w) _ a = _; simp [va_up, h]
theorem wL_nwA (w : Wd) (t n : Nat) : wL (nw w t n) (wn w) = fun _ => 0 := by show va_up (wL w) (wn w) _ (wn w) = _; simp [va_up]
theorem wL_nwN {w : Wd} {t n a : Nat} (h : a ≠ wn w) : wL (nw w t n) a = wL w a := by show va_up (wL w) (wn w) _ a = _; simp [va_up, h]
theorem wP_nwA (w : Wd) (t n : Nat) : wP (nw w t n) (wn w) = fun _ => none := by show va_up (wP w) (wn w) _ (wn w) = _; simp [va_up]
theorem wP_nwN {w : Wd} {t n a : Nat} (h : a ≠ wn w) : wP (nw w t n) a = wP w a := by show va_up (wP w) (wn w) _ a = _; simp [va_up, h]
theorem nw_same {w : Wd} {t n a : Nat} (h : a ≠ wn w) : Same a w (nw w t n) := ⟨wsh_nwN h, wI_nwN h, wL_nwN h, wP_nwN h⟩
theorem nw_wf {w : Wd} (hw : WF w) (t n : Nat) : WF (nw w t n) := fun a ha => by
  rw [wn_nw] at ha
  rw [wsh_nwN (by omega)]
  exact hw a (by omega)
theorem sP_same {w : Wd} {b j a : Nat} {v : Option Nat} (h : a ≠ b) : Same a w (sP w b j v) := ⟨by rw [wsh_sP], by rw [wI_sP], by rw [wL_sP], by rw [wP_sP, up2_ne h]⟩
theorem sI_same {w : Wd} {b j a : Nat} {v : Int32} (h : a ≠ b) : Same a w (sI w b j v) := ⟨by rw [wsh_sI], by rw [wI_sI, up2_ne h], by rw [wL_sI], by rw [wP_sI]⟩
theorem sL_same {w : Wd} {b j a : Nat} {v : Int64} (h : a ≠ b) : Same a w (sL w b j v) := ⟨by rw [wsh_sL], by rw [wI_sL], by rw [wL_sL, up2_ne h], by rw [wP_sL]⟩
set_option maxRecDepth 100000 in
set_option maxHeartbeats 4000000 in
theorem X7_init_loop {g : Ge} {k0 n0 a kd nn : Nat} {mv : Int32} {K : Option Value → Wd → Prop} (hg : gB g ≤ a) (hn : nn ≤ 16) : ∀ (d i : Nat) (w : Wd), i + d = nn → RowS w a kd nn → (∀ j, j < i → wI w (a + 1) j = nI kd) → (∀ w', Fr (fun b _ => b = a + 1) w w' → (∀ j, j < nn → wI w' (a + 1) j = nI kd) → K none w') → R g mX7_init K 37 [some (.ref a), some (.int (nI kd)), some (.int mv), some (.int (nI nn)), some (.int (nI i))] [] w k0 n0 := by
  intro d
  induction d with
  | zero =>
    intro i w hi hS hall hK
    obtain rfl : i = nn := by omega
    simp (disch := omega) only [vX7_init_37, vX7_init_39, vX7_init_40, vX7_init_57, pI_c, pL_c, pF_c, pD_c, pA_n, pA_c, pA_rf, pR_c, pR_rf, pV_i, pV_a, pV_n, pV_rf, ldI_c, ldL_c, ldF_c, ldD_c, ldA_c, ldA_n, ldA_rf, dup2_l, dup2_ia, dup2_ir, popA_0, popA_s, getL_z, getL_s, setL_z, setL_1, setL_s, setL2_z, setL2_1, setL2_s, drop2_i, drop2_a, drop2_0, drop2_n, drop2_l, drop2_d, drop2_r, cwd_0, cwd_i, cwd_a, cwd_n, cwd_l, cwd_d, cwd_f, cwd_r, rf_s, rf_n, swi_0, swi_s, zR_b0, zR_b1, zN_b0, zN_b1, entV_i, entV_a, entV_n, entV_r, entV_f, entV_l, entV_d, entV_s, entV_0, List.length_cons, List.length_nil, List.nil_append, List.cons_append, true_and, and_true, Nat.reduceAdd, Nat.reduceLT, Nat.reduceEqDiff, Nat.reduceLeDiff, Nat.reduceSub, Nat.zero_add, Classical.not_not, ex_i, ex_l, ex_d, ex_r, ex_rs, ex_rn, ex_sm, Nat.sub_zero, eq_self, wn_sI, wn_sL, wn_sP, wsh_sI, wsh_sL, wsh_sP, wI_sL, wI_sP, wL_sI, wL_sP, wP_sI, wP_sL, wI_sI, wL_sL, Int32.reduceLT, Int32.reduceLE, true_implies, not_true_eq_false, false_implies, not_false_eq_true, i_10, ni_le, ni_lt, ni_eq, ni_le1, ni_le0, ni_eq0, ni_eq1, ni_eq2, ni_eq8, ni_eq9, Nat.le_refl]
    exact hK w Fr.rf hall
  | succ d ih =>
    intro i w hi hS hall hK
    have hlt : ¬ nn ≤ i := by omega
    obtain ⟨p1, p2, p3, p4, p5, p6⟩ := id hS
    have g1 : gB g ≤ a + 1 := by omega
    simp (disch := omega) only [vX7_init_37, vX7_init_39, vX7_init_40, pI_c, pL_c, pF_c, pD_c, pA_n, pA_c, pA_rf, pR_c, pR_rf, pV_i, pV_a, pV_n, pV_rf, ldI_c, ldL_c, ldF_c, ldD_c, ldA_c, ldA_n, ldA_rf, dup2_l, dup2_ia, dup2_ir, popA_0, popA_s, getL_z, getL_s, setL_z, setL_1, setL_s, setL2_z, setL2_1, setL2_s, drop2_i, drop2_a, drop2_0, drop2_n, drop2_l, drop2_d, drop2_r, cwd_0, cwd_i, cwd_a, cwd_n, cwd_l, cwd_d, cwd_f, cwd_r, rf_s, rf_n, swi_0, swi_s, zR_b0, zR_b1, zN_b0, zN_b1, entV_i, entV_a, entV_n, entV_r, entV_f, entV_l, entV_d, entV_s, entV_0, List.length_cons, List.length_nil, List.nil_append, List.cons_append, true_and, and_true, Nat.reduceAdd, Nat.reduceLT, Nat.reduceEqDiff, Nat.reduceLeDiff, Nat.reduceSub, Nat.zero_add, Classical.not_not, ex_i, ex_l, ex_d, ex_r, ex_rs, ex_rn, ex_sm, Nat.sub_zero, eq_self, wn_sI, wn_sL, wn_sP, wsh_sI, wsh_sL, wsh_sP, wI_sL, wI_sP, wL_sI, wL_sP, wP_sI, wP_sL, wI_sI, wL_sL, Int32.reduceLT, Int32.reduceLE, true_implies, not_true_eq_false, false_implies, not_false_eq_true, i_10, ni_le, ni_lt, ni_eq, ni_le1, ni_le0, ni_eq0, ni_eq1, ni_eq2, ni_eq8, ni_eq9, hlt]
    simp (disch := omega) only [vX7_init_43, vX7_init_44, vX7_init_47, vX7_init_49, vX7_init_50, vX7_init_51, vX7_init_54, pI_c, pL_c, pF_c, pD_c, pA_n, pA_c, pA_rf, pR_c, pR_rf, pV_i, pV_a, pV_n, pV_rf, ldI_c, ldL_c, ldF_c, ldD_c, ldA_c, ldA_n, ldA_rf, dup2_l, dup2_ia, dup2_ir, popA_0, popA_s, getL_z, getL_s, setL_z, setL_1, setL_s, setL2_z, setL2_1, setL2_s, drop2_i, drop2_a, drop2_0, drop2_n, drop2_l, drop2_d, drop2_r, cwd_0, cwd_i, cwd_a, cwd_n, cwd_l, cwd_d, cwd_f, cwd_r, rf_s, rf_n, swi_0, swi_s, zR_b0, zR_b1, zN_b0, zN_b1, entV_i, entV_a, entV_n, entV_r, entV_f, entV_l, entV_d, entV_s, entV_0, List.length_cons, List.length_nil, List.nil_append, List.cons_append, true_and, and_true, Nat.reduceAdd, Nat.reduceLT, Nat.reduceEqDiff, Nat.reduceLeDiff, Nat.reduceSub, Nat.zero_add, Classical.not_not, ex_i, ex_l, ex_d, ex_r, ex_rs, ex_rn, ex_sm, Nat.sub_zero, eq_self, wn_sI, wn_sL, wn_sP, wsh_sI, wsh_sL, wsh_sP, wI_sL, wI_sP, wL_sI, wL_sP, wP_sI, wP_sL, wI_sI, wL_sL, Int32.reduceLT, Int32.reduceLE, true_implies, not_true_eq_false, false_implies, not_false_eq_true, i_10, na_1, nb_1, nm_1, ns_1, nr_1, na_2, nb_2, nm_2, ns_2, nr_2, na_3, nb_3, nm_3, ns_3, nr_3, na_4, nb_4, nm_4, ns_4, nr_4, na_5, nb_5, nm_5, ns_5, nr_5, na_6, nb_6, nm_6, ns_6, nr_6, na_7, nb_7, nm_7, ns_7, nr_7, na_8, nb_8, nm_8, ns_8, nr_8, na_10, nb_10, nm_10, ns_10, nr_10, na_16, nb_16, nm_16, ns_16, nr_16, nl_m1, ni_add, ni_mul, ni_sub, ni_cl, ni_in, vp_0, vp_1, vp_2, vp_3, vp_4, vp_5, Int32.reduceToNatClampNeg, p1, p3, p5, g1]
    have hf : Fr (fun b _ => b = a + 1) w (sI w (a + 1) i (nI kd)) := Fr.rf.i _ rfl
    refine ih (i + 1) _ (by omega) ⟨p1, (hf.I _ _ (by omega)).trans p2, p3, p4, p5, p6⟩ (fun j hj => ?_) fun w' z1 z2 => hK w' (hf.tr z1) z2
    rw [wI_at]
    by_cases e : j = i
    · rw [if_pos e]
    · rw [if_neg e]; exact hall j (by omega)
set_option maxRecDepth 100000 in
set_option maxHeartbeats 4000000 in
theorem X7_init_ok {g : Ge} {w : Wd} {k n : Nat} {K : Wd → Nat → Nat → Prop} {a kd nn : Nat} (hg : gB g ≤ a) (hs : wsh w a = (7, 0)) (hwn : wn w = a + 1) (hn16 : nn ≤ 16) (hk : 2 ≤ k) (hn : 32 ≤ n) (h : ∀ w', wn w' = a + 3 → (∀ b, b < a → Same b w w') → RowAt w' a kd nn (fun _ => nI kd) (fun _ => 0) → (∀ b, a + 3 ≤ b → wsh w' b = wsh w b) → K w' (k - 2) (n - 32)) : cV g mX7_init [.ref a, .int (nI kd), .int (nI nn)] w k n K := by
  refine cV_of 5 2 32 rfl (by decide +kernel) rfl (Nat.le_of_ble_eq_true rfl) hk hn ?_
  have e16 : (16 : Int32) = nI 16 := rfl
  simp only [vX7_init_0, vX7_init_1, vX7_init_4, vX7_init_5, vX7_init_6, vX7_init_8, pI_c, pL_c, pF_c, pD_c, pA_n, pA_c, pA_rf, pR_c, pR_rf, pV_i, pV_a, pV_n, pV_rf, ldI_c, ldL_c, ldF_c, ldD_c, ldA_c, ldA_n, ldA_rf, dup2_l, dup2_ia, dup2_ir, popA_0, popA_s, getL_z, getL_s, setL_z, setL_1, setL_s, setL2_z, setL2_1, setL2_s, drop2_i, drop2_a, drop2_0, drop2_n, drop2_l, drop2_d, drop2_r, cwd_0, cwd_i, cwd_a, cwd_n, cwd_l, cwd_d, cwd_f, cwd_r, rf_s, rf_n, swi_0, swi_s, zR_b0, zR_b1, zN_b0, zN_b1, entV_i, entV_a, entV_n, entV_r, entV_f, entV_l, entV_d, entV_s, entV_0, List.length_cons, List.length_nil, List.nil_append, List.cons_append, true_and, and_true, Nat.reduceAdd, Nat.reduceLT, Nat.reduceEqDiff, Nat.reduceLeDiff, Nat.reduceSub, Nat.zero_add, Classical.not_not, ex_i, ex_l, ex_d, ex_r, ex_rs, ex_rn, ex_sm, Nat.sub_zero, eq_self, wn_sI, wn_sL, wn_sP, wsh_sI, wsh_sL, wsh_sP, wI_sL, wI_sP, wL_sI, wL_sP, wP_sI, wP_sL, wI_sI, wL_sL, Int32.reduceLT, Int32.reduceLE, true_implies, not_true_eq_false, false_implies, not_false_eq_true, i_10, e16]
  refine J9_min_n (by omega) (by decide) ?_
  rw [Nat.min_eq_left hn16]
  simp only [vX7_init_11, pI_c, pL_c, pF_c, pD_c, pA_n, pA_c, pA_rf, pR_c, pR_rf, pV_i, pV_a, pV_n, pV_rf, ldI_c, ldL_c, ldF_c, ldD_c, ldA_c, ldA_n, ldA_rf, dup2_l, dup2_ia, dup2_ir, popA_0, popA_s, getL_z, getL_s, setL_z, setL_1, setL_s, setL2_z, setL2_1, setL2_s, drop2_i, drop2_a, drop2_0, drop2_n, drop2_l, drop2_d, drop2_r, cwd_0, cwd_i, cwd_a, cwd_n, cwd_l, cwd_d, cwd_f, cwd_r, rf_s, rf_n, swi_0, swi_s, zR_b0, zR_b1, zN_b0, zN_b1, entV_i, entV_a, entV_n, entV_r, entV_f, entV_l, entV_d, entV_s, entV_0, List.length_cons, List.length_nil, List.nil_append, List.cons_append, true_and, and_true, Nat.reduceAdd, Nat.reduceLT, Nat.reduceEqDiff, Nat.reduceLeDiff, Nat.reduceSub, Nat.zero_add, Classical.not_not, ex_i, ex_l, ex_d, ex_r, ex_rs, ex_rn, ex_sm, Nat.sub_zero, eq_self, wn_sI, wn_sL, wn_sP, wsh_sI, wsh_sL, wsh_sP, wI_sL, wI_sP, wL_sI, wL_sP, wP_sI, wP_sL, wI_sI, wL_sL, Int32.reduceLT, Int32.reduceLE, true_implies, not_true_eq_false, false_implies, not_false_eq_true, i_10]
  refine J9_max_n (by decide) (by omega) ?_
  rw [Nat.max_eq_right (Nat.zero_le _)]
  have h65 : nn ≤ 65536 := by omega
  have h32 : nn ≤ 32 := by omega
  have h322 : nn ≤ 32 - nn := by omega
  simp (disch := omega) only [vX7_init_14, vX7_init_15, vX7_init_16, vX7_init_17, vX7_init_20, vX7_init_21, vX7_init_22, pI_c, pL_c, pF_c, pD_c, pA_n, pA_c, pA_rf, pR_c, pR_rf, pV_i, pV_a, pV_n, pV_rf, ldI_c, ldL_c, ldF_c, ldD_c, ldA_c, ldA_n, ldA_rf, dup2_l, dup2_ia, dup2_ir, popA_0, popA_s, getL_z, getL_s, setL_z, setL_1, setL_s, setL2_z, setL2_1, setL2_s, drop2_i, drop2_a, drop2_0, drop2_n, drop2_l, drop2_d, drop2_r, cwd_0, cwd_i, cwd_a, cwd_n, cwd_l, cwd_d, cwd_f, cwd_r, rf_s, rf_n, swi_0, swi_s, zR_b0, zR_b1, zN_b0, zN_b1, entV_i, entV_a, entV_n, entV_r, entV_f, entV_l, entV_d, entV_s, entV_0, List.length_cons, List.length_nil, List.nil_append, List.cons_append, true_and, and_true, Nat.reduceAdd, Nat.reduceLT, Nat.reduceEqDiff, Nat.reduceLeDiff, Nat.reduceSub, Nat.zero_add, Classical.not_not, ex_i, ex_l, ex_d, ex_r, ex_rs, ex_rn, ex_sm, Nat.sub_zero, eq_self, wn_sI, wn_sL, wn_sP, wsh_sI, wsh_sL, wsh_sP, wI_sL, wI_sP, wL_sI, wL_sP, wP_sI, wP_sL, wI_sI, wL_sL, Int32.reduceLT, Int32.reduceLE, true_implies, not_true_eq_false, false_implies, not_false_eq_true, i_10, na_1, nb_1, nm_1, ns_1, nr_1, na_2, nb_2, nm_2, ns_2, nr_2, na_3, nb_3, nm_3, ns_3, nr_3, na_4, nb_4, nm_4, ns_4, nr_4, na_5, nb_5, nm_5, ns_5, nr_5, na_6, nb_6, nm_6, ns_6, nr_6, na_7, nb_7, nm_7, ns_7, nr_7, na_8, nb_8, nm_8, ns_8, nr_8, na_10, nb_10, nm_10, ns_10, nr_10, na_16, nb_16, nm_16, ns_16, nr_16, nl_m1, ni_add, ni_mul, ni_sub, ni_cl, ni_in, vp_0, vp_1, vp_2, vp_3, vp_4, vp_5, Int32.reduceToNatClampNeg, ni_0_, hs, hg, h65, h32, hwn]
  generalize hw1 : sI w a 0 (nI kd) = w1
  have c1 : wn w1 = a + 1 := by rw [← hw1]; exact hwn
  have c2 : wsh w1 = wsh w := by rw [← hw1, wsh_sI]
  have c3 : wI w1 a 0 = nI kd := by rw [← hw1, wI_at, if_pos rfl]
  have c4 : ∀ b, b < a → Same b w w1 := fun b hb => by rw [← hw1]; exact sI_same (by omega)
  clear hw1
  generalize hw2 : nw w1 100 nn = w2
  have d1 : wn w2 = a + 2 := by rw [← hw2, wn_nw, c1]
  have d2 : wsh w2 a = (7, 0) := by rw [← hw2, wsh_nwN (by omega), c2]; exact hs
  have d3 : wI w2 a 0 = nI kd := by rw [← hw2, wI_nwN (by omega)]; exact c3
  have d4 : ∀ b, b < a → Same b w w2 := fun b hb => by rw [← hw2]; exact (c4 b hb).tr (nw_same (by omega))
  have d5 : wsh w2 (a + 1) = (100, nn) := by rw [← hw2, ← c1, wsh_nwA]
  have d7 : ∀ b, a + 2 ≤ b → wsh w2 b = wsh w b := fun b hb => by rw [← hw2, wsh_nwN (by omega), c2]
  clear hw2 c4
  simp (disch := omega) only [vX7_init_24, vX7_init_27, vX7_init_28, vX7_init_29, pI_c, pL_c, pF_c, pD_c, pA_n, pA_c, pA_rf, pR_c, pR_rf, pV_i, pV_a, pV_n, pV_rf, ldI_c, ldL_c, ldF_c, ldD_c, ldA_c, ldA_n, ldA_rf, dup2_l, dup2_ia, dup2_ir, popA_0, popA_s, getL_z, getL_s, setL_z, setL_1, setL_s, setL2_z, setL2_1, setL2_s, drop2_i, drop2_a, drop2_0, drop2_n, drop2_l, drop2_d, drop2_r, cwd_0, cwd_i, cwd_a, cwd_n, cwd_l, cwd_d, cwd_f, cwd_r, rf_s, rf_n, swi_0, swi_s, zR_b0, zR_b1, zN_b0, zN_b1, entV_i, entV_a, entV_n, entV_r, entV_f, entV_l, entV_d, entV_s, entV_0, List.length_cons, List.length_nil, List.nil_append, List.cons_append, true_and, and_true, Nat.reduceAdd, Nat.reduceLT, Nat.reduceEqDiff, Nat.reduceLeDiff, Nat.reduceSub, Nat.zero_add, Classical.not_not, ex_i, ex_l, ex_d, ex_r, ex_rs, ex_rn, ex_sm, Nat.sub_zero, eq_self, wn_sI, wn_sL, wn_sP, wsh_sI, wsh_sL, wsh_sP, wI_sL, wI_sP, wL_sI, wL_sP, wP_sI, wP_sL, wI_sI, wL_sL, Int32.reduceLT, Int32.reduceLE, true_implies, not_true_eq_false, false_implies, not_false_eq_true, i_10, na_1, nb_1, nm_1, ns_1, nr_1, na_2, nb_2, nm_2, ns_2, nr_2, na_3, nb_3, nm_3, ns_3, nr_3, na_4, nb_4, nm_4, ns_4, nr_4, na_5, nb_5, nm_5, ns_5, nr_5, na_6, nb_6, nm_6, ns_6, nr_6, na_7, nb_7, nm_7, ns_7, nr_7, na_8, nb_8, nm_8, ns_8, nr_8, na_10, nb_10, nm_10, ns_10, nr_10, na_16, nb_16, nm_16, ns_16, nr_16, nl_m1, ni_add, ni_mul, ni_sub, ni_cl, ni_in, vp_0, vp_1, vp_2, vp_3, vp_4, vp_5, Int32.reduceToNatClampNeg, ni_0_, d1, d2, hg, h65, h322]
  generalize hw3 : nw (sP w2 a 1 (some (a + 1))) 101 nn = w3
  have e1 : wn w3 = a + 3 := by rw [← hw3, wn_nw, wn_sP, d1]
  have n3 : ∀ b, b ≠ a + 2 → b ≠ wn (sP w2 a 1 (some (a + 1))) := fun b hb => by rw [wn_sP, d1]; exact hb
  have n4 : wn (sP w2 a 1 (some (a + 1))) = a + 2 := by rw [wn_sP, d1]
  have e2 : wsh w3 a = (7, 0) := by rw [← hw3, wsh_nwN (n3 _ (by omega)), wsh_sP]; exact d2
  have e3 : wI w3 a 0 = nI kd := by rw [← hw3, wI_nwN (n3 _ (by omega)), wI_sP]; exact d3
  have e4 : ∀ b, b < a → Same b w w3 := fun b hb => by rw [← hw3]; exact ((d4 b hb).tr (sP_same (by omega))).tr (nw_same (n3 _ (by omega)))
  have e5 : wsh w3 (a + 1) = (100, nn) := by rw [← hw3, wsh_nwN (n3 _ (by omega)), wsh_sP]; exact d5
  have e6 : wsh w3 (a + 2) = (101, nn) := by
    have := wsh_nwA (sP w2 a 1 (some (a + 1))) 101 nn
    rw [n4, hw3] at this
    exact this
  have e7 : wP w3 a 1 = some (a + 1) := by rw [← hw3, wP_nwN (n3 _ (by omega)), wP_at, if_pos rfl]
  have e8 : ∀ b, a + 3 ≤ b → wsh w3 b = wsh w b := fun b hb => by rw [← hw3, wsh_nwN (n3 _ (by omega)), wsh_sP]; exact d7 b (by omega)
  have e9 : ∀ j, wL w3 (a + 2) j = 0 := fun j => by
    have := wL_nwA (sP w2 a 1 (some (a + 1))) 101 nn
    rw [n4, hw3] at this
    rw [this]
  clear hw3
  simp (disch := omega) only [vX7_init_31, vX7_init_34, vX7_init_35, pI_c, pL_c, pF_c, pD_c, pA_n, pA_c, pA_rf, pR_c, pR_rf, pV_i, pV_a, pV_n, pV_rf, ldI_c, ldL_c, ldF_c, ldD_c, ldA_c, ldA_n, ldA_rf, dup2_l, dup2_ia, dup2_ir, popA_0, popA_s, getL_z, getL_s, setL_z, setL_1, setL_s, setL2_z, setL2_1, setL2_s, drop2_i, drop2_a, drop2_0, drop2_n, drop2_l, drop2_d, drop2_r, cwd_0, cwd_i, cwd_a, cwd_n, cwd_l, cwd_d, cwd_f, cwd_r, rf_s, rf_n, swi_0, swi_s, zR_b0, zR_b1, zN_b0, zN_b1, entV_i, entV_a, entV_n, entV_r, entV_f, entV_l, entV_d, entV_s, entV_0, List.length_cons, List.length_nil, List.nil_append, List.cons_append, true_and, and_true, Nat.reduceAdd, Nat.reduceLT, Nat.reduceEqDiff, Nat.reduceLeDiff, Nat.reduceSub, Nat.zero_add, Classical.not_not, ex_i, ex_l, ex_d, ex_r, ex_rs, ex_rn, ex_sm, Nat.sub_zero, eq_self, wn_sI, wn_sL, wn_sP, wsh_sI, wsh_sL, wsh_sP, wI_sL, wI_sP, wL_sI, wL_sP, wP_sI, wP_sL, wI_sI, wL_sL, Int32.reduceLT, Int32.reduceLE, true_implies, not_true_eq_false, false_implies, not_false_eq_true, i_10, na_1, nb_1, nm_1, ns_1, nr_1, na_2, nb_2, nm_2, ns_2, nr_2, na_3, nb_3, nm_3, ns_3, nr_3, na_4, nb_4, nm_4, ns_4, nr_4, na_5, nb_5, nm_5, ns_5, nr_5, na_6, nb_6, nm_6, ns_6, nr_6, na_7, nb_7, nm_7, ns_7, nr_7, na_8, nb_8, nm_8, ns_8, nr_8, na_10, nb_10, nm_10, ns_10, nr_10, na_16, nb_16, nm_16, ns_16, nr_16, nl_m1, ni_add, ni_mul, ni_sub, ni_cl, ni_in, vp_0, vp_1, vp_2, vp_3, vp_4, vp_5, Int32.reduceToNatClampNeg, e2, hg]
  have hf4 : ∀ b, b ≠ a → Same b w3 (sP w3 a 2 (some (a + 2))) := fun b hb => sP_same hb
  generalize hw4 : sP w3 a 2 (some (a + 2)) = w4 at hf4
  have f1 : wn w4 = a + 3 := by rw [← hw4, wn_sP]; exact e1
  have f2 : wsh w4 = wsh w3 := by rw [← hw4, wsh_sP]
  have f3 : wI w4 a 0 = nI kd := by rw [← hw4, wI_sP]; exact e3
  have f4 : wP w4 a 1 = some (a + 1) := by rw [← hw4, wP_at, if_neg (by decide)]; exact e7
  have f5 : wP w4 a 2 = some (a + 2) := by rw [← hw4, wP_at, if_pos rfl]
  have f6 : ∀ j, wL w4 (a + 2) j = 0 := fun j => by rw [← hw4, wL_sP]; exact e9 j
  have hS4 : RowS w4 a kd nn := ⟨by rw [f2]; exact e2, f3, f4, f5, by rw [f2]; exact e5, by rw [f2]; exact e6⟩
  refine X7_init_loop hg hn16 nn 0 w4 (by omega) hS4 (fun j hj => absurd hj (Nat.not_lt_zero j)) fun w' z1 z2 => ⟨rfl, ?_⟩
  refine h w' (z1.n.trans f1) (fun b hb => ((e4 b hb).tr (hf4 b (by omega))).tr (z1.same (by omega))) ⟨by rw [z1.sh]; exact hS4.1, (z1.I _ _ (by omega)).trans hS4.2.1, by rw [z1.P]; exact f4, by rw [z1.P]; exact f5, by rw [z1.sh]; exact hS4.2.2.2.2.1, by rw [z1.sh]; exact hS4.2.2.2.2.2, fun i hi => ⟨z2 i hi, (z1.L _ _ (by omega)).trans (f6 i)⟩⟩ fun b hb => by rw [z1.sh, f2]; exact e8 b hb
