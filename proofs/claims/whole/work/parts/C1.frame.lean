/-! the class: frame -/
def popK (p : Nat) : Nat → Nat
  | 0 => 0
  | k + 1 => popK p k + p / 2 ^ k % 2
theorem popK_8 (p : Nat) : popK p 8 = pop8 p := by
  simp only [popK, pop8, Nat.pow_zero, Nat.div_one, Nat.zero_add, Nat.reducePow]
theorem popK_le (p : Nat) : ∀ k, popK p k ≤ k
  | 0 => Nat.le_refl 0
  | k + 1 => by
    have h1 := popK_le p k
    have h2 : p / 2 ^ k % 2 < 2 := Nat.mod_lt _ (by decide)
    unfold popK
    omega
set_option maxRecDepth 100000 in
set_option maxHeartbeats 4000000 in
theorem X2_fp_loop {g : Ge} {x k0 n0 p : Nat} {w : Wd} {K : Option Value → Wd → Prop} (hx : XS g x w) (hP : PrX x w p 8) (hK : K (some (.int (nI (popK p 8)))) w) : ∀ (d j : Nat), j + d = 8 → R g mX2_fieldsPresent K 4 [some (.ref (x + 12)), some (.int (nI (popK p j))), some (.int (nI j))] [] w k0 n0 := by
  intro d
  induction d with
  | zero =>
    intro j hj
    obtain rfl : j = 8 := by omega
    have e8 : (8 : Int32) ≤ nI 8 := by decide
    simp (disch := omega) only [vX2_fieldsPresent_4, vX2_fieldsPresent_5, vX2_fieldsPresent_7, vX2_fieldsPresent_33, vX2_fieldsPresent_34, pI_c, pL_c, pF_c, pD_c, pA_n, pA_c, pA_rf, pR_c, pR_rf, pV_i, pV_a, pV_n, pV_rf, ldI_c, ldL_c, ldF_c, ldD_c, ldA_c, ldA_n, ldA_rf, dup2_l, dup2_ia, dup2_ir, popA_0, popA_s, getL_z, getL_s, setL_z, setL_1, setL_s, setL2_z, setL2_1, setL2_s, drop2_i, drop2_a, drop2_0, drop2_n, drop2_l, drop2_d, drop2_r, cwd_0, cwd_i, cwd_a, cwd_n, cwd_l, cwd_d, cwd_f, cwd_r, rf_s, rf_n, swi_0, swi_s, zR_b0, zR_b1, zN_b0, zN_b1, entV_i, entV_a, entV_n, entV_r, entV_f, entV_l, entV_d, entV_s, entV_0, List.length_cons, List.length_nil, List.nil_append, List.cons_append, true_and, and_true, Nat.reduceAdd, Nat.reduceLT, Nat.reduceEqDiff, Nat.reduceLeDiff, Nat.reduceSub, Nat.zero_add, Classical.not_not, ex_i, ex_l, ex_d, ex_r, ex_rs, ex_rn, ex_sm, Nat.sub_zero, eq_self, wn_sI, wn_sL, wn_sP, wsh_sI, wsh_sL, wsh_sP, wI_sL, wI_sP, wL_sI, wL_sP, wP_sI, wP_sL, wI_sI, wL_sL, Int32.reduceLT, Int32.reduceLE, true_implies, not_true_eq_false, false_implies, not_false_eq_true, i_10, e8]
    exact hK
  | succ d ih =>
    intro j hj
    have e8 : ¬ (8 : Int32) ≤ nI j := by rw [ni_lit 8, ni_le (by decide) (by omega)]; omega
    have h2 : p / 2 ^ j % 2 < 2 := Nat.mod_lt _ (by decide)
    have hl := popK_le p j
    have h1 := ih (j + 1) (by omega)
    rw [popK] at h1
    simp (disch := omega) only [vX2_fieldsPresent_4, vX2_fieldsPresent_5, vX2_fieldsPresent_7, pI_c, pL_c, pF_c, pD_c, pA_n, pA_c, pA_rf, pR_c, pR_rf, pV_i, pV_a, pV_n, pV_rf, ldI_c, ldL_c, ldF_c, ldD_c, ldA_c, ldA_n, ldA_rf, dup2_l, dup2_ia, dup2_ir, popA_0, popA_s, getL_z, getL_s, setL_z, setL_1, setL_s, setL2_z, setL2_1, setL2_s, drop2_i, drop2_a, drop2_0, drop2_n, drop2_l, drop2_d, drop2_r, cwd_0, cwd_i, cwd_a, cwd_n, cwd_l, cwd_d, cwd_f, cwd_r, rf_s, rf_n, swi_0, swi_s, zR_b0, zR_b1, zN_b0, zN_b1, entV_i, entV_a, entV_n, entV_r, entV_f, entV_l, entV_d, entV_s, entV_0, List.length_cons, List.length_nil, List.nil_append, List.cons_append, true_and, and_true, Nat.reduceAdd, Nat.reduceLT, Nat.reduceEqDiff, Nat.reduceLeDiff, Nat.reduceSub, Nat.zero_add, Classical.not_not, ex_i, ex_l, ex_d, ex_r, ex_rs, ex_rn, ex_sm, Nat.sub_zero, eq_self, wn_sI, wn_sL, wn_sP, wsh_sI, wsh_sL, wsh_sP, wI_sL, wI_sP, wL_sI, wL_sP, wP_sI, wP_sL, wI_sI, wL_sL, Int32.reduceLT, Int32.reduceLE, true_implies, not_true_eq_false, false_implies, not_false_eq_true, i_10, e8]
    rcases (show p / 2 ^ j % 2 = 0 ∨ p / 2 ^ j % 2 = 1 by omega) with q | q
    · rw [q, Nat.add_zero] at h1
      have hb : wI w (x + 13) j = nI 0 := by rw [hP j (by omega), q]
      simp (disch := omega) only [vX2_fieldsPresent_10, vX2_fieldsPresent_11, vX2_fieldsPresent_12, vX2_fieldsPresent_15, vX2_fieldsPresent_16, vX2_fieldsPresent_17, vX2_fieldsPresent_24, vX2_fieldsPresent_25, vX2_fieldsPresent_26, vX2_fieldsPresent_27, vX2_fieldsPresent_30, xs_b hx, xs_0 hx, xs_obj hx, xs_seen hx, xp_x_6 hx, xs_present hx, xp_seen_5 hx, pI_c, pL_c, pF_c, pD_c, pA_n, pA_c, pA_rf, pR_c, pR_rf, pV_i, pV_a, pV_n, pV_rf, ldI_c, ldL_c, ldF_c, ldD_c, ldA_c, ldA_n, ldA_rf, dup2_l, dup2_ia, dup2_ir, popA_0, popA_s, getL_z, getL_s, setL_z, setL_1, setL_s, setL2_z, setL2_1, setL2_s, drop2_i, drop2_a, drop2_0, drop2_n, drop2_l, drop2_d, drop2_r, cwd_0, cwd_i, cwd_a, cwd_n, cwd_l, cwd_d, cwd_f, cwd_r, rf_s, rf_n, swi_0, swi_s, zR_b0, zR_b1, zN_b0, zN_b1, entV_i, entV_a, entV_n, entV_r, entV_f, entV_l, entV_d, entV_s, entV_0, List.length_cons, List.length_nil, List.nil_append, List.cons_append, true_and, and_true, Nat.reduceAdd, Nat.reduceLT, Nat.reduceEqDiff, Nat.reduceLeDiff, Nat.reduceSub, Nat.zero_add, Classical.not_not, ex_i, ex_l, ex_d, ex_r, ex_rs, ex_rn, ex_sm, Nat.sub_zero, eq_self, wn_sI, wn_sL, wn_sP, wsh_sI, wsh_sL, wsh_sP, wI_sL, wI_sP, wL_sI, wL_sP, wP_sI, wP_sL, wI_sI, wL_sL, Int32.reduceLT, Int32.reduceLE, true_implies, not_true_eq_false, false_implies, not_false_eq_true, i_10, na_1, nb_1, nm_1, ns_1, nr_1, na_2, nb_2, nm_2, ns_2, nr_2, na_3, nb_3, nm_3, ns_3, nr_3, na_4, nb_4, nm_4, ns_4, nr_4, na_5, nb_5, nm_5, ns_5, nr_5, na_6, nb_6, nm_6, ns_6, nr_6, na_7, nb_7, nm_7, ns_7, nr_7, na_8, nb_8, nm_8, ns_8, nr_8, na_10, nb_10, nm_10, ns_10, nr_10, na_16, nb_16, nm_16, ns_16, nr_16, nl_m1, ni_add, ni_mul, ni_sub, ni_cl, ni_in, vp_0, vp_1, vp_2, vp_3, vp_4, vp_5, Int32.reduceToNatClampNeg, hb, ni_eq0, true_or, or_false, false_and, Int32.add_zero]
      exact h1
    · rw [q] at h1
      have hb : wI w (x + 13) j = nI 1 := by rw [hP j (by omega), q]
      have i1 : ¬ nI 1 = 0 := by decide
      simp (disch := omega) only [vX2_fieldsPresent_10, vX2_fieldsPresent_11, vX2_fieldsPresent_12, vX2_fieldsPresent_15, vX2_fieldsPresent_16, vX2_fieldsPresent_17, vX2_fieldsPresent_20, vX2_fieldsPresent_21, vX2_fieldsPresent_25, vX2_fieldsPresent_26, vX2_fieldsPresent_27, vX2_fieldsPresent_30, xs_b hx, xs_0 hx, xs_obj hx, xs_seen hx, xp_x_6 hx, xs_present hx, xp_seen_5 hx, pI_c, pL_c, pF_c, pD_c, pA_n, pA_c, pA_rf, pR_c, pR_rf, pV_i, pV_a, pV_n, pV_rf, ldI_c, ldL_c, ldF_c, ldD_c, ldA_c, ldA_n, ldA_rf, dup2_l, dup2_ia, dup2_ir, popA_0, popA_s, getL_z, getL_s, setL_z, setL_1, setL_s, setL2_z, setL2_1, setL2_s, drop2_i, drop2_a, drop2_0, drop2_n, drop2_l, drop2_d, drop2_r, cwd_0, cwd_i, cwd_a, cwd_n, cwd_l, cwd_d, cwd_f, cwd_r, rf_s, rf_n, swi_0, swi_s, zR_b0, zR_b1, zN_b0, zN_b1, entV_i, entV_a, entV_n, entV_r, entV_f, entV_l, entV_d, entV_s, entV_0, List.length_cons, List.length_nil, List.nil_append, List.cons_append, true_and, and_true, Nat.reduceAdd, Nat.reduceLT, Nat.reduceEqDiff, Nat.reduceLeDiff, Nat.reduceSub, Nat.zero_add, Classical.not_not, ex_i, ex_l, ex_d, ex_r, ex_rs, ex_rn, ex_sm, Nat.sub_zero, eq_self, wn_sI, wn_sL, wn_sP, wsh_sI, wsh_sL, wsh_sP, wI_sL, wI_sP, wL_sI, wL_sP, wP_sI, wP_sL, wI_sI, wL_sL, Int32.reduceLT, Int32.reduceLE, true_implies, not_true_eq_false, false_implies, not_false_eq_true, i_10, na_1, nb_1, nm_1, ns_1, nr_1, na_2, nb_2, nm_2, ns_2, nr_2, na_3, nb_3, nm_3, ns_3, nr_3, na_4, nb_4, nm_4, ns_4, nr_4, na_5, nb_5, nm_5, ns_5, nr_5, na_6, nb_6, nm_6, ns_6, nr_6, na_7, nb_7, nm_7, ns_7, nr_7, na_8, nb_8, nm_8, ns_8, nr_8, na_10, nb_10, nm_10, ns_10, nr_10, na_16, nb_16, nm_16, ns_16, nr_16, nl_m1, ni_add, ni_mul, ni_sub, ni_cl, ni_in, vp_0, vp_1, vp_2, vp_3, vp_4, vp_5, Int32.reduceToNatClampNeg, hb, i1, true_or, or_false, false_and]
      exact h1
set_option maxRecDepth 100000 in
set_option maxHeartbeats 4000000 in
theorem X2_fp_ok {g : Ge} {w : Wd} {k n : Nat} {K : Int32 → Wd → Nat → Nat → Prop} {x p : Nat} (hx : XS g x w) (hP : PrX x w p 8) (h : K (nI (pop8 p)) w k n) : cI g mX2_fieldsPresent [.ref (x + 12)] w k n K := by
  refine cI_of 3 0 0 rfl (by decide +kernel) rfl (Nat.le_of_ble_eq_true rfl) (Nat.zero_le _) (Nat.zero_le _) ?_
  simp (disch := omega) only [vX2_fieldsPresent_0, vX2_fieldsPresent_1, vX2_fieldsPresent_2, vX2_fieldsPresent_3, pI_c, pL_c, pF_c, pD_c, pA_n, pA_c, pA_rf, pR_c, pR_rf, pV_i, pV_a, pV_n, pV_rf, ldI_c, ldL_c, ldF_c, ldD_c, ldA_c, ldA_n, ldA_rf, dup2_l, dup2_ia, dup2_ir, popA_0, popA_s, getL_z, getL_s, setL_z, setL_1, setL_s, setL2_z, setL2_1, setL2_s, drop2_i, drop2_a, drop2_0, drop2_n, drop2_l, drop2_d, drop2_r, cwd_0, cwd_i, cwd_a, cwd_n, cwd_l, cwd_d, cwd_f, cwd_r, rf_s, rf_n, swi_0, swi_s, zR_b0, zR_b1, zN_b0, zN_b1, entV_i, entV_a, entV_n, entV_r, entV_f, entV_l, entV_d, entV_s, entV_0, List.length_cons, List.length_nil, List.nil_append, List.cons_append, true_and, and_true, Nat.reduceAdd, Nat.reduceLT, Nat.reduceEqDiff, Nat.reduceLeDiff, Nat.reduceSub, Nat.zero_add, Classical.not_not, ex_i, ex_l, ex_d, ex_r, ex_rs, ex_rn, ex_sm, Nat.sub_zero, eq_self, wn_sI, wn_sL, wn_sP, wsh_sI, wsh_sL, wsh_sP, wI_sL, wI_sP, wL_sI, wL_sP, wP_sI, wP_sL, wI_sI, wL_sL, Int32.reduceLT, Int32.reduceLE, true_implies, not_true_eq_false, false_implies, not_false_eq_true, i_10]
  refine X2_fp_loop hx hP ⟨_, rfl, ?_⟩ 8 0 (by omega)
  rw [popK_8]
  exact h
set_option maxRecDepth 100000 in
set_option maxHeartbeats 4000000 in
theorem X2_cp_loop {g : Ge} {x k0 n0 p : Nat} {w : Wd} {L : List (Option (List (Int32 × Int64)))} {K : Option Value → Wd → Prop} (hx : XS g x w) (hP : PrX x w p 8) (hG : GotX x w L) (hp : PresL p L) (hl : L.length ≤ 8) (hhi : p / 2 ^ L.length = 0) (hK : K (some (.int (nI (lenL L)))) w) : ∀ (d j a : Nat), j + d = 8 → a = lenL (L.take j) → R g mX2_cellsPresent K 4 [some (.ref (x + 12)), some (.int (nI a)), some (.int (nI j))] [] w k0 n0 := by
  intro d
  induction d with
  | zero =>
    intro j a hj ha
    obtain rfl : j = 8 := by omega
    rw [List.take_of_length_le (by omega)] at ha
    subst ha
    have e8 : (8 : Int32) ≤ nI 8 := by decide
    simp (disch := omega) only [vX2_cellsPresent_4, vX2_cellsPresent_5, vX2_cellsPresent_7, vX2_cellsPresent_38, vX2_cellsPresent_39, pI_c, pL_c, pF_c, pD_c, pA_n, pA_c, pA_rf, pR_c, pR_rf, pV_i, pV_a, pV_n, pV_rf, ldI_c, ldL_c, ldF_c, ldD_c, ldA_c, ldA_n, ldA_rf, dup2_l, dup2_ia, dup2_ir, popA_0, popA_s, getL_z, getL_s, setL_z, setL_1, setL_s, setL2_z, setL2_1, setL2_s, drop2_i, drop2_a, drop2_0, drop2_n, drop2_l, drop2_d, drop2_r, cwd_0, cwd_i, cwd_a, cwd_n, cwd_l, cwd_d, cwd_f, cwd_r, rf_s, rf_n, swi_0, swi_s, zR_b0, zR_b1, zN_b0, zN_b1, entV_i, entV_a, entV_n, entV_r, entV_f, entV_l, entV_d, entV_s, entV_0, List.length_cons, List.length_nil, List.nil_append, List.cons_append, true_and, and_true, Nat.reduceAdd, Nat.reduceLT, Nat.reduceEqDiff, Nat.reduceLeDiff, Nat.reduceSub, Nat.zero_add, Classical.not_not, ex_i, ex_l, ex_d, ex_r, ex_rs, ex_rn, ex_sm, Nat.sub_zero, eq_self, wn_sI, wn_sL, wn_sP, wsh_sI, wsh_sL, wsh_sP, wI_sL, wI_sP, wL_sI, wL_sP, wP_sI, wP_sL, wI_sI, wL_sL, Int32.reduceLT, Int32.reduceLE, true_implies, not_true_eq_false, false_implies, not_false_eq_true, i_10, e8]
    exact hK
  | succ d ih =>
    intro j a hj ha
    have e8 : ¬ (8 : Int32) ≤ nI j := by rw [ni_lit 8, ni_le (by decide) (by omega)]; omega
    have hb := hP j (by omega)
    have ha16 : a ≤ 16 * j := by
      rw [ha]
      refine Nat.le_trans (lenL_le _ fun k C hk => (hG k C ?_).1) (by rw [List.length_take]; omega)
      rw [List.getElem?_take] at hk
      split at hk
      · exact hk
      · cases hk
    have zero : p / 2 ^ j % 2 = 0 → lenL (L.take (j + 1)) = a → R g mX2_cellsPresent K 4 [some (.ref (x + 12)), some (.int (nI a)), some (.int (nI j))] [] w k0 n0 := by
      intro q e
      have h1 := ih (j + 1) a (by omega) e.symm
      rw [q] at hb
      simp (disch := omega) only [vX2_cellsPresent_4, vX2_cellsPresent_5, vX2_cellsPresent_7, pI_c, pL_c, pF_c, pD_c, pA_n, pA_c, pA_rf, pR_c, pR_rf, pV_i, pV_a, pV_n, pV_rf, ldI_c, ldL_c, ldF_c, ldD_c, ldA_c, ldA_n, ldA_rf, dup2_l, dup2_ia, dup2_ir, popA_0, popA_s, getL_z, getL_s, setL_z, setL_1, setL_s, setL2_z, setL2_1, setL2_s, drop2_i, drop2_a, drop2_0, drop2_n, drop2_l, drop2_d, drop2_r, cwd_0, cwd_i, cwd_a, cwd_n, cwd_l, cwd_d, cwd_f, cwd_r, rf_s, rf_n, swi_0, swi_s, zR_b0, zR_b1, zN_b0, zN_b1, entV_i, entV_a, entV_n, entV_r, entV_f, entV_l, entV_d, entV_s, entV_0, List.length_cons, List.length_nil, List.nil_append, List.cons_append, true_and, and_true, Nat.reduceAdd, Nat.reduceLT, Nat.reduceEqDiff, Nat.reduceLeDiff, Nat.reduceSub, Nat.zero_add, Classical.not_not, ex_i, ex_l, ex_d, ex_r, ex_rs, ex_rn, ex_sm, Nat.sub_zero, eq_self, wn_sI, wn_sL, wn_sP, wsh_sI, wsh_sL, wsh_sP, wI_sL, wI_sP, wL_sI, wL_sP, wP_sI, wP_sL, wI_sI, wL_sL, Int32.reduceLT, Int32.reduceLE, true_implies, not_true_eq_false, false_implies, not_false_eq_true, i_10, e8]
      simp (disch := omega) only [vX2_cellsPresent_10, vX2_cellsPresent_11, vX2_cellsPresent_12, vX2_cellsPresent_15, vX2_cellsPresent_16, vX2_cellsPresent_17, vX2_cellsPresent_29, vX2_cellsPresent_30, vX2_cellsPresent_31, vX2_cellsPresent_32, vX2_cellsPresent_35, xs_b hx, xs_0 hx, xs_obj hx, xs_seen hx, xp_x_6 hx, xs_present hx, xp_seen_5 hx, pI_c, pL_c, pF_c, pD_c, pA_n, pA_c, pA_rf, pR_c, pR_rf, pV_i, pV_a, pV_n, pV_rf, ldI_c, ldL_c, ldF_c, ldD_c, ldA_c, ldA_n, ldA_rf, dup2_l, dup2_ia, dup2_ir, popA_0, popA_s, getL_z, getL_s, setL_z, setL_1, setL_s, setL2_z, setL2_1, setL2_s, drop2_i, drop2_a, drop2_0, drop2_n, drop2_l, drop2_d, drop2_r, cwd_0, cwd_i, cwd_a, cwd_n, cwd_l, cwd_d, cwd_f, cwd_r, rf_s, rf_n, swi_0, swi_s, zR_b0, zR_b1, zN_b0, zN_b1, entV_i, entV_a, entV_n, entV_r, entV_f, entV_l, entV_d, entV_s, entV_0, List.length_cons, List.length_nil, List.nil_append, List.cons_append, true_and, and_true, Nat.reduceAdd, Nat.reduceLT, Nat.reduceEqDiff, Nat.reduceLeDiff, Nat.reduceSub, Nat.zero_add, Classical.not_not, ex_i, ex_l, ex_d, ex_r, ex_rs, ex_rn, ex_sm, Nat.sub_zero, eq_self, wn_sI, wn_sL, wn_sP, wsh_sI, wsh_sL, wsh_sP, wI_sL, wI_sP, wL_sI, wL_sP, wP_sI, wP_sL, wI_sI, wL_sL, Int32.reduceLT, Int32.reduceLE, true_implies, not_true_eq_false, false_implies, not_false_eq_true, i_10, na_1, nb_1, nm_1, ns_1, nr_1, na_2, nb_2, nm_2, ns_2, nr_2, na_3, nb_3, nm_3, ns_3, nr_3, na_4, nb_4, nm_4, ns_4, nr_4, na_5, nb_5, nm_5, ns_5, nr_5, na_6, nb_6, nm_6, ns_6, nr_6, na_7, nb_7, nm_7, ns_7, nr_7, na_8, nb_8, nm_8, ns_8, nr_8, na_10, nb_10, nm_10, ns_10, nr_10, na_16, nb_16, nm_16, ns_16, nr_16, nl_m1, ni_add, ni_mul, ni_sub, ni_cl, ni_in, vp_0, vp_1, vp_2, vp_3, vp_4, vp_5, Int32.reduceToNatClampNeg, hb, ni_eq0, true_or, or_false, false_and, Int32.add_zero]
      exact h1
    by_cases hj2 : j < L.length
    · have ht : L.take (j + 1) = L.take j ++ [L[j]'(by omega)] := List.take_succ_eq_append_getElem (by omega)
      have hbb := hp.2 j (by omega)
      have hg := List.getElem?_eq_getElem (show j < L.length by omega)
      cases hC : L[j] with
      | none =>
        rw [hC] at hg ht
        refine zero (hbb.mpr hg) ?_
        rw [ht, lenL_app, ← ha]
        simp only [lenL, Nat.add_zero]
      | some C =>
        rw [hC] at hg ht
        have e1 : p / 2 ^ j % 2 = 1 := by
          have : ¬ p / 2 ^ j % 2 = 0 := fun z => by rw [hbb.mp z] at hg; cases hg
          omega
        obtain ⟨c1, c2, c3⟩ := hG j C hg
        have i1 : ¬ nI 1 = 0 := by decide
        rw [e1] at hb
        simp (disch := omega) only [vX2_cellsPresent_4, vX2_cellsPresent_5, vX2_cellsPresent_7, pI_c, pL_c, pF_c, pD_c, pA_n, pA_c, pA_rf, pR_c, pR_rf, pV_i, pV_a, pV_n, pV_rf, ldI_c, ldL_c, ldF_c, ldD_c, ldA_c, ldA_n, ldA_rf, dup2_l, dup2_ia, dup2_ir, popA_0, popA_s, getL_z, getL_s, setL_z, setL_1, setL_s, setL2_z, setL2_1, setL2_s, drop2_i, drop2_a, drop2_0, drop2_n, drop2_l, drop2_d, drop2_r, cwd_0, cwd_i, cwd_a, cwd_n, cwd_l, cwd_d, cwd_f, cwd_r, rf_s, rf_n, swi_0, swi_s, zR_b0, zR_b1, zN_b0, zN_b1, entV_i, entV_a, entV_n, entV_r, entV_f, entV_l, entV_d, entV_s, entV_0, List.length_cons, List.length_nil, List.nil_append, List.cons_append, true_and, and_true, Nat.reduceAdd, Nat.reduceLT, Nat.reduceEqDiff, Nat.reduceLeDiff, Nat.reduceSub, Nat.zero_add, Classical.not_not, ex_i, ex_l, ex_d, ex_r, ex_rs, ex_rn, ex_sm, Nat.sub_zero, eq_self, wn_sI, wn_sL, wn_sP, wsh_sI, wsh_sL, wsh_sP, wI_sL, wI_sP, wL_sI, wL_sP, wP_sI, wP_sL, wI_sI, wL_sL, Int32.reduceLT, Int32.reduceLE, true_implies, not_true_eq_false, false_implies, not_false_eq_true, i_10, e8]
        simp (disch := omega) only [vX2_cellsPresent_10, vX2_cellsPresent_11, vX2_cellsPresent_12, vX2_cellsPresent_15, vX2_cellsPresent_16, vX2_cellsPresent_17, vX2_cellsPresent_20, vX2_cellsPresent_21, vX2_cellsPresent_24, vX2_cellsPresent_25, vX2_cellsPresent_26, vX2_cellsPresent_30, vX2_cellsPresent_31, vX2_cellsPresent_32, vX2_cellsPresent_35, xs_b hx, xs_0 hx, xs_obj hx, xs_seen hx, xp_x_6 hx, xs_present hx, xp_seen_5 hx, xs_sizes hx, xp_seen_6 hx, pI_c, pL_c, pF_c, pD_c, pA_n, pA_c, pA_rf, pR_c, pR_rf, pV_i, pV_a, pV_n, pV_rf, ldI_c, ldL_c, ldF_c, ldD_c, ldA_c, ldA_n, ldA_rf, dup2_l, dup2_ia, dup2_ir, popA_0, popA_s, getL_z, getL_s, setL_z, setL_1, setL_s, setL2_z, setL2_1, setL2_s, drop2_i, drop2_a, drop2_0, drop2_n, drop2_l, drop2_d, drop2_r, cwd_0, cwd_i, cwd_a, cwd_n, cwd_l, cwd_d, cwd_f, cwd_r, rf_s, rf_n, swi_0, swi_s, zR_b0, zR_b1, zN_b0, zN_b1, entV_i, entV_a, entV_n, entV_r, entV_f, entV_l, entV_d, entV_s, entV_0, List.length_cons, List.length_nil, List.nil_append, List.cons_append, true_and, and_true, Nat.reduceAdd, Nat.reduceLT, Nat.reduceEqDiff, Nat.reduceLeDiff, Nat.reduceSub, Nat.zero_add, Classical.not_not, ex_i, ex_l, ex_d, ex_r, ex_rs, ex_rn, ex_sm, Nat.sub_zero, eq_self, wn_sI, wn_sL, wn_sP, wsh_sI, wsh_sL, wsh_sP, wI_sL, wI_sP, wL_sI, wL_sP, wP_sI, wP_sL, wI_sI, wL_sL, Int32.reduceLT, Int32.reduceLE, true_implies, not_true_eq_false, false_implies, not_false_eq_true, i_10, na_1, nb_1, nm_1, ns_1, nr_1, na_2, nb_2, nm_2, ns_2, nr_2, na_3, nb_3, nm_3, ns_3, nr_3, na_4, nb_4, nm_4, ns_4, nr_4, na_5, nb_5, nm_5, ns_5, nr_5, na_6, nb_6, nm_6, ns_6, nr_6, na_7, nb_7, nm_7, ns_7, nr_7, na_8, nb_8, nm_8, ns_8, nr_8, na_10, nb_10, nm_10, ns_10, nr_10, na_16, nb_16, nm_16, ns_16, nr_16, nl_m1, ni_add, ni_mul, ni_sub, ni_cl, ni_in, vp_0, vp_1, vp_2, vp_3, vp_4, vp_5, Int32.reduceToNatClampNeg, hb, i1, c2, true_or, or_false, false_and]
        refine ih (j + 1) (a + C.length) (by omega) ?_
        rw [ht, lenL_app, ← ha]
        simp only [lenL, Nat.add_zero]
    · refine zero ?_ ?_
      · have e : 2 ^ j = 2 ^ L.length * 2 ^ (j - L.length) := by rw [← Nat.pow_add]; congr 1; omega
        rw [e, ← Nat.div_div_eq_div_mul, hhi, Nat.zero_div]
      · rw [ha, List.take_of_length_le (by omega), List.take_of_length_le (by omega)]
set_option maxRecDepth 100000 in
set_option maxHeartbeats 4000000 in
theorem X2_cp_ok {g : Ge} {w : Wd} {k n : Nat} {K : Int32 → Wd → Nat → Nat → Prop} {x p : Nat} {L : List (Option (List (Int32 × Int64)))} (hx : XS g x w) (hP : PrX x w p 8) (hG : GotX x w L) (hp : PresL p L) (hl : L.length ≤ 8) (hhi : p / 2 ^ L.length = 0) (h : K (nI (lenL L)) w k n) : cI g mX2_cellsPresent [.ref (x + 12)] w k n K := by
  have s0 : (0 : Int32) = nI 0 := rfl
  refine cI_of 3 0 0 rfl (by decide +kernel) rfl (Nat.le_of_ble_eq_true rfl) (Nat.zero_le _) (Nat.zero_le _) ?_
  simp (disch := omega) only [vX2_cellsPresent_0, vX2_cellsPresent_1, vX2_cellsPresent_2, vX2_cellsPresent_3, pI_c, pL_c, pF_c, pD_c, pA_n, pA_c, pA_rf, pR_c, pR_rf, pV_i, pV_a, pV_n, pV_rf, ldI_c, ldL_c, ldF_c, ldD_c, ldA_c, ldA_n, ldA_rf, dup2_l, dup2_ia, dup2_ir, popA_0, popA_s, getL_z, getL_s, setL_z, setL_1, setL_s, setL2_z, setL2_1, setL2_s, drop2_i, drop2_a, drop2_0, drop2_n, drop2_l, drop2_d, drop2_r, cwd_0, cwd_i, cwd_a, cwd_n, cwd_l, cwd_d, cwd_f, cwd_r, rf_s, rf_n, swi_0, swi_s, zR_b0, zR_b1, zN_b0, zN_b1, entV_i, entV_a, entV_n, entV_r, entV_f, entV_l, entV_d, entV_s, entV_0, List.length_cons, List.length_nil, List.nil_append, List.cons_append, true_and, and_true, Nat.reduceAdd, Nat.reduceLT, Nat.reduceEqDiff, Nat.reduceLeDiff, Nat.reduceSub, Nat.zero_add, Classical.not_not, ex_i, ex_l, ex_d, ex_r, ex_rs, ex_rn, ex_sm, Nat.sub_zero, eq_self, wn_sI, wn_sL, wn_sP, wsh_sI, wsh_sL, wsh_sP, wI_sL, wI_sP, wL_sI, wL_sP, wP_sI, wP_sL, wI_sI, wL_sL, Int32.reduceLT, Int32.reduceLE, true_implies, not_true_eq_false, false_implies, not_false_eq_true, i_10]
  rw [s0]
  exact X2_cp_loop hx hP hG hp hl hhi ⟨_, rfl, h⟩ 8 0 0 (by omega) (by rw [List.take_zero]; rfl)
theorem rdBody_hi {b : Nat → Nat} {e : Nat} {F : Nat → Nat → Int32} {n a p : Nat} {L : List (Option (List (Int32 × Int64)))} (h : rdBody b e F n a = .inr (p, L)) : p / 2 ^ n = 0 := by
  unfold rdBody at h
  split at h
  · cases h
  · split at h
    · cases h
    next q =>
      split at h
      · cases h
      · split at h
        · cases h
        · split at h
          · cases h
          · cases h
            exact Decidable.not_not.mp q
/-- what a frame that stands tells -/
theorem frm_ok {x : Nat} {w : Wd} {s : St} {u q vw p c : Nat} {L : List (Option (List (Int32 × Int64)))} (hA : AbsX x w s) (eu : s.1 0 13 = nI u) (hu : u ≤ 500) (h : frmAt s q = .inr (vw, p, L, c)) : vw < 6 ∧ q + 4 ≤ c ∧ c ≤ u ∧ ∃ A cc nn, wP w (x + 2) vw = some A ∧ VerO (x + 81) w A cc nn vw s ∧ L.length = nn ∧ LOK L ∧ PresL p L ∧ p / 2 ^ nn = 0 := by
  obtain ⟨h1, h2, h3, h4⟩ := frm_inr eu hu h
  refine ⟨by omega, h1, h2, ?_⟩
  rcases hA.ver (show vw < 6 by omega) with ⟨z1, -⟩ | ⟨A, cc, nn, z1, hV⟩
  · exact absurd z1 h4
  · have hn8 := hV.n8
    refine ⟨A, cc, nn, z1, hV, ?_⟩
    unfold frmAt at h
    rw [eu, ni_cl (by omega)] at h
    obtain ⟨y1, y2, y3, y4, y5⟩ := rdFrm_inr h
    rw [hV.2.1, ni_cl (by omega)] at y5
    have hby : ∀ i, i < q + 2 + (s.1 13 (q + 1)).toNatClampNeg → (s.1 13 i).toNatClampNeg ≤ 255 := by
      obtain ⟨u', w1, w2, w3, w4⟩ := hA.wire
      have : u' = u := by
        rw [w3, ni_eq (by omega) (by omega)] at eu
        exact eu
      subst this
      intro i hi
      obtain ⟨-, d, d2, d3⟩ := w4 i (by omega)
      rw [d3, ni_cl (by omega)]
      exact d2
    obtain ⟨r1, r2, r3⟩ := rdBody_ok (fun k hk => hV.2.2.1.2.1 k hk) hby y5
    exact ⟨r2, r1, r3, rdBody_hi y5⟩
set_option maxRecDepth 100000 in
set_option maxHeartbeats 4000000 in
theorem X2_tell_int {g : Ge} {w : Wd} {k n : Nat} {K : Int32 → Wd → Nat → Nat → Prop} {x y f : Nat} (hx : XS g x w) (hy : (y = 1 ∧ f = 1) ∨ (y = 2 ∧ f = 2) ∨ (y = 3 ∧ f = 3) ∨ (y = 6 ∧ f = 4)) (h : K (wI w (x + 12) f) w k n) : cI g mX2_tell [.ref (x + 12), .int (nI y)] w k n K := by
  have l2 : nI 2 = 2 := rfl
  have l3 : nI 3 = 3 := rfl
  have l6 : nI 6 = 6 := rfl
  refine cI_of 2 0 0 rfl (by decide +kernel) rfl (Nat.le_of_ble_eq_true rfl) (Nat.zero_le _) (Nat.zero_le _) ?_
  rcases hy with ⟨rfl, rfl⟩ | ⟨rfl, rfl⟩ | ⟨rfl, rfl⟩ | ⟨rfl, rfl⟩
  · simp (disch := omega) only [vX2_tell_0, vX2_tell_1, vX2_tell_36, vX2_tell_37, vX2_tell_40, xs_b hx, xs_0 hx, xs_obj hx, xs_seen hx, xp_x_6 hx, pI_c, pL_c, pF_c, pD_c, pA_n, pA_c, pA_rf, pR_c, pR_rf, pV_i, pV_a, pV_n, pV_rf, ldI_c, ldL_c, ldF_c, ldD_c, ldA_c, ldA_n, ldA_rf, dup2_l, dup2_ia, dup2_ir, popA_0, popA_s, getL_z, getL_s, setL_z, setL_1, setL_s, setL2_z, setL2_1, setL2_s, drop2_i, drop2_a, drop2_0, drop2_n, drop2_l, drop2_d, drop2_r, cwd_0, cwd_i, cwd_a, cwd_n, cwd_l, cwd_d, cwd_f, cwd_r, rf_s, rf_n, swi_0, swi_s, zR_b0, zR_b1, zN_b0, zN_b1, entV_i, entV_a, entV_n, entV_r, entV_f, entV_l, entV_d, entV_s, entV_0, List.length_cons, List.length_nil, List.nil_append, List.cons_append, true_and, and_true, Nat.reduceAdd, Nat.reduceLT, Nat.reduceEqDiff, Nat.reduceLeDiff, Nat.reduceSub, Nat.zero_add, Classical.not_not, ex_i, ex_l, ex_d, ex_r, ex_rs, ex_rn, ex_sm, Nat.sub_zero, eq_self, wn_sI, wn_sL, wn_sP, wsh_sI, wsh_sL, wsh_sP, wI_sL, wI_sP, wL_sI, wL_sP, wP_sI, wP_sL, wI_sI, wL_sL, Int32.reduceLT, Int32.reduceLE, true_implies, not_true_eq_false, false_implies, not_false_eq_true, i_10, ni_eq1]
    exact h
  · simp (disch := omega) only [vX2_tell_0, vX2_tell_1, vX2_tell_41, vX2_tell_42, vX2_tell_45, xs_b hx, xs_0 hx, xs_obj hx, xs_seen hx, xp_x_6 hx, pI_c, pL_c, pF_c, pD_c, pA_n, pA_c, pA_rf, pR_c, pR_rf, pV_i, pV_a, pV_n, pV_rf, ldI_c, ldL_c, ldF_c, ldD_c, ldA_c, ldA_n, ldA_rf, dup2_l, dup2_ia, dup2_ir, popA_0, popA_s, getL_z, getL_s, setL_z, setL_1, setL_s, setL2_z, setL2_1, setL2_s, drop2_i, drop2_a, drop2_0, drop2_n, drop2_l, drop2_d, drop2_r, cwd_0, cwd_i, cwd_a, cwd_n, cwd_l, cwd_d, cwd_f, cwd_r, rf_s, rf_n, swi_0, swi_s, zR_b0, zR_b1, zN_b0, zN_b1, entV_i, entV_a, entV_n, entV_r, entV_f, entV_l, entV_d, entV_s, entV_0, List.length_cons, List.length_nil, List.nil_append, List.cons_append, true_and, and_true, Nat.reduceAdd, Nat.reduceLT, Nat.reduceEqDiff, Nat.reduceLeDiff, Nat.reduceSub, Nat.zero_add, Classical.not_not, ex_i, ex_l, ex_d, ex_r, ex_rs, ex_rn, ex_sm, Nat.sub_zero, eq_self, wn_sI, wn_sL, wn_sP, wsh_sI, wsh_sL, wsh_sP, wI_sL, wI_sP, wL_sI, wL_sP, wP_sI, wP_sL, wI_sI, wL_sL, Int32.reduceLT, Int32.reduceLE, true_implies, not_true_eq_false, false_implies, not_false_eq_true, i_10, l2]
    repeat refine ⟨fun q => absurd q (by decide), fun _ => ?_⟩
    exact h
  · simp (disch := omega) only [vX2_tell_0, vX2_tell_1, vX2_tell_46, vX2_tell_47, vX2_tell_50, xs_b hx, xs_0 hx, xs_obj hx, xs_seen hx, xp_x_6 hx, pI_c, pL_c, pF_c, pD_c, pA_n, pA_c, pA_rf, pR_c, pR_rf, pV_i, pV_a, pV_n, pV_rf, ldI_c, ldL_c, ldF_c, ldD_c, ldA_c, ldA_n, ldA_rf, dup2_l, dup2_ia, dup2_ir, popA_0, popA_s, getL_z, getL_s, setL_z, setL_1, setL_s, setL2_z, setL2_1, setL2_s, drop2_i, drop2_a, drop2_0, drop2_n, drop2_l, drop2_d, drop2_r, cwd_0, cwd_i, cwd_a, cwd_n, cwd_l, cwd_d, cwd_f, cwd_r, rf_s, rf_n, swi_0, swi_s, zR_b0, zR_b1, zN_b0, zN_b1, entV_i, entV_a, entV_n, entV_r, entV_f, entV_l, entV_d, entV_s, entV_0, List.length_cons, List.length_nil, List.nil_append, List.cons_append, true_and, and_true, Nat.reduceAdd, Nat.reduceLT, Nat.reduceEqDiff, Nat.reduceLeDiff, Nat.reduceSub, Nat.zero_add, Classical.not_not, ex_i, ex_l, ex_d, ex_r, ex_rs, ex_rn, ex_sm, Nat.sub_zero, eq_self, wn_sI, wn_sL, wn_sP, wsh_sI, wsh_sL, wsh_sP, wI_sL, wI_sP, wL_sI, wL_sP, wP_sI, wP_sL, wI_sI, wL_sL, Int32.reduceLT, Int32.reduceLE, true_implies, not_true_eq_false, false_implies, not_false_eq_true, i_10, l3]
    repeat refine ⟨fun q => absurd q (by decide), fun _ => ?_⟩
    exact h
  · simp (disch := omega) only [vX2_tell_0, vX2_tell_1, vX2_tell_61, vX2_tell_62, vX2_tell_65, xs_b hx, xs_0 hx, xs_obj hx, xs_seen hx, xp_x_6 hx, pI_c, pL_c, pF_c, pD_c, pA_n, pA_c, pA_rf, pR_c, pR_rf, pV_i, pV_a, pV_n, pV_rf, ldI_c, ldL_c, ldF_c, ldD_c, ldA_c, ldA_n, ldA_rf, dup2_l, dup2_ia, dup2_ir, popA_0, popA_s, getL_z, getL_s, setL_z, setL_1, setL_s, setL2_z, setL2_1, setL2_s, drop2_i, drop2_a, drop2_0, drop2_n, drop2_l, drop2_d, drop2_r, cwd_0, cwd_i, cwd_a, cwd_n, cwd_l, cwd_d, cwd_f, cwd_r, rf_s, rf_n, swi_0, swi_s, zR_b0, zR_b1, zN_b0, zN_b1, entV_i, entV_a, entV_n, entV_r, entV_f, entV_l, entV_d, entV_s, entV_0, List.length_cons, List.length_nil, List.nil_append, List.cons_append, true_and, and_true, Nat.reduceAdd, Nat.reduceLT, Nat.reduceEqDiff, Nat.reduceLeDiff, Nat.reduceSub, Nat.zero_add, Classical.not_not, ex_i, ex_l, ex_d, ex_r, ex_rs, ex_rn, ex_sm, Nat.sub_zero, eq_self, wn_sI, wn_sL, wn_sP, wsh_sI, wsh_sL, wsh_sP, wI_sL, wI_sP, wL_sI, wL_sP, wP_sI, wP_sL, wI_sI, wL_sL, Int32.reduceLT, Int32.reduceLE, true_implies, not_true_eq_false, false_implies, not_false_eq_true, i_10, l6]
    repeat refine ⟨fun q => absurd q (by decide), fun _ => ?_⟩
    exact h
set_option maxRecDepth 100000 in
set_option maxHeartbeats 4000000 in
theorem X2_tell_fp {g : Ge} {w : Wd} {k n : Nat} {K : Int32 → Wd → Nat → Nat → Prop} {x p : Nat} (hx : XS g x w) (hP : PrX x w p 8) (h : K (nI (pop8 p)) w k n) : cI g mX2_tell [.ref (x + 12), .int (nI 4)] w k n K := by
  have l4 : nI 4 = 4 := rfl
  refine cI_of 2 0 0 rfl (by decide +kernel) rfl (Nat.le_of_ble_eq_true rfl) (Nat.zero_le _) (Nat.zero_le _) ?_
  simp (disch := omega) only [vX2_tell_0, vX2_tell_1, vX2_tell_51, vX2_tell_52, xs_b hx, xs_0 hx, xs_obj hx, xs_seen hx, xp_x_6 hx, pI_c, pL_c, pF_c, pD_c, pA_n, pA_c, pA_rf, pR_c, pR_rf, pV_i, pV_a, pV_n, pV_rf, ldI_c, ldL_c, ldF_c, ldD_c, ldA_c, ldA_n, ldA_rf, dup2_l, dup2_ia, dup2_ir, popA_0, popA_s, getL_z, getL_s, setL_z, setL_1, setL_s, setL2_z, setL2_1, setL2_s, drop2_i, drop2_a, drop2_0, drop2_n, drop2_l, drop2_d, drop2_r, cwd_0, cwd_i, cwd_a, cwd_n, cwd_l, cwd_d, cwd_f, cwd_r, rf_s, rf_n, swi_0, swi_s, zR_b0, zR_b1, zN_b0, zN_b1, entV_i, entV_a, entV_n, entV_r, entV_f, entV_l, entV_d, entV_s, entV_0, List.length_cons, List.length_nil, List.nil_append, List.cons_append, true_and, and_true, Nat.reduceAdd, Nat.reduceLT, Nat.reduceEqDiff, Nat.reduceLeDiff, Nat.reduceSub, Nat.zero_add, Classical.not_not, ex_i, ex_l, ex_d, ex_r, ex_rs, ex_rn, ex_sm, Nat.sub_zero, eq_self, wn_sI, wn_sL, wn_sP, wsh_sI, wsh_sL, wsh_sP, wI_sL, wI_sP, wL_sI, wL_sP, wP_sI, wP_sL, wI_sI, wL_sL, Int32.reduceLT, Int32.reduceLE, true_implies, not_true_eq_false, false_implies, not_false_eq_true, i_10, l4]
  repeat refine ⟨fun q => absurd q (by decide), fun _ => ?_⟩
  refine X2_fp_ok hx hP ?_
  simp (disch := omega) only [vX2_tell_55, pI_c, pL_c, pF_c, pD_c, pA_n, pA_c, pA_rf, pR_c, pR_rf, pV_i, pV_a, pV_n, pV_rf, ldI_c, ldL_c, ldF_c, ldD_c, ldA_c, ldA_n, ldA_rf, dup2_l, dup2_ia, dup2_ir, popA_0, popA_s, getL_z, getL_s, setL_z, setL_1, setL_s, setL2_z, setL2_1, setL2_s, drop2_i, drop2_a, drop2_0, drop2_n, drop2_l, drop2_d, drop2_r, cwd_0, cwd_i, cwd_a, cwd_n, cwd_l, cwd_d, cwd_f, cwd_r, rf_s, rf_n, swi_0, swi_s, zR_b0, zR_b1, zN_b0, zN_b1, entV_i, entV_a, entV_n, entV_r, entV_f, entV_l, entV_d, entV_s, entV_0, List.length_cons, List.length_nil, List.nil_append, List.cons_append, true_and, and_true, Nat.reduceAdd, Nat.reduceLT, Nat.reduceEqDiff, Nat.reduceLeDiff, Nat.reduceSub, Nat.zero_add, Classical.not_not, ex_i, ex_l, ex_d, ex_r, ex_rs, ex_rn, ex_sm, Nat.sub_zero, eq_self, wn_sI, wn_sL, wn_sP, wsh_sI, wsh_sL, wsh_sP, wI_sL, wI_sP, wL_sI, wL_sP, wP_sI, wP_sL, wI_sI, wL_sL, Int32.reduceLT, Int32.reduceLE, true_implies, not_true_eq_false, false_implies, not_false_eq_true, i_10]
  exact h
set_option maxRecDepth 100000 in
set_option maxHeartbeats 4000000 in
theorem X2_tell_cp {g : Ge} {w : Wd} {k n : Nat} {K : Int32 → Wd → Nat → Nat → Prop} {x p : Nat} {L : List (Option (List (Int32 × Int64)))} (hx : XS g x w) (hP : PrX x w p 8) (hG : GotX x w L) (hp : PresL p L) (hl : L.length ≤ 8) (hhi : p / 2 ^ L.length = 0) (h : K (nI (lenL L)) w k n) : cI g mX2_tell [.ref (x + 12), .int (nI 5)] w k n K := by
  have l5 : nI 5 = 5 := rfl
  refine cI_of 2 0 0 rfl (by decide +kernel) rfl (Nat.le_of_ble_eq_true rfl) (Nat.zero_le _) (Nat.zero_le _) ?_
  simp (disch := omega) only [vX2_tell_0, vX2_tell_1, vX2_tell_56, vX2_tell_57, xs_b hx, xs_0 hx, xs_obj hx, xs_seen hx, xp_x_6 hx, pI_c, pL_c, pF_c, pD_c, pA_n, pA_c, pA_rf, pR_c, pR_rf, pV_i, pV_a, pV_n, pV_rf, ldI_c, ldL_c, ldF_c, ldD_c, ldA_c, ldA_n, ldA_rf, dup2_l, dup2_ia, dup2_ir, popA_0, popA_s, getL_z, getL_s, setL_z, setL_1, setL_s, setL2_z, setL2_1, setL2_s, drop2_i, drop2_a, drop2_0, drop2_n, drop2_l, drop2_d, drop2_r, cwd_0, cwd_i, cwd_a, cwd_n, cwd_l, cwd_d, cwd_f, cwd_r, rf_s, rf_n, swi_0, swi_s, zR_b0, zR_b1, zN_b0, zN_b1, entV_i, entV_a, entV_n, entV_r, entV_f, entV_l, entV_d, entV_s, entV_0, List.length_cons, List.length_nil, List.nil_append, List.cons_append, true_and, and_true, Nat.reduceAdd, Nat.reduceLT, Nat.reduceEqDiff, Nat.reduceLeDiff, Nat.reduceSub, Nat.zero_add, Classical.not_not, ex_i, ex_l, ex_d, ex_r, ex_rs, ex_rn, ex_sm, Nat.sub_zero, eq_self, wn_sI, wn_sL, wn_sP, wsh_sI, wsh_sL, wsh_sP, wI_sL, wI_sP, wL_sI, wL_sP, wP_sI, wP_sL, wI_sI, wL_sL, Int32.reduceLT, Int32.reduceLE, true_implies, not_true_eq_false, false_implies, not_false_eq_true, i_10, l5]
  repeat refine ⟨fun q => absurd q (by decide), fun _ => ?_⟩
  refine X2_cp_ok hx hP hG hp hl hhi ?_
  simp (disch := omega) only [vX2_tell_60, pI_c, pL_c, pF_c, pD_c, pA_n, pA_c, pA_rf, pR_c, pR_rf, pV_i, pV_a, pV_n, pV_rf, ldI_c, ldL_c, ldF_c, ldD_c, ldA_c, ldA_n, ldA_rf, dup2_l, dup2_ia, dup2_ir, popA_0, popA_s, getL_z, getL_s, setL_z, setL_1, setL_s, setL2_z, setL2_1, setL2_s, drop2_i, drop2_a, drop2_0, drop2_n, drop2_l, drop2_d, drop2_r, cwd_0, cwd_i, cwd_a, cwd_n, cwd_l, cwd_d, cwd_f, cwd_r, rf_s, rf_n, swi_0, swi_s, zR_b0, zR_b1, zN_b0, zN_b1, entV_i, entV_a, entV_n, entV_r, entV_f, entV_l, entV_d, entV_s, entV_0, List.length_cons, List.length_nil, List.nil_append, List.cons_append, true_and, and_true, Nat.reduceAdd, Nat.reduceLT, Nat.reduceEqDiff, Nat.reduceLeDiff, Nat.reduceSub, Nat.zero_add, Classical.not_not, ex_i, ex_l, ex_d, ex_r, ex_rs, ex_rn, ex_sm, Nat.sub_zero, eq_self, wn_sI, wn_sL, wn_sP, wsh_sI, wsh_sL, wsh_sP, wI_sL, wI_sP, wL_sI, wL_sP, wP_sI, wP_sL, wI_sI, wL_sL, Int32.reduceLT, Int32.reduceLE, true_implies, not_true_eq_false, false_implies, not_false_eq_true, i_10]
  exact h
set_option maxRecDepth 100000 in
set_option maxHeartbeats 4000000 in
theorem X_frame {g : Ge} {w : Wd} {k n : Nat} {K : Int32 → Wd → Nat → Nat → Prop} {x : Nat} {s : St} (hI : CI g x w s) (hk : 1000 ≤ k) (hn : 14000 ≤ n) (q a : Int32) (h : ∀ ans w', Xo g x w w' → (∀ b s', SpFrame s q a b s' → b = ans ∧ AbsX x w' s') → K ans w' (k - 1000) (n - 14000)) : cI g mX11_frame [.ref x, .int q, .int a] w k n K := by
  obtain ⟨hx, hC, hW, hw, hA⟩ := id hI
  obtain ⟨u, hu, e1, e2, e3⟩ := hA.wire
  refine cI_of 4 1000 14000 rfl (by decide +kernel) rfl (Nat.le_of_ble_eq_true rfl) hk hn ?_
  simp only [vX11_frame_0, vX11_frame_1, vX11_frame_2, xs_b hx, xs_0 hx, xs_obj hx, pI_c, pL_c, pF_c, pD_c, pA_n, pA_c, pA_rf, pR_c, pR_rf, pV_i, pV_a, pV_n, pV_rf, ldI_c, ldL_c, ldF_c, ldD_c, ldA_c, ldA_n, ldA_rf, dup2_l, dup2_ia, dup2_ir, popA_0, popA_s, getL_z, getL_s, setL_z, setL_1, setL_s, setL2_z, setL2_1, setL2_s, drop2_i, drop2_a, drop2_0, drop2_n, drop2_l, drop2_d, drop2_r, cwd_0, cwd_i, cwd_a, cwd_n, cwd_l, cwd_d, cwd_f, cwd_r, rf_s, rf_n, swi_0, swi_s, zR_b0, zR_b1, zN_b0, zN_b1, entV_i, entV_a, entV_n, entV_r, entV_f, entV_l, entV_d, entV_s, entV_0, List.length_cons, List.length_nil, List.nil_append, List.cons_append, true_and, and_true, Nat.reduceAdd, Nat.reduceLT, Nat.reduceEqDiff, Nat.reduceLeDiff, Nat.reduceSub, Nat.zero_add, Classical.not_not, ex_i, ex_l, ex_d, ex_r, ex_rs, ex_rn, ex_sm, Nat.sub_zero, eq_self, wn_sI, wn_sL, wn_sP, wsh_sI, wsh_sL, wsh_sP, wI_sL, wI_sP, wL_sI, wL_sP, wP_sI, wP_sL, wI_sI, wL_sL, Int32.reduceLT, Int32.reduceLE, true_implies, not_true_eq_false, false_implies, not_false_eq_true, i_10]
  refine X11_isOnWire_ok hx e1 hu q ?_
  by_cases q2 : 0 ≤ q ∧ q ≤ nI u - 1
  · obtain ⟨j, hj, rfl⟩ := i_ltN (by omega) q2.1 q2.2
    rw [b2i_t q2]
    have no : ¬ (0 ≤ a ∧ a ≤ 6) → K (-1) w (k - 1000) (n - 14000) := fun z0 => SpNo hI h fun b s' z => by
      unfold SpFrame at z
      rw [e2, if_pos fun y => z0 y.2] at z
      exact z
    have go : (0 ≤ a ∧ a ≤ 6) → R g mX11_frame (fun r w' => ∃ i, r = some (.int i) ∧ K i w' (k - 1000) (n - 14000)) 20 [some (.ref x), some (.int (nI j)), some (.int a), none] [] w 1000 14000 := by
      intro q3
      have fin : ∀ w' ans, Sc x w w' → (ans = match frmAt s j with
          | .inl (f, c) => if a = 0 then nI f else if a = 1 then nI c else -5
          | .inr (v, p, L, c) => if a = 0 then 0 else if a = 1 then -5 else if a = 2 then nI v else if a = 3 then s.1 13 (j + 1) else if a = 4 then nI (pop8 p) else if a = 5 then nI (lenL L) else nI c) → K ans w' (k - 1000) (n - 14000) := fun w' ans S1 ea => sc_end hI S1 h fun b s' z => by
        unfold SpFrame at z
        rw [e2, if_neg (not_not_intro (And.intro q2 q3)), ni_cl (by omega)] at z
        exact ⟨z.1.trans ea.symm, z.2⟩
      obtain ⟨y, hy, rfl⟩ := i_nat (c := 6) (by decide) q3.1 q3.2
      simp (disch := omega) only [vX11_frame_20, vX11_frame_21, vX11_frame_24, vX11_frame_25, vX11_frame_28, vX11_frame_29, vX11_frame_32, vX11_frame_33, vX11_frame_34, vX11_frame_37, xs_b hx, xs_0 hx, xs_obj hx, xs_seen hx, xp_x_6 hx, xs_wire hx, xp_x_3 hx, xs_versions hx, xp_x_1 hx, pI_c, pL_c, pF_c, pD_c, pA_n, pA_c, pA_rf, pR_c, pR_rf, pV_i, pV_a, pV_n, pV_rf, ldI_c, ldL_c, ldF_c, ldD_c, ldA_c, ldA_n, ldA_rf, dup2_l, dup2_ia, dup2_ir, popA_0, popA_s, getL_z, getL_s, setL_z, setL_1, setL_s, setL2_z, setL2_1, setL2_s, drop2_i, drop2_a, drop2_0, drop2_n, drop2_l, drop2_d, drop2_r, cwd_0, cwd_i, cwd_a, cwd_n, cwd_l, cwd_d, cwd_f, cwd_r, rf_s, rf_n, swi_0, swi_s, zR_b0, zR_b1, zN_b0, zN_b1, entV_i, entV_a, entV_n, entV_r, entV_f, entV_l, entV_d, entV_s, entV_0, List.length_cons, List.length_nil, List.nil_append, List.cons_append, true_and, and_true, Nat.reduceAdd, Nat.reduceLT, Nat.reduceEqDiff, Nat.reduceLeDiff, Nat.reduceSub, Nat.zero_add, Classical.not_not, ex_i, ex_l, ex_d, ex_r, ex_rs, ex_rn, ex_sm, Nat.sub_zero, eq_self, wn_sI, wn_sL, wn_sP, wsh_sI, wsh_sL, wsh_sP, wI_sL, wI_sP, wL_sI, wL_sP, wP_sI, wP_sL, wI_sI, wL_sL, Int32.reduceLT, Int32.reduceLE, true_implies, not_true_eq_false, false_implies, not_false_eq_true, i_10, e1]
      refine X2_stands_ok hI e2 hu hj (fun f c w1 q1 S1 l1 => ?_) (fun vw p L c w1 q1 S1 z0 z2 z3 z4 hp P1 G1 => ?_)
      · have hx1 := hx.sc S1
        have fin1 := fin w1
        simp only [q1] at fin1
        have ne : ∀ c, y ≠ c → c < 7 → ¬ nI y = nI c := fun c h1 h2 => by rw [ni_eq (by omega) (by omega)]; exact h1
        by_cases y0 : y = 0
        · have e0 : nI y = 0 := by rw [y0]; rfl
          simp (disch := omega) only [vX11_frame_40, vX11_frame_41, vX11_frame_42, vX11_frame_45, vX11_frame_46, vX11_frame_49, vX11_frame_52, xs_b hx1, xs_0 hx1, xs_obj hx1, xs_seen hx1, xp_x_6 hx1, pI_c, pL_c, pF_c, pD_c, pA_n, pA_c, pA_rf, pR_c, pR_rf, pV_i, pV_a, pV_n, pV_rf, ldI_c, ldL_c, ldF_c, ldD_c, ldA_c, ldA_n, ldA_rf, dup2_l, dup2_ia, dup2_ir, popA_0, popA_s, getL_z, getL_s, setL_z, setL_1, setL_s, setL2_z, setL2_1, setL2_s, drop2_i, drop2_a, drop2_0, drop2_n, drop2_l, drop2_d, drop2_r, cwd_0, cwd_i, cwd_a, cwd_n, cwd_l, cwd_d, cwd_f, cwd_r, rf_s, rf_n, swi_0, swi_s, zR_b0, zR_b1, zN_b0, zN_b1, entV_i, entV_a, entV_n, entV_r, entV_f, entV_l, entV_d, entV_s, entV_0, List.length_cons, List.length_nil, List.nil_append, List.cons_append, true_and, and_true, Nat.reduceAdd, Nat.reduceLT, Nat.reduceEqDiff, Nat.reduceLeDiff, Nat.reduceSub, Nat.zero_add, Classical.not_not, ex_i, ex_l, ex_d, ex_r, ex_rs, ex_rn, ex_sm, Nat.sub_zero, eq_self, wn_sI, wn_sL, wn_sP, wsh_sI, wsh_sL, wsh_sP, wI_sL, wI_sP, wL_sI, wL_sP, wP_sI, wP_sL, wI_sI, wL_sL, Int32.reduceLT, Int32.reduceLE, true_implies, not_true_eq_false, false_implies, not_false_eq_true, i_10, l1.1, e0]
          exact fin1 _ S1 (by rw [if_pos e0])
        · have e0 : ¬ nI y = 0 := ne 0 y0 (by decide)
          by_cases y1 : y = 1
          · have e1 : nI y = 1 := by rw [y1]; rfl
            have fin2 := fun w2 S2 => fin w2 (nI c) S2 (by simp only [q1]; rw [if_neg e0, if_pos e1])
            subst y1
            simp (disch := omega) only [vX11_frame_40, vX11_frame_41, vX11_frame_42, vX11_frame_53, vX11_frame_54, vX11_frame_55, vX11_frame_58, vX11_frame_59, vX11_frame_62, vX11_frame_63, vX11_frame_64, vX11_frame_70, vX11_frame_71, vX11_frame_74, vX11_frame_75, xs_b hx1, xs_0 hx1, xs_obj hx1, xs_seen hx1, xp_x_6 hx1, pI_c, pL_c, pF_c, pD_c, pA_n, pA_c, pA_rf, pR_c, pR_rf, pV_i, pV_a, pV_n, pV_rf, ldI_c, ldL_c, ldF_c, ldD_c, ldA_c, ldA_n, ldA_rf, dup2_l, dup2_ia, dup2_ir, popA_0, popA_s, getL_z, getL_s, setL_z, setL_1, setL_s, setL2_z, setL2_1, setL2_s, drop2_i, drop2_a, drop2_0, drop2_n, drop2_l, drop2_d, drop2_r, cwd_0, cwd_i, cwd_a, cwd_n, cwd_l, cwd_d, cwd_f, cwd_r, rf_s, rf_n, swi_0, swi_s, zR_b0, zR_b1, zN_b0, zN_b1, entV_i, entV_a, entV_n, entV_r, entV_f, entV_l, entV_d, entV_s, entV_0, List.length_cons, List.length_nil, List.nil_append, List.cons_append, true_and, and_true, Nat.reduceAdd, Nat.reduceLT, Nat.reduceEqDiff, Nat.reduceLeDiff, Nat.reduceSub, Nat.zero_add, Classical.not_not, ex_i, ex_l, ex_d, ex_r, ex_rs, ex_rn, ex_sm, Nat.sub_zero, eq_self, wn_sI, wn_sL, wn_sP, wsh_sI, wsh_sL, wsh_sP, wI_sL, wI_sP, wL_sI, wL_sP, wP_sI, wP_sL, wI_sI, wL_sL, Int32.reduceLT, Int32.reduceLE, true_implies, not_true_eq_false, false_implies, not_false_eq_true, i_10, ni_eq1, ni_eq0, i_10]
            refine X2_tell_int hx1 (Or.inl ⟨rfl, rfl⟩) ?_
            simp (disch := omega) only [vX11_frame_78, pI_c, pL_c, pF_c, pD_c, pA_n, pA_c, pA_rf, pR_c, pR_rf, pV_i, pV_a, pV_n, pV_rf, ldI_c, ldL_c, ldF_c, ldD_c, ldA_c, ldA_n, ldA_rf, dup2_l, dup2_ia, dup2_ir, popA_0, popA_s, getL_z, getL_s, setL_z, setL_1, setL_s, setL2_z, setL2_1, setL2_s, drop2_i, drop2_a, drop2_0, drop2_n, drop2_l, drop2_d, drop2_r, cwd_0, cwd_i, cwd_a, cwd_n, cwd_l, cwd_d, cwd_f, cwd_r, rf_s, rf_n, swi_0, swi_s, zR_b0, zR_b1, zN_b0, zN_b1, entV_i, entV_a, entV_n, entV_r, entV_f, entV_l, entV_d, entV_s, entV_0, List.length_cons, List.length_nil, List.nil_append, List.cons_append, true_and, and_true, Nat.reduceAdd, Nat.reduceLT, Nat.reduceEqDiff, Nat.reduceLeDiff, Nat.reduceSub, Nat.zero_add, Classical.not_not, ex_i, ex_l, ex_d, ex_r, ex_rs, ex_rn, ex_sm, Nat.sub_zero, eq_self, wn_sI, wn_sL, wn_sP, wsh_sI, wsh_sL, wsh_sP, wI_sL, wI_sP, wL_sI, wL_sP, wP_sI, wP_sL, wI_sI, wL_sL, Int32.reduceLT, Int32.reduceLE, true_implies, not_true_eq_false, false_implies, not_false_eq_true, i_10, l1.2]
            exact fin2 _ S1
          · have e1 : ¬ nI y = 1 := ne 1 y1 (by decide)
            simp (disch := omega) only [vX11_frame_40, vX11_frame_41, vX11_frame_42, vX11_frame_53, vX11_frame_54, vX11_frame_55, vX11_frame_58, vX11_frame_59, vX11_frame_62, vX11_frame_63, vX11_frame_64, vX11_frame_67, vX11_frame_69, xs_b hx1, xs_0 hx1, xs_obj hx1, xs_seen hx1, xp_x_6 hx1, pI_c, pL_c, pF_c, pD_c, pA_n, pA_c, pA_rf, pR_c, pR_rf, pV_i, pV_a, pV_n, pV_rf, ldI_c, ldL_c, ldF_c, ldD_c, ldA_c, ldA_n, ldA_rf, dup2_l, dup2_ia, dup2_ir, popA_0, popA_s, getL_z, getL_s, setL_z, setL_1, setL_s, setL2_z, setL2_1, setL2_s, drop2_i, drop2_a, drop2_0, drop2_n, drop2_l, drop2_d, drop2_r, cwd_0, cwd_i, cwd_a, cwd_n, cwd_l, cwd_d, cwd_f, cwd_r, rf_s, rf_n, swi_0, swi_s, zR_b0, zR_b1, zN_b0, zN_b1, entV_i, entV_a, entV_n, entV_r, entV_f, entV_l, entV_d, entV_s, entV_0, List.length_cons, List.length_nil, List.nil_append, List.cons_append, true_and, and_true, Nat.reduceAdd, Nat.reduceLT, Nat.reduceEqDiff, Nat.reduceLeDiff, Nat.reduceSub, Nat.zero_add, Classical.not_not, ex_i, ex_l, ex_d, ex_r, ex_rs, ex_rn, ex_sm, Nat.sub_zero, eq_self, wn_sI, wn_sL, wn_sP, wsh_sI, wsh_sL, wsh_sP, wI_sL, wI_sP, wL_sI, wL_sP, wP_sI, wP_sL, wI_sI, wL_sL, Int32.reduceLT, Int32.reduceLE, true_implies, not_true_eq_false, false_implies, not_false_eq_true, i_10, e0, e1]
            exact fin1 _ S1 (by rw [if_neg e0, if_neg e1])
      · have hx1 := hx.sc S1
        have fin1 := fin w1
        simp only [q1] at fin1
        obtain ⟨o1, o2, o3, A, cc, nn, o4, hV, o5, o6, o7, o8⟩ := frm_ok hA e2 hu q1
        have hn8 := hV.n8
        have ne : ∀ c, y ≠ c → c < 7 → ¬ nI y = nI c := fun c h1 h2 => by rw [ni_eq (by omega) (by omega)]; exact h1
        by_cases y0 : y = 0
        · have e0 : nI y = 0 := by rw [y0]; rfl
          simp (disch := omega) only [vX11_frame_40, vX11_frame_41, vX11_frame_42, vX11_frame_45, vX11_frame_46, vX11_frame_49, vX11_frame_52, xs_b hx1, xs_0 hx1, xs_obj hx1, xs_seen hx1, xp_x_6 hx1, pI_c, pL_c, pF_c, pD_c, pA_n, pA_c, pA_rf, pR_c, pR_rf, pV_i, pV_a, pV_n, pV_rf, ldI_c, ldL_c, ldF_c, ldD_c, ldA_c, ldA_n, ldA_rf, dup2_l, dup2_ia, dup2_ir, popA_0, popA_s, getL_z, getL_s, setL_z, setL_1, setL_s, setL2_z, setL2_1, setL2_s, drop2_i, drop2_a, drop2_0, drop2_n, drop2_l, drop2_d, drop2_r, cwd_0, cwd_i, cwd_a, cwd_n, cwd_l, cwd_d, cwd_f, cwd_r, rf_s, rf_n, swi_0, swi_s, zR_b0, zR_b1, zN_b0, zN_b1, entV_i, entV_a, entV_n, entV_r, entV_f, entV_l, entV_d, entV_s, entV_0, List.length_cons, List.length_nil, List.nil_append, List.cons_append, true_and, and_true, Nat.reduceAdd, Nat.reduceLT, Nat.reduceEqDiff, Nat.reduceLeDiff, Nat.reduceSub, Nat.zero_add, Classical.not_not, ex_i, ex_l, ex_d, ex_r, ex_rs, ex_rn, ex_sm, Nat.sub_zero, eq_self, wn_sI, wn_sL, wn_sP, wsh_sI, wsh_sL, wsh_sP, wI_sL, wI_sP, wL_sI, wL_sP, wP_sI, wP_sL, wI_sI, wL_sL, Int32.reduceLT, Int32.reduceLE, true_implies, not_true_eq_false, false_implies, not_false_eq_true, i_10, z0, e0]
          exact fin1 _ S1 (by rw [if_pos e0])
        · have e0 : ¬ nI y = 0 := ne 0 y0 (by decide)
          by_cases y1 : y = 1
          · have e1 : nI y = 1 := by rw [y1]; rfl
            simp (disch := omega) only [vX11_frame_40, vX11_frame_41, vX11_frame_42, vX11_frame_53, vX11_frame_54, vX11_frame_55, vX11_frame_58, vX11_frame_59, vX11_frame_62, vX11_frame_63, vX11_frame_64, vX11_frame_67, vX11_frame_69, xs_b hx1, xs_0 hx1, xs_obj hx1, xs_seen hx1, xp_x_6 hx1, pI_c, pL_c, pF_c, pD_c, pA_n, pA_c, pA_rf, pR_c, pR_rf, pV_i, pV_a, pV_n, pV_rf, ldI_c, ldL_c, ldF_c, ldD_c, ldA_c, ldA_n, ldA_rf, dup2_l, dup2_ia, dup2_ir, popA_0, popA_s, getL_z, getL_s, setL_z, setL_1, setL_s, setL2_z, setL2_1, setL2_s, drop2_i, drop2_a, drop2_0, drop2_n, drop2_l, drop2_d, drop2_r, cwd_0, cwd_i, cwd_a, cwd_n, cwd_l, cwd_d, cwd_f, cwd_r, rf_s, rf_n, swi_0, swi_s, zR_b0, zR_b1, zN_b0, zN_b1, entV_i, entV_a, entV_n, entV_r, entV_f, entV_l, entV_d, entV_s, entV_0, List.length_cons, List.length_nil, List.nil_append, List.cons_append, true_and, and_true, Nat.reduceAdd, Nat.reduceLT, Nat.reduceEqDiff, Nat.reduceLeDiff, Nat.reduceSub, Nat.zero_add, Classical.not_not, ex_i, ex_l, ex_d, ex_r, ex_rs, ex_rn, ex_sm, Nat.sub_zero, eq_self, wn_sI, wn_sL, wn_sP, wsh_sI, wsh_sL, wsh_sP, wI_sL, wI_sP, wL_sI, wL_sP, wP_sI, wP_sL, wI_sI, wL_sL, Int32.reduceLT, Int32.reduceLE, true_implies, not_true_eq_false, false_implies, not_false_eq_true, i_10, e0, e1, i_10]
            exact fin1 _ S1 (by rw [if_neg e0, if_pos e1])
          · have e1 : ¬ nI y = 1 := ne 1 y1 (by decide)
            rw [if_neg e0, if_neg e1] at fin1
            have z1 : ¬ (0 : Int32) = 1 := by decide
            simp (disch := omega) only [vX11_frame_40, vX11_frame_41, vX11_frame_42, vX11_frame_53, vX11_frame_54, vX11_frame_55, vX11_frame_58, vX11_frame_59, vX11_frame_62, vX11_frame_63, vX11_frame_64, vX11_frame_70, vX11_frame_71, vX11_frame_74, vX11_frame_75, xs_b hx1, xs_0 hx1, xs_obj hx1, xs_seen hx1, xp_x_6 hx1, pI_c, pL_c, pF_c, pD_c, pA_n, pA_c, pA_rf, pR_c, pR_rf, pV_i, pV_a, pV_n, pV_rf, ldI_c, ldL_c, ldF_c, ldD_c, ldA_c, ldA_n, ldA_rf, dup2_l, dup2_ia, dup2_ir, popA_0, popA_s, getL_z, getL_s, setL_z, setL_1, setL_s, setL2_z, setL2_1, setL2_s, drop2_i, drop2_a, drop2_0, drop2_n, drop2_l, drop2_d, drop2_r, cwd_0, cwd_i, cwd_a, cwd_n, cwd_l, cwd_d, cwd_f, cwd_r, rf_s, rf_n, swi_0, swi_s, zR_b0, zR_b1, zN_b0, zN_b1, entV_i, entV_a, entV_n, entV_r, entV_f, entV_l, entV_d, entV_s, entV_0, List.length_cons, List.length_nil, List.nil_append, List.cons_append, true_and, and_true, Nat.reduceAdd, Nat.reduceLT, Nat.reduceEqDiff, Nat.reduceLeDiff, Nat.reduceSub, Nat.zero_add, Classical.not_not, ex_i, ex_l, ex_d, ex_r, ex_rs, ex_rn, ex_sm, Nat.sub_zero, eq_self, wn_sI, wn_sL, wn_sP, wsh_sI, wsh_sL, wsh_sP, wI_sL, wI_sP, wL_sI, wL_sP, wP_sI, wP_sL, wI_sI, wL_sL, Int32.reduceLT, Int32.reduceLE, true_implies, not_true_eq_false, false_implies, not_false_eq_true, i_10, e0, e1, z1]
            clear e0 e1
            rcases (show y = 2 ∨ y = 3 ∨ y = 4 ∨ y = 5 ∨ y = 6 by omega) with rfl | rfl | rfl | rfl | rfl
            · refine X2_tell_int hx1 (Or.inr (Or.inl ⟨rfl, rfl⟩)) ?_
              simp (disch := omega) only [vX11_frame_78, pI_c, pL_c, pF_c, pD_c, pA_n, pA_c, pA_rf, pR_c, pR_rf, pV_i, pV_a, pV_n, pV_rf, ldI_c, ldL_c, ldF_c, ldD_c, ldA_c, ldA_n, ldA_rf, dup2_l, dup2_ia, dup2_ir, popA_0, popA_s, getL_z, getL_s, setL_z, setL_1, setL_s, setL2_z, setL2_1, setL2_s, drop2_i, drop2_a, drop2_0, drop2_n, drop2_l, drop2_d, drop2_r, cwd_0, cwd_i, cwd_a, cwd_n, cwd_l, cwd_d, cwd_f, cwd_r, rf_s, rf_n, swi_0, swi_s, zR_b0, zR_b1, zN_b0, zN_b1, entV_i, entV_a, entV_n, entV_r, entV_f, entV_l, entV_d, entV_s, entV_0, List.length_cons, List.length_nil, List.nil_append, List.cons_append, true_and, and_true, Nat.reduceAdd, Nat.reduceLT, Nat.reduceEqDiff, Nat.reduceLeDiff, Nat.reduceSub, Nat.zero_add, Classical.not_not, ex_i, ex_l, ex_d, ex_r, ex_rs, ex_rn, ex_sm, Nat.sub_zero, eq_self, wn_sI, wn_sL, wn_sP, wsh_sI, wsh_sL, wsh_sP, wI_sL, wI_sP, wL_sI, wL_sP, wP_sI, wP_sL, wI_sI, wL_sL, Int32.reduceLT, Int32.reduceLE, true_implies, not_true_eq_false, false_implies, not_false_eq_true, i_10, z2]
              exact fin1 _ S1 rfl
            · refine X2_tell_int hx1 (Or.inr (Or.inr (Or.inl ⟨rfl, rfl⟩))) ?_
              simp (disch := omega) only [vX11_frame_78, pI_c, pL_c, pF_c, pD_c, pA_n, pA_c, pA_rf, pR_c, pR_rf, pV_i, pV_a, pV_n, pV_rf, ldI_c, ldL_c, ldF_c, ldD_c, ldA_c, ldA_n, ldA_rf, dup2_l, dup2_ia, dup2_ir, popA_0, popA_s, getL_z, getL_s, setL_z, setL_1, setL_s, setL2_z, setL2_1, setL2_s, drop2_i, drop2_a, drop2_0, drop2_n, drop2_l, drop2_d, drop2_r, cwd_0, cwd_i, cwd_a, cwd_n, cwd_l, cwd_d, cwd_f, cwd_r, rf_s, rf_n, swi_0, swi_s, zR_b0, zR_b1, zN_b0, zN_b1, entV_i, entV_a, entV_n, entV_r, entV_f, entV_l, entV_d, entV_s, entV_0, List.length_cons, List.length_nil, List.nil_append, List.cons_append, true_and, and_true, Nat.reduceAdd, Nat.reduceLT, Nat.reduceEqDiff, Nat.reduceLeDiff, Nat.reduceSub, Nat.zero_add, Classical.not_not, ex_i, ex_l, ex_d, ex_r, ex_rs, ex_rn, ex_sm, Nat.sub_zero, eq_self, wn_sI, wn_sL, wn_sP, wsh_sI, wsh_sL, wsh_sP, wI_sL, wI_sP, wL_sI, wL_sP, wP_sI, wP_sL, wI_sI, wL_sL, Int32.reduceLT, Int32.reduceLE, true_implies, not_true_eq_false, false_implies, not_false_eq_true, i_10, z3]
              exact fin1 _ S1 rfl
            · refine X2_tell_fp hx1 P1 ?_
              simp (disch := omega) only [vX11_frame_78, pI_c, pL_c, pF_c, pD_c, pA_n, pA_c, pA_rf, pR_c, pR_rf, pV_i, pV_a, pV_n, pV_rf, ldI_c, ldL_c, ldF_c, ldD_c, ldA_c, ldA_n, ldA_rf, dup2_l, dup2_ia, dup2_ir, popA_0, popA_s, getL_z, getL_s, setL_z, setL_1, setL_s, setL2_z, setL2_1, setL2_s, drop2_i, drop2_a, drop2_0, drop2_n, drop2_l, drop2_d, drop2_r, cwd_0, cwd_i, cwd_a, cwd_n, cwd_l, cwd_d, cwd_f, cwd_r, rf_s, rf_n, swi_0, swi_s, zR_b0, zR_b1, zN_b0, zN_b1, entV_i, entV_a, entV_n, entV_r, entV_f, entV_l, entV_d, entV_s, entV_0, List.length_cons, List.length_nil, List.nil_append, List.cons_append, true_and, and_true, Nat.reduceAdd, Nat.reduceLT, Nat.reduceEqDiff, Nat.reduceLeDiff, Nat.reduceSub, Nat.zero_add, Classical.not_not, ex_i, ex_l, ex_d, ex_r, ex_rs, ex_rn, ex_sm, Nat.sub_zero, eq_self, wn_sI, wn_sL, wn_sP, wsh_sI, wsh_sL, wsh_sP, wI_sL, wI_sP, wL_sI, wL_sP, wP_sI, wP_sL, wI_sI, wL_sL, Int32.reduceLT, Int32.reduceLE, true_implies, not_true_eq_false, false_implies, not_false_eq_true, i_10]
              exact fin1 _ S1 rfl
            · refine X2_tell_cp hx1 P1 G1 o7 (by omega) (by rw [o5]; exact o8) ?_
              simp (disch := omega) only [vX11_frame_78, pI_c, pL_c, pF_c, pD_c, pA_n, pA_c, pA_rf, pR_c, pR_rf, pV_i, pV_a, pV_n, pV_rf, ldI_c, ldL_c, ldF_c, ldD_c, ldA_c, ldA_n, ldA_rf, dup2_l, dup2_ia, dup2_ir, popA_0, popA_s, getL_z, getL_s, setL_z, setL_1, setL_s, setL2_z, setL2_1, setL2_s, drop2_i, drop2_a, drop2_0, drop2_n, drop2_l, drop2_d, drop2_r, cwd_0, cwd_i, cwd_a, cwd_n, cwd_l, cwd_d, cwd_f, cwd_r, rf_s, rf_n, swi_0, swi_s, zR_b0, zR_b1, zN_b0, zN_b1, entV_i, entV_a, entV_n, entV_r, entV_f, entV_l, entV_d, entV_s, entV_0, List.length_cons, List.length_nil, List.nil_append, List.cons_append, true_and, and_true, Nat.reduceAdd, Nat.reduceLT, Nat.reduceEqDiff, Nat.reduceLeDiff, Nat.reduceSub, Nat.zero_add, Classical.not_not, ex_i, ex_l, ex_d, ex_r, ex_rs, ex_rn, ex_sm, Nat.sub_zero, eq_self, wn_sI, wn_sL, wn_sP, wsh_sI, wsh_sL, wsh_sP, wI_sL, wI_sP, wL_sI, wL_sP, wP_sI, wP_sL, wI_sI, wL_sL, Int32.reduceLT, Int32.reduceLE, true_implies, not_true_eq_false, false_implies, not_false_eq_true, i_10]
              exact fin1 _ S1 rfl
            · refine X2_tell_int hx1 (Or.inr (Or.inr (Or.inr ⟨rfl, rfl⟩))) ?_
              simp (disch := omega) only [vX11_frame_78, pI_c, pL_c, pF_c, pD_c, pA_n, pA_c, pA_rf, pR_c, pR_rf, pV_i, pV_a, pV_n, pV_rf, ldI_c, ldL_c, ldF_c, ldD_c, ldA_c, ldA_n, ldA_rf, dup2_l, dup2_ia, dup2_ir, popA_0, popA_s, getL_z, getL_s, setL_z, setL_1, setL_s, setL2_z, setL2_1, setL2_s, drop2_i, drop2_a, drop2_0, drop2_n, drop2_l, drop2_d, drop2_r, cwd_0, cwd_i, cwd_a, cwd_n, cwd_l, cwd_d, cwd_f, cwd_r, rf_s, rf_n, swi_0, swi_s, zR_b0, zR_b1, zN_b0, zN_b1, entV_i, entV_a, entV_n, entV_r, entV_f, entV_l, entV_d, entV_s, entV_0, List.length_cons, List.length_nil, List.nil_append, List.cons_append, true_and, and_true, Nat.reduceAdd, Nat.reduceLT, Nat.reduceEqDiff, Nat.reduceLeDiff, Nat.reduceSub, Nat.zero_add, Classical.not_not, ex_i, ex_l, ex_d, ex_r, ex_rs, ex_rn, ex_sm, Nat.sub_zero, eq_self, wn_sI, wn_sL, wn_sP, wsh_sI, wsh_sL, wsh_sP, wI_sL, wI_sP, wL_sI, wL_sP, wP_sI, wP_sL, wI_sI, wL_sL, Int32.reduceLT, Int32.reduceLE, true_implies, not_true_eq_false, false_implies, not_false_eq_true, i_10, z4]
              exact fin1 _ S1 rfl
    simp (disch := omega) only [vX11_frame_5, vX11_frame_8, vX11_frame_9, vX11_frame_12, vX11_frame_13, vX11_frame_15, vX11_frame_18, vX11_frame_19, pI_c, pL_c, pF_c, pD_c, pA_n, pA_c, pA_rf, pR_c, pR_rf, pV_i, pV_a, pV_n, pV_rf, ldI_c, ldL_c, ldF_c, ldD_c, ldA_c, ldA_n, ldA_rf, dup2_l, dup2_ia, dup2_ir, popA_0, popA_s, getL_z, getL_s, setL_z, setL_1, setL_s, setL2_z, setL2_1, setL2_s, drop2_i, drop2_a, drop2_0, drop2_n, drop2_l, drop2_d, drop2_r, cwd_0, cwd_i, cwd_a, cwd_n, cwd_l, cwd_d, cwd_f, cwd_r, rf_s, rf_n, swi_0, swi_s, zR_b0, zR_b1, zN_b0, zN_b1, entV_i, entV_a, entV_n, entV_r, entV_f, entV_l, entV_d, entV_s, entV_0, List.length_cons, List.length_nil, List.nil_append, List.cons_append, true_and, and_true, Nat.reduceAdd, Nat.reduceLT, Nat.reduceEqDiff, Nat.reduceLeDiff, Nat.reduceSub, Nat.zero_add, Classical.not_not, ex_i, ex_l, ex_d, ex_r, ex_rs, ex_rn, ex_sm, Nat.sub_zero, eq_self, wn_sI, wn_sL, wn_sP, wsh_sI, wsh_sL, wsh_sP, wI_sL, wI_sP, wL_sI, wL_sP, wP_sI, wP_sL, wI_sI, wL_sL, Int32.reduceLT, Int32.reduceLE, true_implies, not_true_eq_false, false_implies, not_false_eq_true, i_10, i_10]
    exact ⟨fun z => no fun y => absurd z (Int32.not_lt.mpr y.1), fun z => ⟨fun z2 => go ⟨Int32.not_lt.mp z, z2⟩, fun z2 => no fun y => z2 y.2⟩⟩
  · rw [b2i_f q2]
    simp only [vX11_frame_5, vX11_frame_18, vX11_frame_19, xs_b hx, xs_0 hx, xs_obj hx, pI_c, pL_c, pF_c, pD_c, pA_n, pA_c, pA_rf, pR_c, pR_rf, pV_i, pV_a, pV_n, pV_rf, ldI_c, ldL_c, ldF_c, ldD_c, ldA_c, ldA_n, ldA_rf, dup2_l, dup2_ia, dup2_ir, popA_0, popA_s, getL_z, getL_s, setL_z, setL_1, setL_s, setL2_z, setL2_1, setL2_s, drop2_i, drop2_a, drop2_0, drop2_n, drop2_l, drop2_d, drop2_r, cwd_0, cwd_i, cwd_a, cwd_n, cwd_l, cwd_d, cwd_f, cwd_r, rf_s, rf_n, swi_0, swi_s, zR_b0, zR_b1, zN_b0, zN_b1, entV_i, entV_a, entV_n, entV_r, entV_f, entV_l, entV_d, entV_s, entV_0, List.length_cons, List.length_nil, List.nil_append, List.cons_append, true_and, and_true, Nat.reduceAdd, Nat.reduceLT, Nat.reduceEqDiff, Nat.reduceLeDiff, Nat.reduceSub, Nat.zero_add, Classical.not_not, ex_i, ex_l, ex_d, ex_r, ex_rs, ex_rn, ex_sm, Nat.sub_zero, eq_self, wn_sI, wn_sL, wn_sP, wsh_sI, wsh_sL, wsh_sP, wI_sL, wI_sP, wL_sI, wL_sP, wP_sI, wP_sL, wI_sI, wL_sL, Int32.reduceLT, Int32.reduceLE, true_implies, not_true_eq_false, false_implies, not_false_eq_true, i_10]
    refine SpNo hI h fun b s' z => ?_
    unfold SpFrame at z
    rw [e2, if_pos fun y => q2 y.1] at z
    exact z
