/-! the class: frame, scan, found -/
theorem fl_rdVal {b : Nat → Nat} {e a : Nat} {kd : Int32} {w : Nat} {base : Int64} {y : Nat × Nat} (h : rdVal b e a kd w base = .inl y) : 1 ≤ y.1 ∧ y.1 ≤ 7 := by
  unfold rdVal at h
  repeat' split at h
  all_goals first | (cases h; exact ⟨Nat.le_of_ble_eq_true rfl, Nat.le_of_ble_eq_true rfl⟩) | cases h
theorem fl_rdB {b : Nat → Nat} {e : Nat} {y : Nat × Nat} : ∀ {r a : Nat}, rdB b e r a = .inl y → 1 ≤ y.1 ∧ y.1 ≤ 7
  | 0, a, h => by
    unfold rdB at h
    cases h
  | r + 1, a, h => by
    rw [rdB] at h
    repeat' split at h
    all_goals first | (cases h; exact ⟨Nat.le_of_ble_eq_true rfl, Nat.le_of_ble_eq_true rfl⟩) | (cases h; exact fl_rdB (by assumption)) | (cases h; exact fl_rdVal (by assumption)) | cases h
theorem fl_rdP {b : Nat → Nat} {e : Nat} {kd : Int32} {how w d : Nat} {y : Nat × Nat} : ∀ {r i a : Nat} {pv : Int64}, rdP b e kd how w d r i a pv = .inl y → 1 ≤ y.1 ∧ y.1 ≤ 7
  | 0, i, a, pv, h => by
    unfold rdP at h
    cases h
  | r + 1, i, a, pv, h => by
    rw [rdP] at h
    split at h
    next y' hy =>
      cases h
      exact fl_rdVal hy
    next v hv =>
      split at h
      next y' hy =>
        cases h
        exact fl_rdP hy
      · cases h
theorem fl_rdR {b : Nat → Nat} {e : Nat} {kd : Int32} {w : Nat} {y : Nat × Nat} : ∀ {r l a : Nat} {pv : Int64}, rdR b e kd w r l a pv = .inl y → 1 ≤ y.1 ∧ y.1 ≤ 7
  | 0, l, a, pv, h => by
    unfold rdR at h
    cases h
  | r + 1, l, a, pv, h => by
    rw [rdR] at h
    repeat' split at h
    all_goals first | (cases h; exact ⟨Nat.le_of_ble_eq_true rfl, Nat.le_of_ble_eq_true rfl⟩) | (cases h; exact fl_rdR (by assumption)) | (cases h; exact fl_rdVal (by assumption)) | cases h
theorem fl_rdCl {b : Nat → Nat} {e : Nat} {kd : Int32} {z a : Nat} {y : Nat × Nat} (h : rdCl b e kd z a = .inl y) : 1 ≤ y.1 ∧ y.1 ≤ 7 := by
  unfold rdCl rdN at h
  repeat' split at h
  all_goals first | (cases h; exact ⟨Nat.le_of_ble_eq_true rfl, Nat.le_of_ble_eq_true rfl⟩) | exact fl_rdB h | exact fl_rdP h | exact fl_rdR h | cases h
theorem fl_rdFs {b : Nat → Nat} {e : Nat} {F : Nat → Nat → Int32} {p : Nat} {y : Nat × Nat} : ∀ {r k a : Nat}, rdFs b e F p r k a = .inl y → 1 ≤ y.1 ∧ y.1 ≤ 7
  | 0, k, a, h => by
    unfold rdFs at h
    cases h
  | r + 1, k, a, h => by
    rw [rdFs] at h
    split at h
    · split at h
      next y' hy =>
        cases h
        exact fl_rdFs hy
      · cases h
    · split at h
      next y' hy =>
        cases h
        unfold rdSz at hy
        repeat' split at hy
        all_goals first | (cases hy; exact ⟨Nat.le_of_ble_eq_true rfl, Nat.le_of_ble_eq_true rfl⟩) | cases hy
      · split at h
        next y' hy =>
          cases h
          exact fl_rdCl hy
        · split at h
          next y' hy =>
            cases h
            exact fl_rdFs hy
          · cases h
theorem fl_rdBody {b : Nat → Nat} {e : Nat} {F : Nat → Nat → Int32} {n a : Nat} {y : Nat × Nat} (h : rdBody b e F n a = .inl y) : 1 ≤ y.1 ∧ y.1 ≤ 7 := by
  unfold rdBody at h
  repeat' split at h
  all_goals first | (cases h; exact ⟨Nat.le_of_ble_eq_true rfl, Nat.le_of_ble_eq_true rfl⟩) | (cases h; exact fl_rdFs (by assumption)) | cases h
theorem fl_rdFrm {b : Nat → Nat} {u : Nat} {mn : Nat → Int32} {F : Nat → Nat → Nat → Int32} {q : Nat} {y : Nat × Nat} (h : rdFrm b u mn F q = .inl y) : 1 ≤ y.1 ∧ y.1 ≤ 7 := by
  unfold rdFrm at h
  repeat' split at h
  all_goals first | (cases h; exact ⟨Nat.le_of_ble_eq_true rfl, Nat.le_of_ble_eq_true rfl⟩) | (cases h; exact fl_rdBody (by assumption)) | cases h
theorem fl_frmAt {s : St} {q : Nat} {y : Nat × Nat} (h : frmAt s q = .inl y) : 1 ≤ y.1 ∧ y.1 ≤ 7 := fl_rdFrm h
set_option maxRecDepth 100000 in
set_option maxHeartbeats 4000000 in
theorem X_found_loop {g : Ge} {x k0 n0 u : Nat} {q0 : Int32} {s : St} {K : Option Value → Wd → Prop} (eu : s.1 0 13 = nI u) (hu : u ≤ 500) : ∀ (d q : Nat) (w : Wd), q + d = u → CI g x w s → wI w x 12 = nI u →
    (∀ w', Sc x w w' → K (some (.int (fnd (frmAt s) u d q))) w') → R g mX11_found K 12 [some (.ref x), some (.int q0), some (.int (nI q))] [] w k0 n0 := by
  intro d
  induction d with
  | zero =>
    intro q w hd hI e12 hK
    obtain ⟨hx, -⟩ := id hI
    have hge : u ≤ q := by omega
    simp (disch := omega) only [vX11_found_12, vX11_found_13, vX11_found_14, vX11_found_17, vX11_found_51, vX11_found_53, xs_b hx, xs_0 hx, xs_obj hx, pI_c, pL_c, pF_c, pD_c, pA_n, pA_c, pA_rf, pR_c, pR_rf, pV_i, pV_a, pV_n, pV_rf, ldI_c, ldL_c, ldF_c, ldD_c, ldA_c, ldA_n, ldA_rf, dup2_l, dup2_ia, dup2_ir, popA_0, popA_s, getL_z, getL_s, setL_z, setL_1, setL_s, setL2_z, setL2_1, setL2_s, drop2_i, drop2_a, drop2_0, drop2_n, drop2_l, drop2_d, drop2_r, cwd_0, cwd_i, cwd_a, cwd_n, cwd_l, cwd_d, cwd_f, cwd_r, rf_s, rf_n, swi_0, swi_s, zR_b0, zR_b1, zN_b0, zN_b1, entV_i, entV_a, entV_n, entV_r, entV_f, entV_l, entV_d, entV_s, entV_0, List.length_cons, List.length_nil, List.nil_append, List.cons_append, true_and, and_true, Nat.reduceAdd, Nat.reduceLT, Nat.reduceEqDiff, Nat.reduceLeDiff, Nat.reduceSub, Nat.zero_add, Classical.not_not, ex_i, ex_l, ex_d, ex_r, ex_rs, ex_rn, ex_sm, Nat.sub_zero, eq_self, wn_sI, wn_sL, wn_sP, wsh_sI, wsh_sL, wsh_sP, wI_sL, wI_sP, wL_sI, wL_sP, wP_sI, wP_sL, wI_sI, wL_sL, Int32.reduceLT, Int32.reduceLE, true_implies, not_true_eq_false, false_implies, not_false_eq_true, i_10, ni_le, ni_lt, ni_eq, ni_le1, ni_le0, ni_eq0, ni_eq1, ni_eq2, ni_eq8, ni_eq9, e12, hge]
    exact hK w Sc.rf
  | succ d ih =>
    intro q w hd hI e12 hK
    obtain ⟨hx, -⟩ := id hI
    have hge : ¬ u ≤ q := by omega
    have i1 : ¬ (1 : Int32) = 0 := by decide
    unfold fnd at hK
    simp only [if_neg hge] at hK
    simp (disch := omega) only [vX11_found_12, vX11_found_13, vX11_found_14, vX11_found_17, vX11_found_20, vX11_found_21, vX11_found_24, vX11_found_25, vX11_found_28, vX11_found_29, vX11_found_32, vX11_found_33, vX11_found_34, vX11_found_37, xs_b hx, xs_0 hx, xs_obj hx, xs_seen hx, xp_x_6 hx, xs_wire hx, xp_x_3 hx, xs_versions hx, xp_x_1 hx, pI_c, pL_c, pF_c, pD_c, pA_n, pA_c, pA_rf, pR_c, pR_rf, pV_i, pV_a, pV_n, pV_rf, ldI_c, ldL_c, ldF_c, ldD_c, ldA_c, ldA_n, ldA_rf, dup2_l, dup2_ia, dup2_ir, popA_0, popA_s, getL_z, getL_s, setL_z, setL_1, setL_s, setL2_z, setL2_1, setL2_s, drop2_i, drop2_a, drop2_0, drop2_n, drop2_l, drop2_d, drop2_r, cwd_0, cwd_i, cwd_a, cwd_n, cwd_l, cwd_d, cwd_f, cwd_r, rf_s, rf_n, swi_0, swi_s, zR_b0, zR_b1, zN_b0, zN_b1, entV_i, entV_a, entV_n, entV_r, entV_f, entV_l, entV_d, entV_s, entV_0, List.length_cons, List.length_nil, List.nil_append, List.cons_append, true_and, and_true, Nat.reduceAdd, Nat.reduceLT, Nat.reduceEqDiff, Nat.reduceLeDiff, Nat.reduceSub, Nat.zero_add, Classical.not_not, ex_i, ex_l, ex_d, ex_r, ex_rs, ex_rn, ex_sm, Nat.sub_zero, eq_self, wn_sI, wn_sL, wn_sP, wsh_sI, wsh_sL, wsh_sP, wI_sL, wI_sP, wL_sI, wL_sP, wP_sI, wP_sL, wI_sI, wL_sL, Int32.reduceLT, Int32.reduceLE, true_implies, not_true_eq_false, false_implies, not_false_eq_true, i_10, ni_le, ni_lt, ni_eq, ni_le1, ni_le0, ni_eq0, ni_eq1, ni_eq2, ni_eq8, ni_eq9, e12, hge]
    refine X2_stands_ok hI eu hu (by omega) (fun f c w1 q1 S1 l1 => ?_) (fun vw p L c w1 q1 S1 z0 z2 z3 z4 hp P1 G1 => ?_)
    · simp only [q1] at hK
      simp (disch := omega) only [vX11_found_40, vX11_found_45, vX11_found_48, pI_c, pL_c, pF_c, pD_c, pA_n, pA_c, pA_rf, pR_c, pR_rf, pV_i, pV_a, pV_n, pV_rf, ldI_c, ldL_c, ldF_c, ldD_c, ldA_c, ldA_n, ldA_rf, dup2_l, dup2_ia, dup2_ir, popA_0, popA_s, getL_z, getL_s, setL_z, setL_1, setL_s, setL2_z, setL2_1, setL2_s, drop2_i, drop2_a, drop2_0, drop2_n, drop2_l, drop2_d, drop2_r, cwd_0, cwd_i, cwd_a, cwd_n, cwd_l, cwd_d, cwd_f, cwd_r, rf_s, rf_n, swi_0, swi_s, zR_b0, zR_b1, zN_b0, zN_b1, entV_i, entV_a, entV_n, entV_r, entV_f, entV_l, entV_d, entV_s, entV_0, List.length_cons, List.length_nil, List.nil_append, List.cons_append, true_and, and_true, Nat.reduceAdd, Nat.reduceLT, Nat.reduceEqDiff, Nat.reduceLeDiff, Nat.reduceSub, Nat.zero_add, Classical.not_not, ex_i, ex_l, ex_d, ex_r, ex_rs, ex_rn, ex_sm, Nat.sub_zero, eq_self, wn_sI, wn_sL, wn_sP, wsh_sI, wsh_sL, wsh_sP, wI_sL, wI_sP, wL_sI, wL_sP, wP_sI, wP_sL, wI_sI, wL_sL, Int32.reduceLT, Int32.reduceLE, true_implies, not_true_eq_false, false_implies, not_false_eq_true, i_10, na_1, nb_1, nm_1, ns_1, nr_1, na_2, nb_2, nm_2, ns_2, nr_2, na_3, nb_3, nm_3, ns_3, nr_3, na_4, nb_4, nm_4, ns_4, nr_4, na_5, nb_5, nm_5, ns_5, nr_5, na_6, nb_6, nm_6, ns_6, nr_6, na_7, nb_7, nm_7, ns_7, nr_7, na_8, nb_8, nm_8, ns_8, nr_8, na_10, nb_10, nm_10, ns_10, nr_10, na_16, nb_16, nm_16, ns_16, nr_16, nl_m1, ni_add, ni_mul, ni_sub, ni_cl, ni_in, vp_0, vp_1, vp_2, vp_3, vp_4, vp_5, Int32.reduceToNatClampNeg]
      refine ih (q + 1) w1 (by omega) (hI.sc S1) ?_ fun w' S2 => hK w' (S1.tr S2)
      rw [(S1.2.2.1 x (Or.inl (by omega))).2.1]
      exact e12
    · simp only [q1] at hK
      simp (disch := omega) only [vX11_found_40, vX11_found_43, vX11_found_44, pI_c, pL_c, pF_c, pD_c, pA_n, pA_c, pA_rf, pR_c, pR_rf, pV_i, pV_a, pV_n, pV_rf, ldI_c, ldL_c, ldF_c, ldD_c, ldA_c, ldA_n, ldA_rf, dup2_l, dup2_ia, dup2_ir, popA_0, popA_s, getL_z, getL_s, setL_z, setL_1, setL_s, setL2_z, setL2_1, setL2_s, drop2_i, drop2_a, drop2_0, drop2_n, drop2_l, drop2_d, drop2_r, cwd_0, cwd_i, cwd_a, cwd_n, cwd_l, cwd_d, cwd_f, cwd_r, rf_s, rf_n, swi_0, swi_s, zR_b0, zR_b1, zN_b0, zN_b1, entV_i, entV_a, entV_n, entV_r, entV_f, entV_l, entV_d, entV_s, entV_0, List.length_cons, List.length_nil, List.nil_append, List.cons_append, true_and, and_true, Nat.reduceAdd, Nat.reduceLT, Nat.reduceEqDiff, Nat.reduceLeDiff, Nat.reduceSub, Nat.zero_add, Classical.not_not, ex_i, ex_l, ex_d, ex_r, ex_rs, ex_rn, ex_sm, Nat.sub_zero, eq_self, wn_sI, wn_sL, wn_sP, wsh_sI, wsh_sL, wsh_sP, wI_sL, wI_sP, wL_sI, wL_sP, wP_sI, wP_sL, wI_sI, wL_sL, Int32.reduceLT, Int32.reduceLE, true_implies, not_true_eq_false, false_implies, not_false_eq_true, i_10, i1]
      exact hK w1 S1
set_option maxRecDepth 100000 in
set_option maxHeartbeats 4000000 in
theorem X_found {g : Ge} {w : Wd} {k n : Nat} {K : Int32 → Wd → Nat → Nat → Prop} {x : Nat} {s : St} (hI : CI g x w s) (hk : 1000 ≤ k) (hn : 14000 ≤ n) (q : Int32) (h : ∀ ans w', Xo g x w w' → (∀ b s', SpFound s q b s' → b = ans ∧ AbsX x w' s') → K ans w' (k - 1000) (n - 14000)) : cI g mX11_found [.ref x, .int q] w k n K := by
  obtain ⟨hx, hC, hW, hw, hA⟩ := id hI
  obtain ⟨u, hu, e1, e2, e3⟩ := hA.wire
  refine cI_of 3 1000 14000 rfl (by decide +kernel) rfl (Nat.le_of_ble_eq_true rfl) hk hn ?_
  simp only [vX11_found_0, vX11_found_1, vX11_found_2, xs_b hx, xs_0 hx, xs_obj hx, pI_c, pL_c, pF_c, pD_c, pA_n, pA_c, pA_rf, pR_c, pR_rf, pV_i, pV_a, pV_n, pV_rf, ldI_c, ldL_c, ldF_c, ldD_c, ldA_c, ldA_n, ldA_rf, dup2_l, dup2_ia, dup2_ir, popA_0, popA_s, getL_z, getL_s, setL_z, setL_1, setL_s, setL2_z, setL2_1, setL2_s, drop2_i, drop2_a, drop2_0, drop2_n, drop2_l, drop2_d, drop2_r, cwd_0, cwd_i, cwd_a, cwd_n, cwd_l, cwd_d, cwd_f, cwd_r, rf_s, rf_n, swi_0, swi_s, zR_b0, zR_b1, zN_b0, zN_b1, entV_i, entV_a, entV_n, entV_r, entV_f, entV_l, entV_d, entV_s, entV_0, List.length_cons, List.length_nil, List.nil_append, List.cons_append, true_and, and_true, Nat.reduceAdd, Nat.reduceLT, Nat.reduceEqDiff, Nat.reduceLeDiff, Nat.reduceSub, Nat.zero_add, Classical.not_not, ex_i, ex_l, ex_d, ex_r, ex_rs, ex_rn, ex_sm, Nat.sub_zero, eq_self, wn_sI, wn_sL, wn_sP, wsh_sI, wsh_sL, wsh_sP, wI_sL, wI_sP, wL_sI, wL_sP, wP_sI, wP_sL, wI_sI, wL_sL, Int32.reduceLT, Int32.reduceLE, true_implies, not_true_eq_false, false_implies, not_false_eq_true, i_10]
  refine X11_isOnWire_ok hx e1 hu q ?_
  by_cases q2 : 0 ≤ q ∧ q ≤ nI u - 1
  · obtain ⟨j, hj, rfl⟩ := i_ltN (by omega) q2.1 q2.2
    rw [b2i_t q2]
    simp (disch := omega) only [vX11_found_5, vX11_found_10, vX11_found_11, xs_b hx, xs_0 hx, xs_obj hx, pI_c, pL_c, pF_c, pD_c, pA_n, pA_c, pA_rf, pR_c, pR_rf, pV_i, pV_a, pV_n, pV_rf, ldI_c, ldL_c, ldF_c, ldD_c, ldA_c, ldA_n, ldA_rf, dup2_l, dup2_ia, dup2_ir, popA_0, popA_s, getL_z, getL_s, setL_z, setL_1, setL_s, setL2_z, setL2_1, setL2_s, drop2_i, drop2_a, drop2_0, drop2_n, drop2_l, drop2_d, drop2_r, cwd_0, cwd_i, cwd_a, cwd_n, cwd_l, cwd_d, cwd_f, cwd_r, rf_s, rf_n, swi_0, swi_s, zR_b0, zR_b1, zN_b0, zN_b1, entV_i, entV_a, entV_n, entV_r, entV_f, entV_l, entV_d, entV_s, entV_0, List.length_cons, List.length_nil, List.nil_append, List.cons_append, true_and, and_true, Nat.reduceAdd, Nat.reduceLT, Nat.reduceEqDiff, Nat.reduceLeDiff, Nat.reduceSub, Nat.zero_add, Classical.not_not, ex_i, ex_l, ex_d, ex_r, ex_rs, ex_rn, ex_sm, Nat.sub_zero, eq_self, wn_sI, wn_sL, wn_sP, wsh_sI, wsh_sL, wsh_sP, wI_sL, wI_sP, wL_sI, wL_sP, wP_sI, wP_sL, wI_sI, wL_sL, Int32.reduceLT, Int32.reduceLE, true_implies, not_true_eq_false, false_implies, not_false_eq_true, i_10, i_10]
    refine X_found_loop e2 hu (u - j) j w (by omega) hI e1 fun w1 S1 => ⟨_, rfl, ?_⟩
    refine sc_end hI S1 h fun b s' z => ?_
    unfold SpFound at z
    rw [e2, if_neg (not_not_intro q2), ni_cl (by omega), ni_cl (by omega)] at z
    exact z
  · rw [b2i_f q2]
    simp only [vX11_found_5, vX11_found_8, vX11_found_9, xs_b hx, xs_0 hx, xs_obj hx, pI_c, pL_c, pF_c, pD_c, pA_n, pA_c, pA_rf, pR_c, pR_rf, pV_i, pV_a, pV_n, pV_rf, ldI_c, ldL_c, ldF_c, ldD_c, ldA_c, ldA_n, ldA_rf, dup2_l, dup2_ia, dup2_ir, popA_0, popA_s, getL_z, getL_s, setL_z, setL_1, setL_s, setL2_z, setL2_1, setL2_s, drop2_i, drop2_a, drop2_0, drop2_n, drop2_l, drop2_d, drop2_r, cwd_0, cwd_i, cwd_a, cwd_n, cwd_l, cwd_d, cwd_f, cwd_r, rf_s, rf_n, swi_0, swi_s, zR_b0, zR_b1, zN_b0, zN_b1, entV_i, entV_a, entV_n, entV_r, entV_f, entV_l, entV_d, entV_s, entV_0, List.length_cons, List.length_nil, List.nil_append, List.cons_append, true_and, and_true, Nat.reduceAdd, Nat.reduceLT, Nat.reduceEqDiff, Nat.reduceLeDiff, Nat.reduceSub, Nat.zero_add, Classical.not_not, ex_i, ex_l, ex_d, ex_r, ex_rs, ex_rn, ex_sm, Nat.sub_zero, eq_self, wn_sI, wn_sL, wn_sP, wsh_sI, wsh_sL, wsh_sP, wI_sL, wI_sP, wL_sI, wL_sP, wP_sI, wP_sL, wI_sI, wL_sL, Int32.reduceLT, Int32.reduceLE, true_implies, not_true_eq_false, false_implies, not_false_eq_true, i_10]
    refine SpNo hI h fun b s' z => ?_
    unfold SpFound at z
    rw [e2, if_pos q2] at z
    exact z
theorem frm_inr {s : St} {u q vw p c : Nat} {L : List (Option (List (Int32 × Int64)))} (eu : s.1 0 13 = nI u) (hu : u ≤ 500) (h : frmAt s q = .inr (vw, p, L, c)) : q + 4 ≤ c ∧ c ≤ u ∧ vw ≤ 5 ∧ ¬ s.1 6 vw = 0 := by
  unfold frmAt at h
  rw [eu, ni_cl (by omega)] at h
  obtain ⟨h1, h2, h3, h4, -⟩ := rdFrm_inr h
  exact ⟨by omega, h4, h1, h2⟩
set_option maxRecDepth 100000 in
set_option maxHeartbeats 4000000 in
theorem X_scan_loop {g : Ge} {x k0 n0 u : Nat} {a : Int32} {s : St} {K : Option Value → Wd → Prop} (eu : s.1 0 13 = nI u) (hu : u ≤ 500) : ∀ (d q c t : Nat) (w : Wd), u ≤ q + d → q ≤ u → c ≤ q → t ≤ q → CI g x w s → wI w x 12 = nI u →
    (∀ w' t', Sc x w w' → R g mX11_scan K 94 [some (.ref x), some (.int a), some (.int (nI (c + (scn (frmAt s) u d q).1))), some (.int (nI (scn (frmAt s) u d q).2.1)), some (.int (nI (scn (frmAt s) u d q).2.2)), some (.int (nI t'))] [] w' k0 n0) → R g mX11_scan K 21 [some (.ref x), some (.int a), some (.int (nI c)), some (.int (nI q)), some (.int 0), some (.int (nI t))] [] w k0 n0 := by
  intro d
  induction d with
  | zero =>
    intro q c t w hd hqu hcq htq hI e12 hK
    obtain ⟨hx, -⟩ := id hI
    have hge : u ≤ q := by omega
    have h94 := hK w t Sc.rf
    have c500 : (500 ≤ nI t) = (500 ≤ t) := ni_le (by decide) (by omega)
    simp (disch := omega) only [vX11_scan_21, vX11_scan_23, vX11_scan_26, vX11_scan_29, vX11_scan_30, vX11_scan_31, vX11_scan_34, xs_b hx, xs_0 hx, xs_obj hx, pI_c, pL_c, pF_c, pD_c, pA_n, pA_c, pA_rf, pR_c, pR_rf, pV_i, pV_a, pV_n, pV_rf, ldI_c, ldL_c, ldF_c, ldD_c, ldA_c, ldA_n, ldA_rf, dup2_l, dup2_ia, dup2_ir, popA_0, popA_s, getL_z, getL_s, setL_z, setL_1, setL_s, setL2_z, setL2_1, setL2_s, drop2_i, drop2_a, drop2_0, drop2_n, drop2_l, drop2_d, drop2_r, cwd_0, cwd_i, cwd_a, cwd_n, cwd_l, cwd_d, cwd_f, cwd_r, rf_s, rf_n, swi_0, swi_s, zR_b0, zR_b1, zN_b0, zN_b1, entV_i, entV_a, entV_n, entV_r, entV_f, entV_l, entV_d, entV_s, entV_0, List.length_cons, List.length_nil, List.nil_append, List.cons_append, true_and, and_true, Nat.reduceAdd, Nat.reduceLT, Nat.reduceEqDiff, Nat.reduceLeDiff, Nat.reduceSub, Nat.zero_add, Classical.not_not, ex_i, ex_l, ex_d, ex_r, ex_rs, ex_rn, ex_sm, Nat.sub_zero, eq_self, wn_sI, wn_sL, wn_sP, wsh_sI, wsh_sL, wsh_sP, wI_sL, wI_sP, wL_sI, wL_sP, wP_sI, wP_sL, wI_sI, wL_sL, Int32.reduceLT, Int32.reduceLE, true_implies, not_true_eq_false, false_implies, not_false_eq_true, i_10, ni_le, ni_lt, ni_eq, ni_le1, ni_le0, ni_eq0, ni_eq1, ni_eq2, ni_eq8, ni_eq9, e12, hge, c500]
    exact ⟨fun _ => h94, fun _ => h94⟩
  | succ d ih =>
    intro q c t w hd hqu hcq htq hI e12 hK
    obtain ⟨hx, -⟩ := id hI
    have i1 : ¬ (1 : Int32) = 0 := by decide
    have c500 : (500 ≤ nI t) = (500 ≤ t) := ni_le (by decide) (by omega)
    unfold scn at hK
    by_cases hge : u ≤ q
    · simp only [if_pos hge] at hK
      have h94 := hK w t Sc.rf
      simp (disch := omega) only [vX11_scan_21, vX11_scan_23, vX11_scan_26, vX11_scan_29, vX11_scan_30, vX11_scan_31, vX11_scan_34, xs_b hx, xs_0 hx, xs_obj hx, pI_c, pL_c, pF_c, pD_c, pA_n, pA_c, pA_rf, pR_c, pR_rf, pV_i, pV_a, pV_n, pV_rf, ldI_c, ldL_c, ldF_c, ldD_c, ldA_c, ldA_n, ldA_rf, dup2_l, dup2_ia, dup2_ir, popA_0, popA_s, getL_z, getL_s, setL_z, setL_1, setL_s, setL2_z, setL2_1, setL2_s, drop2_i, drop2_a, drop2_0, drop2_n, drop2_l, drop2_d, drop2_r, cwd_0, cwd_i, cwd_a, cwd_n, cwd_l, cwd_d, cwd_f, cwd_r, rf_s, rf_n, swi_0, swi_s, zR_b0, zR_b1, zN_b0, zN_b1, entV_i, entV_a, entV_n, entV_r, entV_f, entV_l, entV_d, entV_s, entV_0, List.length_cons, List.length_nil, List.nil_append, List.cons_append, true_and, and_true, Nat.reduceAdd, Nat.reduceLT, Nat.reduceEqDiff, Nat.reduceLeDiff, Nat.reduceSub, Nat.zero_add, Classical.not_not, ex_i, ex_l, ex_d, ex_r, ex_rs, ex_rn, ex_sm, Nat.sub_zero, eq_self, wn_sI, wn_sL, wn_sP, wsh_sI, wsh_sL, wsh_sP, wI_sL, wI_sP, wL_sI, wL_sP, wP_sI, wP_sL, wI_sI, wL_sL, Int32.reduceLT, Int32.reduceLE, true_implies, not_true_eq_false, false_implies, not_false_eq_true, i_10, ni_le, ni_lt, ni_eq, ni_le1, ni_le0, ni_eq0, ni_eq1, ni_eq2, ni_eq8, ni_eq9, e12, hge, c500]
      exact ⟨fun _ => h94, fun _ => h94⟩
    · simp only [if_neg hge] at hK
      have lt : ¬ 500 ≤ t := by omega
      simp (disch := omega) only [vX11_scan_21, vX11_scan_23, vX11_scan_26, vX11_scan_29, vX11_scan_30, vX11_scan_31, vX11_scan_34, vX11_scan_37, vX11_scan_39, vX11_scan_42, vX11_scan_43, vX11_scan_46, vX11_scan_47, vX11_scan_50, vX11_scan_51, vX11_scan_54, vX11_scan_55, vX11_scan_56, vX11_scan_59, xs_b hx, xs_0 hx, xs_obj hx, xs_seen hx, xp_x_6 hx, xs_wire hx, xp_x_3 hx, xs_versions hx, xp_x_1 hx, pI_c, pL_c, pF_c, pD_c, pA_n, pA_c, pA_rf, pR_c, pR_rf, pV_i, pV_a, pV_n, pV_rf, ldI_c, ldL_c, ldF_c, ldD_c, ldA_c, ldA_n, ldA_rf, dup2_l, dup2_ia, dup2_ir, popA_0, popA_s, getL_z, getL_s, setL_z, setL_1, setL_s, setL2_z, setL2_1, setL2_s, drop2_i, drop2_a, drop2_0, drop2_n, drop2_l, drop2_d, drop2_r, cwd_0, cwd_i, cwd_a, cwd_n, cwd_l, cwd_d, cwd_f, cwd_r, rf_s, rf_n, swi_0, swi_s, zR_b0, zR_b1, zN_b0, zN_b1, entV_i, entV_a, entV_n, entV_r, entV_f, entV_l, entV_d, entV_s, entV_0, List.length_cons, List.length_nil, List.nil_append, List.cons_append, true_and, and_true, Nat.reduceAdd, Nat.reduceLT, Nat.reduceEqDiff, Nat.reduceLeDiff, Nat.reduceSub, Nat.zero_add, Classical.not_not, ex_i, ex_l, ex_d, ex_r, ex_rs, ex_rn, ex_sm, Nat.sub_zero, eq_self, wn_sI, wn_sL, wn_sP, wsh_sI, wsh_sL, wsh_sP, wI_sL, wI_sP, wL_sI, wL_sP, wP_sI, wP_sL, wI_sI, wL_sL, Int32.reduceLT, Int32.reduceLE, true_implies, not_true_eq_false, false_implies, not_false_eq_true, i_10, ni_le, ni_lt, ni_eq, ni_le1, ni_le0, ni_eq0, ni_eq1, ni_eq2, ni_eq8, ni_eq9, e12, hge, c500, lt]
      refine X2_stands_ok hI eu hu (by omega) (fun f c1 w1 q1 S1 l1 => ?_) (fun vw p L c1 w1 q1 S1 z0 z2 z3 z4 hp P1 G1 => ?_)
      · simp only [q1] at hK
        have hf := fl_frmAt q1
        have hx1 := hx.sc S1
        have h94 := hK w1 (t + 1) S1
        have e12' : wI w1 x 12 = nI u := by
          rw [(S1.2.2.1 x (Or.inl (by omega))).2.1]
          exact e12
        have c500' : (500 ≤ nI (t + 1)) = (500 ≤ t + 1) := ni_le (by decide) (by omega)
        have nf : ¬ nI f = 0 := nI_ne0 (show 0 < f from hf.1) (by have := hf.2; omega)
        simp (disch := omega) only [vX11_scan_62, vX11_scan_79, vX11_scan_80, vX11_scan_83, vX11_scan_86, xs_b hx1, xs_0 hx1, xs_obj hx1, xs_seen hx1, xp_x_6 hx1, pI_c, pL_c, pF_c, pD_c, pA_n, pA_c, pA_rf, pR_c, pR_rf, pV_i, pV_a, pV_n, pV_rf, ldI_c, ldL_c, ldF_c, ldD_c, ldA_c, ldA_n, ldA_rf, dup2_l, dup2_ia, dup2_ir, popA_0, popA_s, getL_z, getL_s, setL_z, setL_1, setL_s, setL2_z, setL2_1, setL2_s, drop2_i, drop2_a, drop2_0, drop2_n, drop2_l, drop2_d, drop2_r, cwd_0, cwd_i, cwd_a, cwd_n, cwd_l, cwd_d, cwd_f, cwd_r, rf_s, rf_n, swi_0, swi_s, zR_b0, zR_b1, zN_b0, zN_b1, entV_i, entV_a, entV_n, entV_r, entV_f, entV_l, entV_d, entV_s, entV_0, List.length_cons, List.length_nil, List.nil_append, List.cons_append, true_and, and_true, Nat.reduceAdd, Nat.reduceLT, Nat.reduceEqDiff, Nat.reduceLeDiff, Nat.reduceSub, Nat.zero_add, Classical.not_not, ex_i, ex_l, ex_d, ex_r, ex_rs, ex_rn, ex_sm, Nat.sub_zero, eq_self, wn_sI, wn_sL, wn_sP, wsh_sI, wsh_sL, wsh_sP, wI_sL, wI_sP, wL_sI, wL_sP, wP_sI, wP_sL, wI_sI, wL_sL, Int32.reduceLT, Int32.reduceLE, true_implies, not_true_eq_false, false_implies, not_false_eq_true, i_10, na_1, nb_1, nm_1, ns_1, nr_1, na_2, nb_2, nm_2, ns_2, nr_2, na_3, nb_3, nm_3, ns_3, nr_3, na_4, nb_4, nm_4, ns_4, nr_4, na_5, nb_5, nm_5, ns_5, nr_5, na_6, nb_6, nm_6, ns_6, nr_6, na_7, nb_7, nm_7, ns_7, nr_7, na_8, nb_8, nm_8, ns_8, nr_8, na_10, nb_10, nm_10, ns_10, nr_10, na_16, nb_16, nm_16, ns_16, nr_16, nl_m1, ni_add, ni_mul, ni_sub, ni_cl, ni_in, vp_0, vp_1, vp_2, vp_3, vp_4, vp_5, Int32.reduceToNatClampNeg, l1.1]
        simp (disch := omega) only [vX11_scan_88, vX11_scan_91, pI_c, pL_c, pF_c, pD_c, pA_n, pA_c, pA_rf, pR_c, pR_rf, pV_i, pV_a, pV_n, pV_rf, ldI_c, ldL_c, ldF_c, ldD_c, ldA_c, ldA_n, ldA_rf, dup2_l, dup2_ia, dup2_ir, popA_0, popA_s, getL_z, getL_s, setL_z, setL_1, setL_s, setL2_z, setL2_1, setL2_s, drop2_i, drop2_a, drop2_0, drop2_n, drop2_l, drop2_d, drop2_r, cwd_0, cwd_i, cwd_a, cwd_n, cwd_l, cwd_d, cwd_f, cwd_r, rf_s, rf_n, swi_0, swi_s, zR_b0, zR_b1, zN_b0, zN_b1, entV_i, entV_a, entV_n, entV_r, entV_f, entV_l, entV_d, entV_s, entV_0, List.length_cons, List.length_nil, List.nil_append, List.cons_append, true_and, and_true, Nat.reduceAdd, Nat.reduceLT, Nat.reduceEqDiff, Nat.reduceLeDiff, Nat.reduceSub, Nat.zero_add, Classical.not_not, ex_i, ex_l, ex_d, ex_r, ex_rs, ex_rn, ex_sm, Nat.sub_zero, eq_self, wn_sI, wn_sL, wn_sP, wsh_sI, wsh_sL, wsh_sP, wI_sL, wI_sP, wL_sI, wL_sP, wP_sI, wP_sL, wI_sI, wL_sL, Int32.reduceLT, Int32.reduceLE, true_implies, not_true_eq_false, false_implies, not_false_eq_true, i_10, na_1, nb_1, nm_1, ns_1, nr_1, na_2, nb_2, nm_2, ns_2, nr_2, na_3, nb_3, nm_3, ns_3, nr_3, na_4, nb_4, nm_4, ns_4, nr_4, na_5, nb_5, nm_5, ns_5, nr_5, na_6, nb_6, nm_6, ns_6, nr_6, na_7, nb_7, nm_7, ns_7, nr_7, na_8, nb_8, nm_8, ns_8, nr_8, na_10, nb_10, nm_10, ns_10, nr_10, na_16, nb_16, nm_16, ns_16, nr_16, nl_m1, ni_add, ni_mul, ni_sub, ni_cl, ni_in, vp_0, vp_1, vp_2, vp_3, vp_4, vp_5, Int32.reduceToNatClampNeg]
        simp (disch := omega) only [vX11_scan_21, vX11_scan_23, vX11_scan_26, vX11_scan_29, vX11_scan_30, vX11_scan_31, vX11_scan_34, vX11_scan_37, vX11_scan_39, xs_b hx1, xs_0 hx1, xs_obj hx1, pI_c, pL_c, pF_c, pD_c, pA_n, pA_c, pA_rf, pR_c, pR_rf, pV_i, pV_a, pV_n, pV_rf, ldI_c, ldL_c, ldF_c, ldD_c, ldA_c, ldA_n, ldA_rf, dup2_l, dup2_ia, dup2_ir, popA_0, popA_s, getL_z, getL_s, setL_z, setL_1, setL_s, setL2_z, setL2_1, setL2_s, drop2_i, drop2_a, drop2_0, drop2_n, drop2_l, drop2_d, drop2_r, cwd_0, cwd_i, cwd_a, cwd_n, cwd_l, cwd_d, cwd_f, cwd_r, rf_s, rf_n, swi_0, swi_s, zR_b0, zR_b1, zN_b0, zN_b1, entV_i, entV_a, entV_n, entV_r, entV_f, entV_l, entV_d, entV_s, entV_0, List.length_cons, List.length_nil, List.nil_append, List.cons_append, true_and, and_true, Nat.reduceAdd, Nat.reduceLT, Nat.reduceEqDiff, Nat.reduceLeDiff, Nat.reduceSub, Nat.zero_add, Classical.not_not, ex_i, ex_l, ex_d, ex_r, ex_rs, ex_rn, ex_sm, Nat.sub_zero, eq_self, wn_sI, wn_sL, wn_sP, wsh_sI, wsh_sL, wsh_sP, wI_sL, wI_sP, wL_sI, wL_sP, wP_sI, wP_sL, wI_sI, wL_sL, Int32.reduceLT, Int32.reduceLE, true_implies, not_true_eq_false, false_implies, not_false_eq_true, i_10, na_1, nb_1, nm_1, ns_1, nr_1, na_2, nb_2, nm_2, ns_2, nr_2, na_3, nb_3, nm_3, ns_3, nr_3, na_4, nb_4, nm_4, ns_4, nr_4, na_5, nb_5, nm_5, ns_5, nr_5, na_6, nb_6, nm_6, ns_6, nr_6, na_7, nb_7, nm_7, ns_7, nr_7, na_8, nb_8, nm_8, ns_8, nr_8, na_10, nb_10, nm_10, ns_10, nr_10, na_16, nb_16, nm_16, ns_16, nr_16, nl_m1, ni_add, ni_mul, ni_sub, ni_cl, ni_in, vp_0, vp_1, vp_2, vp_3, vp_4, vp_5, Int32.reduceToNatClampNeg, ni_le, ni_lt, ni_eq, ni_le1, ni_le0, ni_eq0, ni_eq1, ni_eq2, ni_eq8, ni_eq9, e12', hge, c500', nf]
        exact ⟨fun _ => h94, fun _ => h94⟩
      · simp only [q1] at hK
        obtain ⟨y1, y2, -⟩ := frm_inr eu hu q1
        have hx1 := hx.sc S1
        have e12' : wI w1 x 12 = nI u := by
          rw [(S1.2.2.1 x (Or.inl (by omega))).2.1]
          exact e12
        simp (disch := omega) only [vX11_scan_62, vX11_scan_65, vX11_scan_68, vX11_scan_69, vX11_scan_72, vX11_scan_75, vX11_scan_76, xs_b hx1, xs_0 hx1, xs_obj hx1, xs_seen hx1, xp_x_6 hx1, pI_c, pL_c, pF_c, pD_c, pA_n, pA_c, pA_rf, pR_c, pR_rf, pV_i, pV_a, pV_n, pV_rf, ldI_c, ldL_c, ldF_c, ldD_c, ldA_c, ldA_n, ldA_rf, dup2_l, dup2_ia, dup2_ir, popA_0, popA_s, getL_z, getL_s, setL_z, setL_1, setL_s, setL2_z, setL2_1, setL2_s, drop2_i, drop2_a, drop2_0, drop2_n, drop2_l, drop2_d, drop2_r, cwd_0, cwd_i, cwd_a, cwd_n, cwd_l, cwd_d, cwd_f, cwd_r, rf_s, rf_n, swi_0, swi_s, zR_b0, zR_b1, zN_b0, zN_b1, entV_i, entV_a, entV_n, entV_r, entV_f, entV_l, entV_d, entV_s, entV_0, List.length_cons, List.length_nil, List.nil_append, List.cons_append, true_and, and_true, Nat.reduceAdd, Nat.reduceLT, Nat.reduceEqDiff, Nat.reduceLeDiff, Nat.reduceSub, Nat.zero_add, Classical.not_not, ex_i, ex_l, ex_d, ex_r, ex_rs, ex_rn, ex_sm, Nat.sub_zero, eq_self, wn_sI, wn_sL, wn_sP, wsh_sI, wsh_sL, wsh_sP, wI_sL, wI_sP, wL_sI, wL_sP, wP_sI, wP_sL, wI_sI, wL_sL, Int32.reduceLT, Int32.reduceLE, true_implies, not_true_eq_false, false_implies, not_false_eq_true, i_10, na_1, nb_1, nm_1, ns_1, nr_1, na_2, nb_2, nm_2, ns_2, nr_2, na_3, nb_3, nm_3, ns_3, nr_3, na_4, nb_4, nm_4, ns_4, nr_4, na_5, nb_5, nm_5, ns_5, nr_5, na_6, nb_6, nm_6, ns_6, nr_6, na_7, nb_7, nm_7, ns_7, nr_7, na_8, nb_8, nm_8, ns_8, nr_8, na_10, nb_10, nm_10, ns_10, nr_10, na_16, nb_16, nm_16, ns_16, nr_16, nl_m1, ni_add, ni_mul, ni_sub, ni_cl, ni_in, vp_0, vp_1, vp_2, vp_3, vp_4, vp_5, Int32.reduceToNatClampNeg, i1, z4]
        simp (disch := omega) only [vX11_scan_88, vX11_scan_91, pI_c, pL_c, pF_c, pD_c, pA_n, pA_c, pA_rf, pR_c, pR_rf, pV_i, pV_a, pV_n, pV_rf, ldI_c, ldL_c, ldF_c, ldD_c, ldA_c, ldA_n, ldA_rf, dup2_l, dup2_ia, dup2_ir, popA_0, popA_s, getL_z, getL_s, setL_z, setL_1, setL_s, setL2_z, setL2_1, setL2_s, drop2_i, drop2_a, drop2_0, drop2_n, drop2_l, drop2_d, drop2_r, cwd_0, cwd_i, cwd_a, cwd_n, cwd_l, cwd_d, cwd_f, cwd_r, rf_s, rf_n, swi_0, swi_s, zR_b0, zR_b1, zN_b0, zN_b1, entV_i, entV_a, entV_n, entV_r, entV_f, entV_l, entV_d, entV_s, entV_0, List.length_cons, List.length_nil, List.nil_append, List.cons_append, true_and, and_true, Nat.reduceAdd, Nat.reduceLT, Nat.reduceEqDiff, Nat.reduceLeDiff, Nat.reduceSub, Nat.zero_add, Classical.not_not, ex_i, ex_l, ex_d, ex_r, ex_rs, ex_rn, ex_sm, Nat.sub_zero, eq_self, wn_sI, wn_sL, wn_sP, wsh_sI, wsh_sL, wsh_sP, wI_sL, wI_sP, wL_sI, wL_sP, wP_sI, wP_sL, wI_sI, wL_sL, Int32.reduceLT, Int32.reduceLE, true_implies, not_true_eq_false, false_implies, not_false_eq_true, i_10, na_1, nb_1, nm_1, ns_1, nr_1, na_2, nb_2, nm_2, ns_2, nr_2, na_3, nb_3, nm_3, ns_3, nr_3, na_4, nb_4, nm_4, ns_4, nr_4, na_5, nb_5, nm_5, ns_5, nr_5, na_6, nb_6, nm_6, ns_6, nr_6, na_7, nb_7, nm_7, ns_7, nr_7, na_8, nb_8, nm_8, ns_8, nr_8, na_10, nb_10, nm_10, ns_10, nr_10, na_16, nb_16, nm_16, ns_16, nr_16, nl_m1, ni_add, ni_mul, ni_sub, ni_cl, ni_in, vp_0, vp_1, vp_2, vp_3, vp_4, vp_5, Int32.reduceToNatClampNeg]
        refine ih c1 (c + 1) (t + 1) w1 (by omega) y2 (by omega) (by omega) (hI.sc S1) e12' fun w' t' S2 => ?_
        have := hK w' t' (S1.tr S2)
        rw [show c + ((scn (frmAt s) u d c1).1 + 1) = c + 1 + (scn (frmAt s) u d c1).1 by omega] at this
        exact this
set_option maxRecDepth 100000 in
set_option maxHeartbeats 4000000 in
theorem X_scan {g : Ge} {w : Wd} {k n : Nat} {K : Int32 → Wd → Nat → Nat → Prop} {x : Nat} {s : St} (hI : CI g x w s) (hk : 1000 ≤ k) (hn : 14000 ≤ n) (a : Int32) (h : ∀ ans w', Xo g x w w' → (∀ b s', SpScan s a b s' → b = ans ∧ AbsX x w' s') → K ans w' (k - 1000) (n - 14000)) : cI g mX11_scan [.ref x, .int a] w k n K := by
  obtain ⟨hx, hC, hW, hw, hA⟩ := id hI
  obtain ⟨u, hu, e1, e2, e3⟩ := hA.wire
  have s0 : (0 : Int32) = nI 0 := rfl
  refine cI_of 6 1000 14000 rfl (by decide +kernel) rfl (Nat.le_of_ble_eq_true rfl) hk hn ?_
  have no : ¬ (0 ≤ a ∧ a ≤ 2) → K (-1) w (k - 1000) (n - 14000) := fun q => SpNo hI h fun b s' z => by unfold SpScan at z; rw [if_pos q] at z; exact z
  have go : (0 ≤ a ∧ a ≤ 2) → R g mX11_scan (fun r w' => ∃ i, r = some (.int i) ∧ K i w' (k - 1000) (n - 14000)) 11 [some (.ref x), some (.int a), none, none, none, none] [] w 1000 14000 := by
    intro q
    simp (disch := omega) only [vX11_scan_11, vX11_scan_12, vX11_scan_13, vX11_scan_14, vX11_scan_15, vX11_scan_16, vX11_scan_18, vX11_scan_19, pI_c, pL_c, pF_c, pD_c, pA_n, pA_c, pA_rf, pR_c, pR_rf, pV_i, pV_a, pV_n, pV_rf, ldI_c, ldL_c, ldF_c, ldD_c, ldA_c, ldA_n, ldA_rf, dup2_l, dup2_ia, dup2_ir, popA_0, popA_s, getL_z, getL_s, setL_z, setL_1, setL_s, setL2_z, setL2_1, setL2_s, drop2_i, drop2_a, drop2_0, drop2_n, drop2_l, drop2_d, drop2_r, cwd_0, cwd_i, cwd_a, cwd_n, cwd_l, cwd_d, cwd_f, cwd_r, rf_s, rf_n, swi_0, swi_s, zR_b0, zR_b1, zN_b0, zN_b1, entV_i, entV_a, entV_n, entV_r, entV_f, entV_l, entV_d, entV_s, entV_0, List.length_cons, List.length_nil, List.nil_append, List.cons_append, true_and, and_true, Nat.reduceAdd, Nat.reduceLT, Nat.reduceEqDiff, Nat.reduceLeDiff, Nat.reduceSub, Nat.zero_add, Classical.not_not, ex_i, ex_l, ex_d, ex_r, ex_rs, ex_rn, ex_sm, Nat.sub_zero, eq_self, wn_sI, wn_sL, wn_sP, wsh_sI, wsh_sL, wsh_sP, wI_sL, wI_sP, wL_sI, wL_sP, wP_sI, wP_sL, wI_sI, wL_sL, Int32.reduceLT, Int32.reduceLE, true_implies, not_true_eq_false, false_implies, not_false_eq_true, i_10]
    rw [s0]
    refine X_scan_loop e2 hu u 0 0 0 w (by omega) (by omega) (by omega) (by omega) hI e1 fun w1 t' S1 => ?_
    have fin : ∀ ans, ans = (if a = 0 then nI (scn (frmAt s) u u 0).1 else if a = 1 then nI (scn (frmAt s) u u 0).2.1 else nI (scn (frmAt s) u u 0).2.2) → K ans w1 (k - 1000) (n - 14000) := fun ans ea => sc_end hI S1 h fun b s' z => by
      unfold SpScan at z
      rw [if_neg (not_not_intro q), e2, ni_cl (by omega)] at z
      exact ⟨z.1.trans ea.symm, z.2⟩
    rw [Nat.zero_add]
    simp (disch := omega) only [vX11_scan_94, vX11_scan_95, vX11_scan_98, vX11_scan_99, vX11_scan_100, vX11_scan_101, vX11_scan_102, vX11_scan_105, vX11_scan_106, vX11_scan_109, vX11_scan_111, pI_c, pL_c, pF_c, pD_c, pA_n, pA_c, pA_rf, pR_c, pR_rf, pV_i, pV_a, pV_n, pV_rf, ldI_c, ldL_c, ldF_c, ldD_c, ldA_c, ldA_n, ldA_rf, dup2_l, dup2_ia, dup2_ir, popA_0, popA_s, getL_z, getL_s, setL_z, setL_1, setL_s, setL2_z, setL2_1, setL2_s, drop2_i, drop2_a, drop2_0, drop2_n, drop2_l, drop2_d, drop2_r, cwd_0, cwd_i, cwd_a, cwd_n, cwd_l, cwd_d, cwd_f, cwd_r, rf_s, rf_n, swi_0, swi_s, zR_b0, zR_b1, zN_b0, zN_b1, entV_i, entV_a, entV_n, entV_r, entV_f, entV_l, entV_d, entV_s, entV_0, List.length_cons, List.length_nil, List.nil_append, List.cons_append, true_and, and_true, Nat.reduceAdd, Nat.reduceLT, Nat.reduceEqDiff, Nat.reduceLeDiff, Nat.reduceSub, Nat.zero_add, Classical.not_not, ex_i, ex_l, ex_d, ex_r, ex_rs, ex_rn, ex_sm, Nat.sub_zero, eq_self, wn_sI, wn_sL, wn_sP, wsh_sI, wsh_sL, wsh_sP, wI_sL, wI_sP, wL_sI, wL_sP, wP_sI, wP_sL, wI_sI, wL_sL, Int32.reduceLT, Int32.reduceLE, true_implies, not_true_eq_false, false_implies, not_false_eq_true, i_10]
    refine ⟨fun q0 => ?_, fun q0 => ?_⟩
    · rw [if_neg q0] at fin
      refine ⟨fun q1 => ?_, fun q1 => ?_⟩
      · rw [if_neg q1] at fin
        exact fin _ rfl
      · rw [if_pos q1] at fin
        exact fin _ rfl
    · rw [if_pos q0] at fin
      exact fin _ rfl
  simp (disch := omega) only [vX11_scan_0, vX11_scan_1, vX11_scan_4, vX11_scan_5, vX11_scan_6, vX11_scan_9, vX11_scan_10, pI_c, pL_c, pF_c, pD_c, pA_n, pA_c, pA_rf, pR_c, pR_rf, pV_i, pV_a, pV_n, pV_rf, ldI_c, ldL_c, ldF_c, ldD_c, ldA_c, ldA_n, ldA_rf, dup2_l, dup2_ia, dup2_ir, popA_0, popA_s, getL_z, getL_s, setL_z, setL_1, setL_s, setL2_z, setL2_1, setL2_s, drop2_i, drop2_a, drop2_0, drop2_n, drop2_l, drop2_d, drop2_r, cwd_0, cwd_i, cwd_a, cwd_n, cwd_l, cwd_d, cwd_f, cwd_r, rf_s, rf_n, swi_0, swi_s, zR_b0, zR_b1, zN_b0, zN_b1, entV_i, entV_a, entV_n, entV_r, entV_f, entV_l, entV_d, entV_s, entV_0, List.length_cons, List.length_nil, List.nil_append, List.cons_append, true_and, and_true, Nat.reduceAdd, Nat.reduceLT, Nat.reduceEqDiff, Nat.reduceLeDiff, Nat.reduceSub, Nat.zero_add, Classical.not_not, ex_i, ex_l, ex_d, ex_r, ex_rs, ex_rn, ex_sm, Nat.sub_zero, eq_self, wn_sI, wn_sL, wn_sP, wsh_sI, wsh_sL, wsh_sP, wI_sL, wI_sP, wL_sI, wL_sP, wP_sI, wP_sL, wI_sI, wL_sL, Int32.reduceLT, Int32.reduceLE, true_implies, not_true_eq_false, false_implies, not_false_eq_true, i_10]
  refine ⟨fun q => no fun z => absurd q (Int32.not_lt.mpr z.1), fun q => ⟨fun q2 => go ⟨Int32.not_lt.mp q, q2⟩, fun q2 => no fun z => q2 z.2⟩⟩
