/-! the class: versions -/
/-- a field's object -/
def FldO (w : Wd) (d : Nat) (s : St) (f : Nat) : Prop := wsh w d = (1, 0) ∧ ∀ j, j < 6 → wI w d j = s.1 (7 + j) f
/-- a version's object: a its address, c its fields' row, n how many -/
def VerO (b : Nat) (w : Wd) (a c n v : Nat) (s : St) : Prop := 0 < n ∧ s.1 6 v = nI n ∧ VerW n (fun j k => s.1 (7 + j) (8 * v + k)) ∧ b ≤ a ∧ wsh w a = (10, 0) ∧ wI w a 1 = nI n ∧ b ≤ c ∧ wP w a 0 = some c ∧ wsh w c = (106, 8) ∧ ∀ k, k < n → ∃ d, b ≤ d ∧ wP w c k = some d ∧ FldO w d s (8 * v + k)
theorem AbsX.ver {x : Nat} {w : Wd} {s : St} (h : AbsX x w s) {v : Nat} (hv : v < 6) : (s.1 6 v = 0 ∧ wP w (x + 2) v = none) ∨ ∃ a c n, wP w (x + 2) v = some a ∧ VerO (x + 81) w a c n v s := by
  rcases h.vers v hv with z | ⟨a, n, h1, h2, h3, h4, ⟨g1, g2, g3, c, g4, g5, g6, g7⟩⟩
  · exact Or.inl z
  · exact Or.inr ⟨a, c, n, h3, h1, h2, h4, g1, g2, g3, g4, g5, g6, g7⟩
theorem AbsX.VW {x : Nat} {w : Wd} {s : St} (h : AbsX x w s) : VW s := fun v hv => by
  rcases h.ver hv with z | ⟨a, c, n, -, h1, h2, h3, -⟩
  · exact Or.inl z.1
  · exact Or.inr ⟨n, h1, h2, h3⟩
def lackV (s : St) (a : Int32) : Int32 := if ¬ (0 ≤ a ∧ a ≤ 5) then -1 else if s.1 6 a.toNatClampNeg = 0 then -3 else 0
set_option maxRecDepth 100000 in
set_option maxHeartbeats 4000000 in
theorem X11_lackOf_ok {g : Ge} {w : Wd} {k n : Nat} {K : Int32 → Wd → Nat → Nat → Prop} {x : Nat} {s : St} (hx : XS g x w) (hA : AbsX x w s) (a : Int32) (h : K (lackV s a) w k n) : cI g mX11_lackOf [.ref x, .int a] w k n K := by
  unfold lackV at h
  refine cI_of 2 0 0 rfl (by decide +kernel) rfl (Nat.le_of_ble_eq_true rfl) (Nat.zero_le _) (Nat.zero_le _) ?_
  simp only [vX11_lackOf_0, vX11_lackOf_1, pI_c, pL_c, pF_c, pD_c, pA_n, pA_c, pA_rf, pR_c, pR_rf, pV_i, pV_a, pV_n, pV_rf, ldI_c, ldL_c, ldF_c, ldD_c, ldA_c, ldA_n, ldA_rf, dup2_l, dup2_ia, dup2_ir, popA_0, popA_s, getL_z, getL_s, setL_z, setL_1, setL_s, setL2_z, setL2_1, setL2_s, drop2_i, drop2_a, drop2_0, drop2_n, drop2_l, drop2_d, drop2_r, cwd_0, cwd_i, cwd_a, cwd_n, cwd_l, cwd_d, cwd_f, cwd_r, rf_s, rf_n, swi_0, swi_s, zR_b0, zR_b1, zN_b0, zN_b1, entV_i, entV_a, entV_n, entV_r, entV_f, entV_l, entV_d, entV_s, entV_0, List.length_cons, List.length_nil, List.nil_append, List.cons_append, true_and, and_true, Nat.reduceAdd, Nat.reduceLT, Nat.reduceEqDiff, Nat.reduceLeDiff, Nat.reduceSub, Nat.zero_add, Classical.not_not, ex_i, ex_l, ex_d, ex_r, ex_rs, ex_rn, ex_sm, Nat.sub_zero, eq_self, wn_sI, wn_sL, wn_sP, wsh_sI, wsh_sL, wsh_sP, wI_sL, wI_sP, wL_sI, wL_sP, wP_sI, wP_sL, wI_sI, wL_sL, Int32.reduceLT, Int32.reduceLE, true_implies, not_true_eq_false, false_implies, not_false_eq_true, i_10]
  refine X11_isVersion_ok _ ?_
  by_cases ha : 0 ≤ a ∧ a ≤ 5
  · rw [if_neg (not_not_intro ha)] at h
    rw [b2i_t ha]
    obtain ⟨v, hv, rfl⟩ := i_nat (c := 5) (by decide) ha.1 ha.2
    rw [ni_cl (by omega)] at h
    rcases hA.ver (show v < 6 by omega) with ⟨z1, z2⟩ | ⟨p, c, nn, z1, z2, z3, -⟩
    · rw [if_pos z1] at h
      simp (disch := omega) only [vX11_lackOf_4, vX11_lackOf_7, vX11_lackOf_8, vX11_lackOf_9, vX11_lackOf_10, vX11_lackOf_13, vX11_lackOf_14, vX11_lackOf_15, vX11_lackOf_18, vX11_lackOf_20, vX11_lackOf_23, vX11_lackOf_24, xs_b hx, xs_0 hx, xs_obj hx, xs_versions hx, xp_x_1 hx, pI_c, pL_c, pF_c, pD_c, pA_n, pA_c, pA_rf, pR_c, pR_rf, pV_i, pV_a, pV_n, pV_rf, ldI_c, ldL_c, ldF_c, ldD_c, ldA_c, ldA_n, ldA_rf, dup2_l, dup2_ia, dup2_ir, popA_0, popA_s, getL_z, getL_s, setL_z, setL_1, setL_s, setL2_z, setL2_1, setL2_s, drop2_i, drop2_a, drop2_0, drop2_n, drop2_l, drop2_d, drop2_r, cwd_0, cwd_i, cwd_a, cwd_n, cwd_l, cwd_d, cwd_f, cwd_r, rf_s, rf_n, swi_0, swi_s, zR_b0, zR_b1, zN_b0, zN_b1, entV_i, entV_a, entV_n, entV_r, entV_f, entV_l, entV_d, entV_s, entV_0, List.length_cons, List.length_nil, List.nil_append, List.cons_append, true_and, and_true, Nat.reduceAdd, Nat.reduceLT, Nat.reduceEqDiff, Nat.reduceLeDiff, Nat.reduceSub, Nat.zero_add, Classical.not_not, ex_i, ex_l, ex_d, ex_r, ex_rs, ex_rn, ex_sm, Nat.sub_zero, eq_self, wn_sI, wn_sL, wn_sP, wsh_sI, wsh_sL, wsh_sP, wI_sL, wI_sP, wL_sI, wL_sP, wP_sI, wP_sL, wI_sI, wL_sL, Int32.reduceLT, Int32.reduceLE, true_implies, not_true_eq_false, false_implies, not_false_eq_true, i_10, na_1, nb_1, nm_1, ns_1, nr_1, na_2, nb_2, nm_2, ns_2, nr_2, na_3, nb_3, nm_3, ns_3, nr_3, na_4, nb_4, nm_4, ns_4, nr_4, na_5, nb_5, nm_5, ns_5, nr_5, na_6, nb_6, nm_6, ns_6, nr_6, na_7, nb_7, nm_7, ns_7, nr_7, na_8, nb_8, nm_8, ns_8, nr_8, na_10, nb_10, nm_10, ns_10, nr_10, na_16, nb_16, nm_16, ns_16, nr_16, nl_m1, ni_add, ni_mul, ni_sub, ni_cl, ni_in, vp_0, vp_1, vp_2, vp_3, vp_4, vp_5, Int32.reduceToNatClampNeg, z2]
      exact h
    · have hn8 : s.1 6 v ≠ 0 := fun z => by
        obtain ⟨m, m1, m2, m3⟩ := (hA.VW v (by omega)).resolve_left fun y => by
          rw [z3] at y
          have := hA.vers v (by omega)
          rcases this with ⟨q1, q2⟩ | ⟨a', n', h1, h2, h3, h4, -⟩
          · rw [q2] at z1; cases z1
          · rw [y] at z3
            exact nI_ne0 h1 (by have := h4.1; omega) (h2.symm.trans (by rw [z]))
        exact nI_ne0 m1 (by have := m3.1; omega) (m2.symm.trans z)
      rw [if_neg hn8] at h
      simp (disch := omega) only [vX11_lackOf_4, vX11_lackOf_7, vX11_lackOf_8, vX11_lackOf_9, vX11_lackOf_10, vX11_lackOf_13, vX11_lackOf_14, vX11_lackOf_15, vX11_lackOf_18, vX11_lackOf_20, vX11_lackOf_23, vX11_lackOf_24, xs_b hx, xs_0 hx, xs_obj hx, xs_versions hx, xp_x_1 hx, pI_c, pL_c, pF_c, pD_c, pA_n, pA_c, pA_rf, pR_c, pR_rf, pV_i, pV_a, pV_n, pV_rf, ldI_c, ldL_c, ldF_c, ldD_c, ldA_c, ldA_n, ldA_rf, dup2_l, dup2_ia, dup2_ir, popA_0, popA_s, getL_z, getL_s, setL_z, setL_1, setL_s, setL2_z, setL2_1, setL2_s, drop2_i, drop2_a, drop2_0, drop2_n, drop2_l, drop2_d, drop2_r, cwd_0, cwd_i, cwd_a, cwd_n, cwd_l, cwd_d, cwd_f, cwd_r, rf_s, rf_n, swi_0, swi_s, zR_b0, zR_b1, zN_b0, zN_b1, entV_i, entV_a, entV_n, entV_r, entV_f, entV_l, entV_d, entV_s, entV_0, List.length_cons, List.length_nil, List.nil_append, List.cons_append, true_and, and_true, Nat.reduceAdd, Nat.reduceLT, Nat.reduceEqDiff, Nat.reduceLeDiff, Nat.reduceSub, Nat.zero_add, Classical.not_not, ex_i, ex_l, ex_d, ex_r, ex_rs, ex_rn, ex_sm, Nat.sub_zero, eq_self, wn_sI, wn_sL, wn_sP, wsh_sI, wsh_sL, wsh_sP, wI_sL, wI_sP, wL_sI, wL_sP, wP_sI, wP_sL, wI_sI, wL_sL, Int32.reduceLT, Int32.reduceLE, true_implies, not_true_eq_false, false_implies, not_false_eq_true, i_10, na_1, nb_1, nm_1, ns_1, nr_1, na_2, nb_2, nm_2, ns_2, nr_2, na_3, nb_3, nm_3, ns_3, nr_3, na_4, nb_4, nm_4, ns_4, nr_4, na_5, nb_5, nm_5, ns_5, nr_5, na_6, nb_6, nm_6, ns_6, nr_6, na_7, nb_7, nm_7, ns_7, nr_7, na_8, nb_8, nm_8, ns_8, nr_8, na_10, nb_10, nm_10, ns_10, nr_10, na_16, nb_16, nm_16, ns_16, nr_16, nl_m1, ni_add, ni_mul, ni_sub, ni_cl, ni_in, vp_0, vp_1, vp_2, vp_3, vp_4, vp_5, Int32.reduceToNatClampNeg, z1, so_n, i_10]
      exact h
  · rw [if_pos ha] at h
    rw [b2i_f ha]
    simp only [vX11_lackOf_4, vX11_lackOf_7, vX11_lackOf_8, pI_c, pL_c, pF_c, pD_c, pA_n, pA_c, pA_rf, pR_c, pR_rf, pV_i, pV_a, pV_n, pV_rf, ldI_c, ldL_c, ldF_c, ldD_c, ldA_c, ldA_n, ldA_rf, dup2_l, dup2_ia, dup2_ir, popA_0, popA_s, getL_z, getL_s, setL_z, setL_1, setL_s, setL2_z, setL2_1, setL2_s, drop2_i, drop2_a, drop2_0, drop2_n, drop2_l, drop2_d, drop2_r, cwd_0, cwd_i, cwd_a, cwd_n, cwd_l, cwd_d, cwd_f, cwd_r, rf_s, rf_n, swi_0, swi_s, zR_b0, zR_b1, zN_b0, zN_b1, entV_i, entV_a, entV_n, entV_r, entV_f, entV_l, entV_d, entV_s, entV_0, List.length_cons, List.length_nil, List.nil_append, List.cons_append, true_and, and_true, Nat.reduceAdd, Nat.reduceLT, Nat.reduceEqDiff, Nat.reduceLeDiff, Nat.reduceSub, Nat.zero_add, Classical.not_not, ex_i, ex_l, ex_d, ex_r, ex_rs, ex_rn, ex_sm, Nat.sub_zero, eq_self, wn_sI, wn_sL, wn_sP, wsh_sI, wsh_sL, wsh_sP, wI_sL, wI_sP, wL_sI, wL_sP, wP_sI, wP_sL, wI_sI, wL_sL, Int32.reduceLT, Int32.reduceLE, true_implies, not_true_eq_false, false_implies, not_false_eq_true, i_10]
    exact h
theorem VerO.n8 {b a c n v : Nat} {w : Wd} {s : St} (h : VerO b w a c n v s) : n ≤ 8 := h.2.2.1.1
theorem VerO.nz {b a c n v : Nat} {w : Wd} {s : St} (h : VerO b w a c n v s) : ¬ s.1 6 v = 0 := by
  rw [h.2.1]
  exact nI_ne0 h.1 (by have := h.n8; omega)
theorem VerO.S {b a c n v : Nat} {w : Wd} {s : St} (h : VerO b w a c n v s) : VerS s v n := h.2.2.1.S h.2.1
theorem lackV_0 {s : St} {a : Int32} (h : lackV s a = 0) : ∃ v, v < 6 ∧ a = nI v ∧ ¬ s.1 6 v = 0 := by
  unfold lackV at h
  by_cases ha : 0 ≤ a ∧ a ≤ 5
  · rw [if_neg (not_not_intro ha)] at h
    obtain ⟨v, hv, rfl⟩ := i_nat (c := 5) (by decide) ha.1 ha.2
    rw [ni_cl (by omega)] at h
    by_cases q : s.1 6 v = 0
    · rw [if_pos q] at h; exact absurd h (by decide)
    · exact ⟨v, by omega, rfl, q⟩
  · rw [if_pos ha] at h; exact absurd h (by decide)
def ixI2 (o : Option Nat) : Int32 := match o with
  | none => -1
  | some j => nI j
set_option maxRecDepth 100000 in
set_option maxHeartbeats 4000000 in
theorem X10_place_loop {g : Ge} {x k0 n0 a c nn v : Nat} {sl : Int32} {s : St} {w : Wd} {K : Option Value → Wd → Prop} (hV : VerO x w a c nn v s) (hK : K (some (.int (ixI2 (fldIx (fun j => s.1 7 (8 * v + j)) sl nn 0)))) w) : ∀ (d j : Nat), j + d = nn → fldIx (fun j => s.1 7 (8 * v + j)) sl d j = fldIx (fun j => s.1 7 (8 * v + j)) sl nn 0 → R g mX10_placeOf K 2 [some (.ref a), some (.int sl), some (.int (nI j))] [] w k0 n0 := by
  have hn8 := hV.n8
  obtain ⟨h1, h2, h3, h4, h5, h6, h7, h8, h9, h10⟩ := hV
  intro d
  induction d with
  | zero =>
    intro j hj hF
    obtain rfl : j = nn := by omega
    simp (disch := omega) only [vX10_placeOf_2, vX10_placeOf_3, vX10_placeOf_4, vX10_placeOf_7, vX10_placeOf_31, vX10_placeOf_32, pI_c, pL_c, pF_c, pD_c, pA_n, pA_c, pA_rf, pR_c, pR_rf, pV_i, pV_a, pV_n, pV_rf, ldI_c, ldL_c, ldF_c, ldD_c, ldA_c, ldA_n, ldA_rf, dup2_l, dup2_ia, dup2_ir, popA_0, popA_s, getL_z, getL_s, setL_z, setL_1, setL_s, setL2_z, setL2_1, setL2_s, drop2_i, drop2_a, drop2_0, drop2_n, drop2_l, drop2_d, drop2_r, cwd_0, cwd_i, cwd_a, cwd_n, cwd_l, cwd_d, cwd_f, cwd_r, rf_s, rf_n, swi_0, swi_s, zR_b0, zR_b1, zN_b0, zN_b1, entV_i, entV_a, entV_n, entV_r, entV_f, entV_l, entV_d, entV_s, entV_0, List.length_cons, List.length_nil, List.nil_append, List.cons_append, true_and, and_true, Nat.reduceAdd, Nat.reduceLT, Nat.reduceEqDiff, Nat.reduceLeDiff, Nat.reduceSub, Nat.zero_add, Classical.not_not, ex_i, ex_l, ex_d, ex_r, ex_rs, ex_rn, ex_sm, Nat.sub_zero, eq_self, wn_sI, wn_sL, wn_sP, wsh_sI, wsh_sL, wsh_sP, wI_sL, wI_sP, wL_sI, wL_sP, wP_sI, wP_sL, wI_sI, wL_sL, Int32.reduceLT, Int32.reduceLE, true_implies, not_true_eq_false, false_implies, not_false_eq_true, i_10, ni_le, ni_lt, ni_eq, ni_le1, ni_le0, ni_eq0, ni_eq1, ni_eq2, ni_eq8, ni_eq9, h5, h6, Nat.le_refl]
    rw [← hF] at hK
    exact hK
  | succ d ih =>
    intro j hj hF
    have hlt : ¬ nn ≤ j := by omega
    obtain ⟨e, e1, e2, e3, e4⟩ := h10 j (by omega)
    have e40 : wI w e 0 = s.1 7 (8 * v + j) := e4 0 (by decide)
    simp (disch := omega) only [vX10_placeOf_2, vX10_placeOf_3, vX10_placeOf_4, vX10_placeOf_7, vX10_placeOf_10, vX10_placeOf_11, vX10_placeOf_14, vX10_placeOf_15, vX10_placeOf_16, vX10_placeOf_19, vX10_placeOf_20, pI_c, pL_c, pF_c, pD_c, pA_n, pA_c, pA_rf, pR_c, pR_rf, pV_i, pV_a, pV_n, pV_rf, ldI_c, ldL_c, ldF_c, ldD_c, ldA_c, ldA_n, ldA_rf, dup2_l, dup2_ia, dup2_ir, popA_0, popA_s, getL_z, getL_s, setL_z, setL_1, setL_s, setL2_z, setL2_1, setL2_s, drop2_i, drop2_a, drop2_0, drop2_n, drop2_l, drop2_d, drop2_r, cwd_0, cwd_i, cwd_a, cwd_n, cwd_l, cwd_d, cwd_f, cwd_r, rf_s, rf_n, swi_0, swi_s, zR_b0, zR_b1, zN_b0, zN_b1, entV_i, entV_a, entV_n, entV_r, entV_f, entV_l, entV_d, entV_s, entV_0, List.length_cons, List.length_nil, List.nil_append, List.cons_append, true_and, and_true, Nat.reduceAdd, Nat.reduceLT, Nat.reduceEqDiff, Nat.reduceLeDiff, Nat.reduceSub, Nat.zero_add, Classical.not_not, ex_i, ex_l, ex_d, ex_r, ex_rs, ex_rn, ex_sm, Nat.sub_zero, eq_self, wn_sI, wn_sL, wn_sP, wsh_sI, wsh_sL, wsh_sP, wI_sL, wI_sP, wL_sI, wL_sP, wP_sI, wP_sL, wI_sI, wL_sL, Int32.reduceLT, Int32.reduceLE, true_implies, not_true_eq_false, false_implies, not_false_eq_true, i_10, na_1, nb_1, nm_1, ns_1, nr_1, na_2, nb_2, nm_2, ns_2, nr_2, na_3, nb_3, nm_3, ns_3, nr_3, na_4, nb_4, nm_4, ns_4, nr_4, na_5, nb_5, nm_5, ns_5, nr_5, na_6, nb_6, nm_6, ns_6, nr_6, na_7, nb_7, nm_7, ns_7, nr_7, na_8, nb_8, nm_8, ns_8, nr_8, na_10, nb_10, nm_10, ns_10, nr_10, na_16, nb_16, nm_16, ns_16, nr_16, nl_m1, ni_add, ni_mul, ni_sub, ni_cl, ni_in, vp_0, vp_1, vp_2, vp_3, vp_4, vp_5, Int32.reduceToNatClampNeg, ni_le, ni_lt, ni_eq, ni_le1, ni_le0, ni_eq0, ni_eq1, ni_eq2, ni_eq8, ni_eq9, h5, h6, h8, h9, hlt, e2, e3, e40]
    replace hF : (if s.1 7 (8 * v + j) = sl then some j else fldIx (fun j => s.1 7 (8 * v + j)) sl d (j + 1)) = fldIx (fun j => s.1 7 (8 * v + j)) sl nn 0 := hF
    refine ⟨fun q => ?_, fun q => ?_⟩
    · rw [if_neg q] at hF
      simp (disch := omega) only [vX10_placeOf_25, vX10_placeOf_28, pI_c, pL_c, pF_c, pD_c, pA_n, pA_c, pA_rf, pR_c, pR_rf, pV_i, pV_a, pV_n, pV_rf, ldI_c, ldL_c, ldF_c, ldD_c, ldA_c, ldA_n, ldA_rf, dup2_l, dup2_ia, dup2_ir, popA_0, popA_s, getL_z, getL_s, setL_z, setL_1, setL_s, setL2_z, setL2_1, setL2_s, drop2_i, drop2_a, drop2_0, drop2_n, drop2_l, drop2_d, drop2_r, cwd_0, cwd_i, cwd_a, cwd_n, cwd_l, cwd_d, cwd_f, cwd_r, rf_s, rf_n, swi_0, swi_s, zR_b0, zR_b1, zN_b0, zN_b1, entV_i, entV_a, entV_n, entV_r, entV_f, entV_l, entV_d, entV_s, entV_0, List.length_cons, List.length_nil, List.nil_append, List.cons_append, true_and, and_true, Nat.reduceAdd, Nat.reduceLT, Nat.reduceEqDiff, Nat.reduceLeDiff, Nat.reduceSub, Nat.zero_add, Classical.not_not, ex_i, ex_l, ex_d, ex_r, ex_rs, ex_rn, ex_sm, Nat.sub_zero, eq_self, wn_sI, wn_sL, wn_sP, wsh_sI, wsh_sL, wsh_sP, wI_sL, wI_sP, wL_sI, wL_sP, wP_sI, wP_sL, wI_sI, wL_sL, Int32.reduceLT, Int32.reduceLE, true_implies, not_true_eq_false, false_implies, not_false_eq_true, i_10, na_1, nb_1, nm_1, ns_1, nr_1, na_2, nb_2, nm_2, ns_2, nr_2, na_3, nb_3, nm_3, ns_3, nr_3, na_4, nb_4, nm_4, ns_4, nr_4, na_5, nb_5, nm_5, ns_5, nr_5, na_6, nb_6, nm_6, ns_6, nr_6, na_7, nb_7, nm_7, ns_7, nr_7, na_8, nb_8, nm_8, ns_8, nr_8, na_10, nb_10, nm_10, ns_10, nr_10, na_16, nb_16, nm_16, ns_16, nr_16, nl_m1, ni_add, ni_mul, ni_sub, ni_cl, ni_in, vp_0, vp_1, vp_2, vp_3, vp_4, vp_5, Int32.reduceToNatClampNeg]
      exact ih (j + 1) (by omega) hF
    · rw [if_pos q] at hF
      rw [← hF] at hK
      simp (disch := omega) only [vX10_placeOf_23, vX10_placeOf_24, pI_c, pL_c, pF_c, pD_c, pA_n, pA_c, pA_rf, pR_c, pR_rf, pV_i, pV_a, pV_n, pV_rf, ldI_c, ldL_c, ldF_c, ldD_c, ldA_c, ldA_n, ldA_rf, dup2_l, dup2_ia, dup2_ir, popA_0, popA_s, getL_z, getL_s, setL_z, setL_1, setL_s, setL2_z, setL2_1, setL2_s, drop2_i, drop2_a, drop2_0, drop2_n, drop2_l, drop2_d, drop2_r, cwd_0, cwd_i, cwd_a, cwd_n, cwd_l, cwd_d, cwd_f, cwd_r, rf_s, rf_n, swi_0, swi_s, zR_b0, zR_b1, zN_b0, zN_b1, entV_i, entV_a, entV_n, entV_r, entV_f, entV_l, entV_d, entV_s, entV_0, List.length_cons, List.length_nil, List.nil_append, List.cons_append, true_and, and_true, Nat.reduceAdd, Nat.reduceLT, Nat.reduceEqDiff, Nat.reduceLeDiff, Nat.reduceSub, Nat.zero_add, Classical.not_not, ex_i, ex_l, ex_d, ex_r, ex_rs, ex_rn, ex_sm, Nat.sub_zero, eq_self, wn_sI, wn_sL, wn_sP, wsh_sI, wsh_sL, wsh_sP, wI_sL, wI_sP, wL_sI, wL_sP, wP_sI, wP_sL, wI_sI, wL_sL, Int32.reduceLT, Int32.reduceLE, true_implies, not_true_eq_false, false_implies, not_false_eq_true, i_10]
      exact hK
set_option maxRecDepth 100000 in
set_option maxHeartbeats 4000000 in
theorem X10_placeOf_ok {g : Ge} {w : Wd} {k n : Nat} {K : Int32 → Wd → Nat → Nat → Prop} {x a c nn v : Nat} {s : St} (hV : VerO x w a c nn v s) (sl : Int32) (h : K (ixI2 (fldIx (fun j => s.1 7 (8 * v + j)) sl nn 0)) w k n) : cI g mX10_placeOf [.ref a, .int sl] w k n K := by
  refine cI_of 3 0 0 rfl (by decide +kernel) rfl (Nat.le_of_ble_eq_true rfl) (Nat.zero_le _) (Nat.zero_le _) ?_
  simp only [vX10_placeOf_0, vX10_placeOf_1, pI_c, pL_c, pF_c, pD_c, pA_n, pA_c, pA_rf, pR_c, pR_rf, pV_i, pV_a, pV_n, pV_rf, ldI_c, ldL_c, ldF_c, ldD_c, ldA_c, ldA_n, ldA_rf, dup2_l, dup2_ia, dup2_ir, popA_0, popA_s, getL_z, getL_s, setL_z, setL_1, setL_s, setL2_z, setL2_1, setL2_s, drop2_i, drop2_a, drop2_0, drop2_n, drop2_l, drop2_d, drop2_r, cwd_0, cwd_i, cwd_a, cwd_n, cwd_l, cwd_d, cwd_f, cwd_r, rf_s, rf_n, swi_0, swi_s, zR_b0, zR_b1, zN_b0, zN_b1, entV_i, entV_a, entV_n, entV_r, entV_f, entV_l, entV_d, entV_s, entV_0, List.length_cons, List.length_nil, List.nil_append, List.cons_append, true_and, and_true, Nat.reduceAdd, Nat.reduceLT, Nat.reduceEqDiff, Nat.reduceLeDiff, Nat.reduceSub, Nat.zero_add, Classical.not_not, ex_i, ex_l, ex_d, ex_r, ex_rs, ex_rn, ex_sm, Nat.sub_zero, eq_self, wn_sI, wn_sL, wn_sP, wsh_sI, wsh_sL, wsh_sP, wI_sL, wI_sP, wL_sI, wL_sP, wP_sI, wP_sL, wI_sI, wL_sL, Int32.reduceLT, Int32.reduceLE, true_implies, not_true_eq_false, false_implies, not_false_eq_true, i_10]
  exact X10_place_loop hV ⟨_, rfl, h⟩ nn 0 (by omega) rfl
theorem FldO.z {w : Wd} {d f : Nat} {s : St} (h : FldO w d s f) (hF : FldW (fun j => s.1 (7 + j) f)) : ∃ nd td : Nat, nd ≤ 1 ∧ td ≤ 1 ∧ s.1 10 f = nI nd ∧ s.1 11 f = nI td := by
  obtain ⟨sl, kd, c, nd, td, a1, a2, a3, a4, a5, f0, f1, f2, f3, f4, -⟩ := hF
  exact ⟨nd, td, a4, a5, f3, f4⟩
set_option maxRecDepth 100000 in
set_option maxHeartbeats 4000000 in
theorem X1_tell_ok {g : Ge} {w : Wd} {k n : Nat} {K : Int32 → Wd → Nat → Nat → Prop} {d f : Nat} {s : St} (h1 : FldO w d s f) (hF : FldW (fun j => s.1 (7 + j) f)) (x : Int32) (h : K (fldV s f x) w k n) : cI g mX1_tell [.ref d, .int x] w k n K := by
  obtain ⟨nd, td, n1, t1, e10, e11⟩ := h1.z hF
  obtain ⟨p, q⟩ := h1
  have e0 : wI w d 0 = s.1 7 f := q 0 (by decide)
  have e1 : wI w d 1 = s.1 8 f := q 1 (by decide)
  have e2 : wI w d 2 = s.1 9 f := q 2 (by decide)
  have e3 : wI w d 3 = s.1 10 f := q 3 (by decide)
  have e4 : wI w d 4 = s.1 11 f := q 4 (by decide)
  have e5 : wI w d 5 = s.1 12 f := q 5 (by decide)
  have b01 : ∀ m, m ≤ 1 → (nI m = 0 ∧ nI m ≠ 1) ∨ (nI m = 1 ∧ nI m ≠ 0) := fun m hm => by
    rcases (show m = 0 ∨ m = 1 by omega) with rfl | rfl
    · exact Or.inl ⟨rfl, by decide⟩
    · exact Or.inr ⟨rfl, by decide⟩
  have c10 : (s.1 10 f = 0 ∧ s.1 10 f ≠ 1) ∨ (s.1 10 f = 1 ∧ s.1 10 f ≠ 0) := by rw [e10]; exact b01 nd n1
  have c11 : (s.1 11 f = 0 ∧ s.1 11 f ≠ 1) ∨ (s.1 11 f = 1 ∧ s.1 11 f ≠ 0) := by rw [e11]; exact b01 td t1
  unfold fldV at h
  refine cI_of 2 0 0 rfl (by decide +kernel) rfl (Nat.le_of_ble_eq_true rfl) (Nat.zero_le _) (Nat.zero_le _) ?_
  simp only [vX1_tell_0, vX1_tell_1, vX1_tell_36, vX1_tell_37, vX1_tell_40, vX1_tell_41, vX1_tell_42, vX1_tell_45, vX1_tell_46, vX1_tell_47, vX1_tell_50, vX1_tell_51, vX1_tell_52, vX1_tell_55, vX1_tell_58, vX1_tell_59, vX1_tell_62, vX1_tell_63, vX1_tell_64, vX1_tell_65, vX1_tell_68, vX1_tell_71, vX1_tell_72, vX1_tell_75, vX1_tell_76, vX1_tell_77, vX1_tell_78, vX1_tell_81, vX1_tell_84, vX1_tell_85, vX1_tell_88, vX1_tell_91, vX1_tell_93, pI_c, pL_c, pF_c, pD_c, pA_n, pA_c, pA_rf, pR_c, pR_rf, pV_i, pV_a, pV_n, pV_rf, ldI_c, ldL_c, ldF_c, ldD_c, ldA_c, ldA_n, ldA_rf, dup2_l, dup2_ia, dup2_ir, popA_0, popA_s, getL_z, getL_s, setL_z, setL_1, setL_s, setL2_z, setL2_1, setL2_s, drop2_i, drop2_a, drop2_0, drop2_n, drop2_l, drop2_d, drop2_r, cwd_0, cwd_i, cwd_a, cwd_n, cwd_l, cwd_d, cwd_f, cwd_r, rf_s, rf_n, swi_0, swi_s, zR_b0, zR_b1, zN_b0, zN_b1, entV_i, entV_a, entV_n, entV_r, entV_f, entV_l, entV_d, entV_s, entV_0, List.length_cons, List.length_nil, List.nil_append, List.cons_append, true_and, and_true, Nat.reduceAdd, Nat.reduceLT, Nat.reduceEqDiff, Nat.reduceLeDiff, Nat.reduceSub, Nat.zero_add, Classical.not_not, ex_i, ex_l, ex_d, ex_r, ex_rs, ex_rn, ex_sm, Nat.sub_zero, eq_self, wn_sI, wn_sL, wn_sP, wsh_sI, wsh_sL, wsh_sP, wI_sL, wI_sP, wL_sI, wL_sP, wP_sI, wP_sL, wI_sI, wL_sL, Int32.reduceLT, Int32.reduceLE, true_implies, not_true_eq_false, false_implies, not_false_eq_true, i_10, p, e0, e1, e2, e3, e4, e5]
  refine ⟨fun q => ?_, fun q0 => ⟨fun q => ?_, fun q1 => ⟨fun q => ?_, fun q2 => ⟨fun q => ?_, fun q3 => ⟨fun q => ?_, fun q4 => ?_⟩⟩⟩⟩⟩
  · rw [if_pos q] at h; exact h
  · rw [if_neg q0, if_pos q] at h; exact h
  · rw [if_neg q0, if_neg q1, if_pos q] at h; exact h
  · rw [if_neg q0, if_neg q1, if_neg q2, if_pos q] at h
    rcases c10 with ⟨y, -⟩ | ⟨y, -⟩
    · rw [y] at h; exact ⟨fun _ => h, fun z => absurd y z⟩
    · rw [y] at h; exact ⟨fun z => by rw [y] at z; exact absurd z (by decide), fun _ => h⟩
  · rw [if_neg q0, if_neg q1, if_neg q2, if_neg q3, if_pos q] at h
    rcases c11 with ⟨y, -⟩ | ⟨y, -⟩
    · rw [y] at h; exact ⟨fun _ => h, fun z => absurd y z⟩
    · rw [y] at h; exact ⟨fun z => by rw [y] at z; exact absurd z (by decide), fun _ => h⟩
  · rw [if_neg q0, if_neg q1, if_neg q2, if_neg q3, if_neg q4] at h
    rcases c11 with ⟨y, y1⟩ | ⟨y, y1⟩
    · rw [if_neg y1] at h; exact ⟨fun _ => h, fun z => absurd y z⟩
    · rw [if_pos y] at h; exact ⟨fun z => absurd z y1, fun _ => h⟩
theorem lt_le5b (v : Int32) : (¬ v < 0 ∧ v ≤ 5) ↔ (0 ≤ v ∧ v ≤ 5) := by rw [Int32.not_lt]
set_option maxRecDepth 100000 in
set_option maxHeartbeats 4000000 in
theorem X_field {g : Ge} {w : Wd} {k n : Nat} {K : Int32 → Wd → Nat → Nat → Prop} {x : Nat} {s : St} (hI : CI g x w s) (hk : 1000 ≤ k) (hn : 14000 ≤ n) (a f v : Int32) (h : ∀ ans w', Xo g x w w' → (∀ c s', SpField s a f v c s' → c = ans ∧ AbsX x w' s') → K ans w' (k - 1000) (n - 14000)) : cI g mX11_field [.ref x, .int a, .int f, .int v] w k n K := by
  obtain ⟨hx, hC, hW, hw, hA⟩ := id hI
  have fin : ∀ ans, ans = (if ¬ (0 ≤ v ∧ v ≤ 5) then -1 else if ¬ 0 ≤ nofl s a f then nofl s a f else fldV s (8 * a.toNatClampNeg + f.toNatClampNeg) v) → K ans w (k - 1000) (n - 14000) := fun ans e => SpNo hI h fun b s' z => ⟨z.1.trans e.symm, z.2⟩
  clear h
  have m1 : ¬ (0 : Int32) ≤ -1 := by decide
  have no : ¬ ((0 ≤ a ∧ a ≤ 5) ∧ 0 ≤ f ∧ f ≤ 7) ∨ ¬ (0 ≤ v ∧ v ≤ 5) → K (-1) w (k - 1000) (n - 14000) := fun q => fin _ (by
    by_cases hv : 0 ≤ v ∧ v ≤ 5
    · have hq := q.resolve_right (not_not_intro hv)
      unfold nofl
      rw [if_neg (not_not_intro hv), if_pos hq, if_pos m1]
    · rw [if_pos hv])
  refine cI_of 5 1000 14000 rfl (by decide +kernel) rfl (Nat.le_of_ble_eq_true rfl) hk hn ?_
  simp only [vX11_field_0, vX11_field_1, pI_c, pL_c, pF_c, pD_c, pA_n, pA_c, pA_rf, pR_c, pR_rf, pV_i, pV_a, pV_n, pV_rf, ldI_c, ldL_c, ldF_c, ldD_c, ldA_c, ldA_n, ldA_rf, dup2_l, dup2_ia, dup2_ir, popA_0, popA_s, getL_z, getL_s, setL_z, setL_1, setL_s, setL2_z, setL2_1, setL2_s, drop2_i, drop2_a, drop2_0, drop2_n, drop2_l, drop2_d, drop2_r, cwd_0, cwd_i, cwd_a, cwd_n, cwd_l, cwd_d, cwd_f, cwd_r, rf_s, rf_n, swi_0, swi_s, zR_b0, zR_b1, zN_b0, zN_b1, entV_i, entV_a, entV_n, entV_r, entV_f, entV_l, entV_d, entV_s, entV_0, List.length_cons, List.length_nil, List.nil_append, List.cons_append, true_and, and_true, Nat.reduceAdd, Nat.reduceLT, Nat.reduceEqDiff, Nat.reduceLeDiff, Nat.reduceSub, Nat.zero_add, Classical.not_not, ex_i, ex_l, ex_d, ex_r, ex_rs, ex_rn, ex_sm, Nat.sub_zero, eq_self, wn_sI, wn_sL, wn_sP, wsh_sI, wsh_sL, wsh_sP, wI_sL, wI_sP, wL_sI, wL_sP, wP_sI, wP_sL, wI_sI, wL_sL, Int32.reduceLT, Int32.reduceLE, true_implies, not_true_eq_false, false_implies, not_false_eq_true, i_10]
  refine X11_isVersion_ok _ ?_
  by_cases ha : 0 ≤ a ∧ a ≤ 5
  · rw [b2i_t ha]
    simp only [vX11_field_4, vX11_field_7, vX11_field_8, vX11_field_11, vX11_field_12, vX11_field_14, vX11_field_17, vX11_field_18, vX11_field_21, vX11_field_22, vX11_field_23, vX11_field_26, vX11_field_27, pI_c, pL_c, pF_c, pD_c, pA_n, pA_c, pA_rf, pR_c, pR_rf, pV_i, pV_a, pV_n, pV_rf, ldI_c, ldL_c, ldF_c, ldD_c, ldA_c, ldA_n, ldA_rf, dup2_l, dup2_ia, dup2_ir, popA_0, popA_s, getL_z, getL_s, setL_z, setL_1, setL_s, setL2_z, setL2_1, setL2_s, drop2_i, drop2_a, drop2_0, drop2_n, drop2_l, drop2_d, drop2_r, cwd_0, cwd_i, cwd_a, cwd_n, cwd_l, cwd_d, cwd_f, cwd_r, rf_s, rf_n, swi_0, swi_s, zR_b0, zR_b1, zN_b0, zN_b1, entV_i, entV_a, entV_n, entV_r, entV_f, entV_l, entV_d, entV_s, entV_0, List.length_cons, List.length_nil, List.nil_append, List.cons_append, true_and, and_true, Nat.reduceAdd, Nat.reduceLT, Nat.reduceEqDiff, Nat.reduceLeDiff, Nat.reduceSub, Nat.zero_add, Classical.not_not, ex_i, ex_l, ex_d, ex_r, ex_rs, ex_rn, ex_sm, Nat.sub_zero, eq_self, wn_sI, wn_sL, wn_sP, wsh_sI, wsh_sL, wsh_sP, wI_sL, wI_sP, wL_sI, wL_sP, wP_sI, wP_sL, wI_sI, wL_sL, Int32.reduceLT, Int32.reduceLE, true_implies, not_true_eq_false, false_implies, not_false_eq_true, i_10, i_10]
    refine ⟨fun q => no (Or.inl fun z => absurd q (Int32.not_lt.mpr z.2.1)), fun q => ⟨fun q2 => no (Or.inl fun z => ?_), fun q2 => ⟨fun q3 => no (Or.inr fun z => absurd q3 (Int32.not_lt.mpr z.1)), fun q3 => ⟨fun q4 => ?_, fun q4 => no (Or.inr fun z => q4 z.2)⟩⟩⟩⟩
    · exact ((lt_le7 f).mpr z.2).2 q2
    · have hf := (lt_le7 f).mp ⟨q, q2⟩
      have hv : 0 ≤ v ∧ v ≤ 5 := ⟨Int32.not_lt.mp q3, q4⟩
      obtain ⟨u, hu, rfl⟩ := i_nat (c := 5) (by decide) ha.1 ha.2
      obtain ⟨j, hj, rfl⟩ := i_nat (c := 7) (by decide) hf.1 hf.2
      unfold nofl at fin
      simp only [if_neg (not_not_intro hv), if_neg (not_not_intro (And.intro ha hf)), ni_cl (show u < 2147483648 by omega), ni_cl (show j < 2147483648 by omega)] at fin
      clear no
      have m3 : ¬ (0 : Int32) ≤ -3 := by decide
      rcases hA.ver (show u < 6 by omega) with ⟨z1, z2⟩ | ⟨p, c, nn, z1, hV⟩
      · simp only [z1, if_true] at fin
        simp (disch := omega) only [vX11_field_28, vX11_field_29, vX11_field_32, vX11_field_33, vX11_field_34, vX11_field_36, vX11_field_38, vX11_field_41, vX11_field_43, xs_b hx, xs_0 hx, xs_obj hx, xs_versions hx, xp_x_1 hx, pI_c, pL_c, pF_c, pD_c, pA_n, pA_c, pA_rf, pR_c, pR_rf, pV_i, pV_a, pV_n, pV_rf, ldI_c, ldL_c, ldF_c, ldD_c, ldA_c, ldA_n, ldA_rf, dup2_l, dup2_ia, dup2_ir, popA_0, popA_s, getL_z, getL_s, setL_z, setL_1, setL_s, setL2_z, setL2_1, setL2_s, drop2_i, drop2_a, drop2_0, drop2_n, drop2_l, drop2_d, drop2_r, cwd_0, cwd_i, cwd_a, cwd_n, cwd_l, cwd_d, cwd_f, cwd_r, rf_s, rf_n, swi_0, swi_s, zR_b0, zR_b1, zN_b0, zN_b1, entV_i, entV_a, entV_n, entV_r, entV_f, entV_l, entV_d, entV_s, entV_0, List.length_cons, List.length_nil, List.nil_append, List.cons_append, true_and, and_true, Nat.reduceAdd, Nat.reduceLT, Nat.reduceEqDiff, Nat.reduceLeDiff, Nat.reduceSub, Nat.zero_add, Classical.not_not, ex_i, ex_l, ex_d, ex_r, ex_rs, ex_rn, ex_sm, Nat.sub_zero, eq_self, wn_sI, wn_sL, wn_sP, wsh_sI, wsh_sL, wsh_sP, wI_sL, wI_sP, wL_sI, wL_sP, wP_sI, wP_sL, wI_sI, wL_sL, Int32.reduceLT, Int32.reduceLE, true_implies, not_true_eq_false, false_implies, not_false_eq_true, i_10, na_1, nb_1, nm_1, ns_1, nr_1, na_2, nb_2, nm_2, ns_2, nr_2, na_3, nb_3, nm_3, ns_3, nr_3, na_4, nb_4, nm_4, ns_4, nr_4, na_5, nb_5, nm_5, ns_5, nr_5, na_6, nb_6, nm_6, ns_6, nr_6, na_7, nb_7, nm_7, ns_7, nr_7, na_8, nb_8, nm_8, ns_8, nr_8, na_10, nb_10, nm_10, ns_10, nr_10, na_16, nb_16, nm_16, ns_16, nr_16, nl_m1, ni_add, ni_mul, ni_sub, ni_cl, ni_in, vp_0, vp_1, vp_2, vp_3, vp_4, vp_5, Int32.reduceToNatClampNeg, z2]
        exact fin _ (by rw [if_pos m3])
      · have hnz := hV.nz
        have hn8 := hV.n8
        obtain ⟨h1, h2, h3, h4, h5, h6, h7, h8, h9, h10⟩ := id hV
        have hnz' : ¬ nI nn = 0 := by rw [← h2]; exact hnz
        simp only [h2, hnz', if_false] at fin
        simp (disch := omega) only [vX11_field_28, vX11_field_29, vX11_field_32, vX11_field_33, vX11_field_34, vX11_field_36, vX11_field_38, vX11_field_41, vX11_field_43, vX11_field_44, vX11_field_45, vX11_field_47, vX11_field_50, xs_b hx, xs_0 hx, xs_obj hx, xs_versions hx, xp_x_1 hx, pI_c, pL_c, pF_c, pD_c, pA_n, pA_c, pA_rf, pR_c, pR_rf, pV_i, pV_a, pV_n, pV_rf, ldI_c, ldL_c, ldF_c, ldD_c, ldA_c, ldA_n, ldA_rf, dup2_l, dup2_ia, dup2_ir, popA_0, popA_s, getL_z, getL_s, setL_z, setL_1, setL_s, setL2_z, setL2_1, setL2_s, drop2_i, drop2_a, drop2_0, drop2_n, drop2_l, drop2_d, drop2_r, cwd_0, cwd_i, cwd_a, cwd_n, cwd_l, cwd_d, cwd_f, cwd_r, rf_s, rf_n, swi_0, swi_s, zR_b0, zR_b1, zN_b0, zN_b1, entV_i, entV_a, entV_n, entV_r, entV_f, entV_l, entV_d, entV_s, entV_0, List.length_cons, List.length_nil, List.nil_append, List.cons_append, true_and, and_true, Nat.reduceAdd, Nat.reduceLT, Nat.reduceEqDiff, Nat.reduceLeDiff, Nat.reduceSub, Nat.zero_add, Classical.not_not, ex_i, ex_l, ex_d, ex_r, ex_rs, ex_rn, ex_sm, Nat.sub_zero, eq_self, wn_sI, wn_sL, wn_sP, wsh_sI, wsh_sL, wsh_sP, wI_sL, wI_sP, wL_sI, wL_sP, wP_sI, wP_sL, wI_sI, wL_sL, Int32.reduceLT, Int32.reduceLE, true_implies, not_true_eq_false, false_implies, not_false_eq_true, i_10, na_1, nb_1, nm_1, ns_1, nr_1, na_2, nb_2, nm_2, ns_2, nr_2, na_3, nb_3, nm_3, ns_3, nr_3, na_4, nb_4, nm_4, ns_4, nr_4, na_5, nb_5, nm_5, ns_5, nr_5, na_6, nb_6, nm_6, ns_6, nr_6, na_7, nb_7, nm_7, ns_7, nr_7, na_8, nb_8, nm_8, ns_8, nr_8, na_10, nb_10, nm_10, ns_10, nr_10, na_16, nb_16, nm_16, ns_16, nr_16, nl_m1, ni_add, ni_mul, ni_sub, ni_cl, ni_in, vp_0, vp_1, vp_2, vp_3, vp_4, vp_5, Int32.reduceToNatClampNeg, ni_le, ni_lt, ni_eq, ni_le1, ni_le0, ni_eq0, ni_eq1, ni_eq2, ni_eq8, ni_eq9, z1, so_n, h5, h6]
        by_cases q5 : nn ≤ j
        · simp only [q5, vX11_field_67, vX11_field_68, pI_c, pL_c, pF_c, pD_c, pA_n, pA_c, pA_rf, pR_c, pR_rf, pV_i, pV_a, pV_n, pV_rf, ldI_c, ldL_c, ldF_c, ldD_c, ldA_c, ldA_n, ldA_rf, dup2_l, dup2_ia, dup2_ir, popA_0, popA_s, getL_z, getL_s, setL_z, setL_1, setL_s, setL2_z, setL2_1, setL2_s, drop2_i, drop2_a, drop2_0, drop2_n, drop2_l, drop2_d, drop2_r, cwd_0, cwd_i, cwd_a, cwd_n, cwd_l, cwd_d, cwd_f, cwd_r, rf_s, rf_n, swi_0, swi_s, zR_b0, zR_b1, zN_b0, zN_b1, entV_i, entV_a, entV_n, entV_r, entV_f, entV_l, entV_d, entV_s, entV_0, List.length_cons, List.length_nil, List.nil_append, List.cons_append, true_and, and_true, Nat.reduceAdd, Nat.reduceLT, Nat.reduceEqDiff, Nat.reduceLeDiff, Nat.reduceSub, Nat.zero_add, Classical.not_not, ex_i, ex_l, ex_d, ex_r, ex_rs, ex_rn, ex_sm, Nat.sub_zero, eq_self, wn_sI, wn_sL, wn_sP, wsh_sI, wsh_sL, wsh_sP, wI_sL, wI_sP, wL_sI, wL_sP, wP_sI, wP_sL, wI_sI, wL_sL, Int32.reduceLT, Int32.reduceLE, true_implies, not_true_eq_false, false_implies, not_false_eq_true, i_10]
          have e : ¬ nI j < nI nn := by rw [ni_lt (by omega) (by omega)]; omega
          exact fin _ (by rw [if_neg e, if_pos m1])
        · have e : nI j < nI nn := by rw [ni_lt (by omega) (by omega)]; omega
          obtain ⟨d, d1, d2, d3⟩ := h10 j (by omega)
          simp (disch := omega) only [q5, vX11_field_53, vX11_field_55, vX11_field_58, vX11_field_59, vX11_field_60, vX11_field_61, pI_c, pL_c, pF_c, pD_c, pA_n, pA_c, pA_rf, pR_c, pR_rf, pV_i, pV_a, pV_n, pV_rf, ldI_c, ldL_c, ldF_c, ldD_c, ldA_c, ldA_n, ldA_rf, dup2_l, dup2_ia, dup2_ir, popA_0, popA_s, getL_z, getL_s, setL_z, setL_1, setL_s, setL2_z, setL2_1, setL2_s, drop2_i, drop2_a, drop2_0, drop2_n, drop2_l, drop2_d, drop2_r, cwd_0, cwd_i, cwd_a, cwd_n, cwd_l, cwd_d, cwd_f, cwd_r, rf_s, rf_n, swi_0, swi_s, zR_b0, zR_b1, zN_b0, zN_b1, entV_i, entV_a, entV_n, entV_r, entV_f, entV_l, entV_d, entV_s, entV_0, List.length_cons, List.length_nil, List.nil_append, List.cons_append, true_and, and_true, Nat.reduceAdd, Nat.reduceLT, Nat.reduceEqDiff, Nat.reduceLeDiff, Nat.reduceSub, Nat.zero_add, Classical.not_not, ex_i, ex_l, ex_d, ex_r, ex_rs, ex_rn, ex_sm, Nat.sub_zero, eq_self, wn_sI, wn_sL, wn_sP, wsh_sI, wsh_sL, wsh_sP, wI_sL, wI_sP, wL_sI, wL_sP, wP_sI, wP_sL, wI_sI, wL_sL, Int32.reduceLT, Int32.reduceLE, true_implies, not_true_eq_false, false_implies, not_false_eq_true, i_10, na_1, nb_1, nm_1, ns_1, nr_1, na_2, nb_2, nm_2, ns_2, nr_2, na_3, nb_3, nm_3, ns_3, nr_3, na_4, nb_4, nm_4, ns_4, nr_4, na_5, nb_5, nm_5, ns_5, nr_5, na_6, nb_6, nm_6, ns_6, nr_6, na_7, nb_7, nm_7, ns_7, nr_7, na_8, nb_8, nm_8, ns_8, nr_8, na_10, nb_10, nm_10, ns_10, nr_10, na_16, nb_16, nm_16, ns_16, nr_16, nl_m1, ni_add, ni_mul, ni_sub, ni_cl, ni_in, vp_0, vp_1, vp_2, vp_3, vp_4, vp_5, Int32.reduceToNatClampNeg, h5, h8, h9, d2, d3.1]
          refine X1_tell_ok d3 (h3.2.1 j (by omega)) v ?_
          simp only [vX11_field_64, vX11_field_67, vX11_field_68, pI_c, pL_c, pF_c, pD_c, pA_n, pA_c, pA_rf, pR_c, pR_rf, pV_i, pV_a, pV_n, pV_rf, ldI_c, ldL_c, ldF_c, ldD_c, ldA_c, ldA_n, ldA_rf, dup2_l, dup2_ia, dup2_ir, popA_0, popA_s, getL_z, getL_s, setL_z, setL_1, setL_s, setL2_z, setL2_1, setL2_s, drop2_i, drop2_a, drop2_0, drop2_n, drop2_l, drop2_d, drop2_r, cwd_0, cwd_i, cwd_a, cwd_n, cwd_l, cwd_d, cwd_f, cwd_r, rf_s, rf_n, swi_0, swi_s, zR_b0, zR_b1, zN_b0, zN_b1, entV_i, entV_a, entV_n, entV_r, entV_f, entV_l, entV_d, entV_s, entV_0, List.length_cons, List.length_nil, List.nil_append, List.cons_append, true_and, and_true, Nat.reduceAdd, Nat.reduceLT, Nat.reduceEqDiff, Nat.reduceLeDiff, Nat.reduceSub, Nat.zero_add, Classical.not_not, ex_i, ex_l, ex_d, ex_r, ex_rs, ex_rn, ex_sm, Nat.sub_zero, eq_self, wn_sI, wn_sL, wn_sP, wsh_sI, wsh_sL, wsh_sP, wI_sL, wI_sP, wL_sI, wL_sP, wP_sI, wP_sL, wI_sI, wL_sL, Int32.reduceLT, Int32.reduceLE, true_implies, not_true_eq_false, false_implies, not_false_eq_true, i_10]
          exact fin _ (by rw [if_pos e, if_neg (not_not_intro (show (0 : Int32) ≤ 0 by decide))])
  · rw [b2i_f ha]
    simp only [vX11_field_4, vX11_field_26, vX11_field_27, pI_c, pL_c, pF_c, pD_c, pA_n, pA_c, pA_rf, pR_c, pR_rf, pV_i, pV_a, pV_n, pV_rf, ldI_c, ldL_c, ldF_c, ldD_c, ldA_c, ldA_n, ldA_rf, dup2_l, dup2_ia, dup2_ir, popA_0, popA_s, getL_z, getL_s, setL_z, setL_1, setL_s, setL2_z, setL2_1, setL2_s, drop2_i, drop2_a, drop2_0, drop2_n, drop2_l, drop2_d, drop2_r, cwd_0, cwd_i, cwd_a, cwd_n, cwd_l, cwd_d, cwd_f, cwd_r, rf_s, rf_n, swi_0, swi_s, zR_b0, zR_b1, zN_b0, zN_b1, entV_i, entV_a, entV_n, entV_r, entV_f, entV_l, entV_d, entV_s, entV_0, List.length_cons, List.length_nil, List.nil_append, List.cons_append, true_and, and_true, Nat.reduceAdd, Nat.reduceLT, Nat.reduceEqDiff, Nat.reduceLeDiff, Nat.reduceSub, Nat.zero_add, Classical.not_not, ex_i, ex_l, ex_d, ex_r, ex_rs, ex_rn, ex_sm, Nat.sub_zero, eq_self, wn_sI, wn_sL, wn_sP, wsh_sI, wsh_sL, wsh_sP, wI_sL, wI_sP, wL_sI, wL_sP, wP_sI, wP_sL, wI_sI, wL_sL, Int32.reduceLT, Int32.reduceLE, true_implies, not_true_eq_false, false_implies, not_false_eq_true, i_10]
    exact no (Or.inl fun z => ha z.1)
