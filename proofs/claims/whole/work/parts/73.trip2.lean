/-! the reference: trip -/
def trpC (s : St) (r : Nat) (C : List (Int32 × Int64)) : Nat → Nat
  | 0 => 0
  | j + 1 => trpC s r C j + (match C[j]? with
    | some x => if alk (s.1 4 (16 * r + j)) (s.2 5 (16 * r + j)) x.1 x.2 = true then 1 else 0
    | none => 0)
theorem trpC_le (s : St) (r : Nat) (C : List (Int32 × Int64)) : ∀ j, trpC s r C j ≤ j
  | 0 => Nat.le_refl _
  | j + 1 => by
    have := trpC_le s r C j
    unfold trpC
    split
    · split <;> omega
    · omega
/-- how many cells of a slot come back -/
def trpS (s : St) (b nb : Nat) (D : List (Option (List (Int32 × Int64)))) (t : Nat) : Nat :=
  if ¬ (0 ≤ s.1 1 t ∧ s.1 1 t ≤ 7) then 0
  else match fldIx (fun j => s.1 7 (8 * b + j)) (nI t) nb 0 with
    | none => (s.1 3 (s.1 1 t).toNatClampNeg).toNatClampNeg
    | some k => match D[k]? with
      | some (some C) => trpC s (s.1 1 t).toNatClampNeg C (min (s.1 3 (s.1 1 t).toNatClampNeg).toNatClampNeg C.length)
      | _ => 0
def trpN (s : St) (b nb : Nat) (D : List (Option (List (Int32 × Int64)))) : Nat → Nat
  | 0 => 0
  | t + 1 => trpN s b nb D t + trpS s b nb D t
set_option maxRecDepth 100000 in
set_option maxHeartbeats 4000000 in
theorem X12_trip_in {g : Ge} {m k0 n0 r z kf t c0 : Nat} {s : St} {w : Wd} {C : List (Int32 × Int64)} {K : Option Value → Wd → Prop} {V1 : Option Value} {bv : Int32} (hm : MS g m w) (hS : Sm m w s) (hr : r < 8) (hz : z ≤ 16) (e3 : s.1 3 r = nI z) (hkf : kf < 8) (hc0 : c0 ≤ 1000) (hC16 : C.length ≤ 16) (hns : wI w (m + 37) kf = nI C.length) (hcel : celH (wI w (m + 38)) (wL w (m + 39)) (16 * kf) C) (hok : CelOK C) (hcv : ∀ i, i < z → cvl (s.1 4 (16 * r + i)) (s.2 5 (16 * r + i)))
    (hK : ∀ o7, R g mX12_trip K 227 [some (.ref m), V1, some (.int bv), some (.int (nI (c0 + trpC s r C (min z C.length)))), some (.int (nI t)), some (.int (nI r)), some (.int (nI kf)), o7] [] w k0 n0) : ∀ (d j : Nat), j + d = min z C.length → R g mX12_trip K 130 [some (.ref m), V1, some (.int bv), some (.int (nI (c0 + trpC s r C j))), some (.int (nI t)), some (.int (nI r)), some (.int (nI kf)), some (.int (nI j))] [] w k0 n0 := by
  have a3 : wI w (m + 3) r = nI z := by rw [(hS 3 _ (by decide) (by decide)).1]; exact e3
  have hk1 : ¬ nI kf = -1 := ni_nem (by omega)
  intro d
  induction d with
  | zero =>
    intro j hj
    have hj' : j = min z C.length := by omega
    by_cases q : z ≤ j
    · simp (disch := omega) only [vX12_trip_130, vX12_trip_132, vX12_trip_133, vX12_trip_136, vX12_trip_138, vX12_trip_139, vX12_trip_142, vX12_trip_144, vX12_trip_145, ms_o hm, ms_b hm, ms_0 hm, mp_rowSize hm, ms_rowSize hm, pI_c, pL_c, pF_c, pD_c, pA_n, pA_c, pA_rf, pR_c, pR_rf, pV_i, pV_a, pV_n, pV_rf, ldI_c, ldL_c, ldF_c, ldD_c, ldA_c, ldA_n, ldA_rf, dup2_l, dup2_ia, dup2_ir, popA_0, popA_s, getL_z, getL_s, setL_z, setL_1, setL_s, setL2_z, setL2_1, setL2_s, drop2_i, drop2_a, drop2_0, drop2_n, drop2_l, drop2_d, drop2_r, cwd_0, cwd_i, cwd_a, cwd_n, cwd_l, cwd_d, cwd_f, cwd_r, rf_s, rf_n, swi_0, swi_s, zR_b0, zR_b1, zN_b0, zN_b1, entV_i, entV_a, entV_n, entV_r, entV_f, entV_l, entV_d, entV_s, entV_0, List.length_cons, List.length_nil, List.nil_append, List.cons_append, true_and, and_true, Nat.reduceAdd, Nat.reduceLT, Nat.reduceEqDiff, Nat.reduceLeDiff, Nat.reduceSub, Nat.zero_add, Classical.not_not, ex_i, ex_l, ex_d, ex_r, ex_rs, ex_rn, ex_sm, Nat.sub_zero, eq_self, wn_sI, wn_sL, wn_sP, wsh_sI, wsh_sL, wsh_sP, wI_sL, wI_sP, wL_sI, wL_sP, wP_sI, wP_sL, wI_sI, wL_sL, Int32.reduceLT, Int32.reduceLE, true_implies, not_true_eq_false, false_implies, not_false_eq_true, i_10, na_1, nb_1, nm_1, ns_1, nr_1, na_2, nb_2, nm_2, ns_2, nr_2, na_3, nb_3, nm_3, ns_3, nr_3, na_4, nb_4, nm_4, ns_4, nr_4, na_5, nb_5, nm_5, ns_5, nr_5, na_6, nb_6, nm_6, ns_6, nr_6, na_7, nb_7, nm_7, ns_7, nr_7, na_8, nb_8, nm_8, ns_8, nr_8, na_10, nb_10, nm_10, ns_10, nr_10, na_16, nb_16, nm_16, ns_16, nr_16, nl_m1, ni_add, ni_mul, ni_sub, ni_cl, ni_in, vp_0, vp_1, vp_2, vp_3, vp_4, vp_5, Int32.reduceToNatClampNeg, ni_le, ni_lt, ni_eq, ni_le1, ni_le0, ni_eq0, ni_eq1, ni_eq2, ni_eq8, ni_eq9, hk1, a3, q]
      rw [hj']
      exact hK _
    · have q2 : C.length ≤ j := by omega
      simp (disch := omega) only [vX12_trip_130, vX12_trip_132, vX12_trip_133, vX12_trip_136, vX12_trip_138, vX12_trip_139, vX12_trip_142, vX12_trip_144, vX12_trip_145, vX12_trip_148, vX12_trip_150, vX12_trip_151, vX12_trip_154, vX12_trip_156, vX12_trip_157, ms_o hm, ms_b hm, ms_0 hm, mp_rowSize hm, ms_rowSize hm, mp_newSize hm, ms_newSize hm, pI_c, pL_c, pF_c, pD_c, pA_n, pA_c, pA_rf, pR_c, pR_rf, pV_i, pV_a, pV_n, pV_rf, ldI_c, ldL_c, ldF_c, ldD_c, ldA_c, ldA_n, ldA_rf, dup2_l, dup2_ia, dup2_ir, popA_0, popA_s, getL_z, getL_s, setL_z, setL_1, setL_s, setL2_z, setL2_1, setL2_s, drop2_i, drop2_a, drop2_0, drop2_n, drop2_l, drop2_d, drop2_r, cwd_0, cwd_i, cwd_a, cwd_n, cwd_l, cwd_d, cwd_f, cwd_r, rf_s, rf_n, swi_0, swi_s, zR_b0, zR_b1, zN_b0, zN_b1, entV_i, entV_a, entV_n, entV_r, entV_f, entV_l, entV_d, entV_s, entV_0, List.length_cons, List.length_nil, List.nil_append, List.cons_append, true_and, and_true, Nat.reduceAdd, Nat.reduceLT, Nat.reduceEqDiff, Nat.reduceLeDiff, Nat.reduceSub, Nat.zero_add, Classical.not_not, ex_i, ex_l, ex_d, ex_r, ex_rs, ex_rn, ex_sm, Nat.sub_zero, eq_self, wn_sI, wn_sL, wn_sP, wsh_sI, wsh_sL, wsh_sP, wI_sL, wI_sP, wL_sI, wL_sP, wP_sI, wP_sL, wI_sI, wL_sL, Int32.reduceLT, Int32.reduceLE, true_implies, not_true_eq_false, false_implies, not_false_eq_true, i_10, na_1, nb_1, nm_1, ns_1, nr_1, na_2, nb_2, nm_2, ns_2, nr_2, na_3, nb_3, nm_3, ns_3, nr_3, na_4, nb_4, nm_4, ns_4, nr_4, na_5, nb_5, nm_5, ns_5, nr_5, na_6, nb_6, nm_6, ns_6, nr_6, na_7, nb_7, nm_7, ns_7, nr_7, na_8, nb_8, nm_8, ns_8, nr_8, na_10, nb_10, nm_10, ns_10, nr_10, na_16, nb_16, nm_16, ns_16, nr_16, nl_m1, ni_add, ni_mul, ni_sub, ni_cl, ni_in, vp_0, vp_1, vp_2, vp_3, vp_4, vp_5, Int32.reduceToNatClampNeg, ni_le, ni_lt, ni_eq, ni_le1, ni_le0, ni_eq0, ni_eq1, ni_eq2, ni_eq8, ni_eq9, hk1, a3, hns, q, q2]
      rw [hj']
      exact hK _
  | succ d ih =>
    intro j hj
    have q : ¬ z ≤ j := by omega
    have q2 : ¬ C.length ≤ j := by omega
    have a4 : wI w (m + 4) (16 * r + j) = s.1 4 (16 * r + j) := (hS 4 _ (by decide) (by decide)).1
    have a5 : wL w (m + 5) (16 * r + j) = s.2 5 (16 * r + j) := (hS 5 _ (by decide) (by decide)).2
    have hg := hcel j (by omega)
    have hle := trpC_le s r C j
    simp (disch := omega) only [vX12_trip_130, vX12_trip_132, vX12_trip_133, vX12_trip_136, vX12_trip_138, vX12_trip_139, vX12_trip_142, vX12_trip_144, vX12_trip_145, vX12_trip_148, vX12_trip_150, vX12_trip_151, vX12_trip_154, vX12_trip_156, vX12_trip_157, ms_o hm, ms_b hm, ms_0 hm, mp_rowSize hm, ms_rowSize hm, mp_newSize hm, ms_newSize hm, pI_c, pL_c, pF_c, pD_c, pA_n, pA_c, pA_rf, pR_c, pR_rf, pV_i, pV_a, pV_n, pV_rf, ldI_c, ldL_c, ldF_c, ldD_c, ldA_c, ldA_n, ldA_rf, dup2_l, dup2_ia, dup2_ir, popA_0, popA_s, getL_z, getL_s, setL_z, setL_1, setL_s, setL2_z, setL2_1, setL2_s, drop2_i, drop2_a, drop2_0, drop2_n, drop2_l, drop2_d, drop2_r, cwd_0, cwd_i, cwd_a, cwd_n, cwd_l, cwd_d, cwd_f, cwd_r, rf_s, rf_n, swi_0, swi_s, zR_b0, zR_b1, zN_b0, zN_b1, entV_i, entV_a, entV_n, entV_r, entV_f, entV_l, entV_d, entV_s, entV_0, List.length_cons, List.length_nil, List.nil_append, List.cons_append, true_and, and_true, Nat.reduceAdd, Nat.reduceLT, Nat.reduceEqDiff, Nat.reduceLeDiff, Nat.reduceSub, Nat.zero_add, Classical.not_not, ex_i, ex_l, ex_d, ex_r, ex_rs, ex_rn, ex_sm, Nat.sub_zero, eq_self, wn_sI, wn_sL, wn_sP, wsh_sI, wsh_sL, wsh_sP, wI_sL, wI_sP, wL_sI, wL_sP, wP_sI, wP_sL, wI_sI, wL_sL, Int32.reduceLT, Int32.reduceLE, true_implies, not_true_eq_false, false_implies, not_false_eq_true, i_10, na_1, nb_1, nm_1, ns_1, nr_1, na_2, nb_2, nm_2, ns_2, nr_2, na_3, nb_3, nm_3, ns_3, nr_3, na_4, nb_4, nm_4, ns_4, nr_4, na_5, nb_5, nm_5, ns_5, nr_5, na_6, nb_6, nm_6, ns_6, nr_6, na_7, nb_7, nm_7, ns_7, nr_7, na_8, nb_8, nm_8, ns_8, nr_8, na_10, nb_10, nm_10, ns_10, nr_10, na_16, nb_16, nm_16, ns_16, nr_16, nl_m1, ni_add, ni_mul, ni_sub, ni_cl, ni_in, vp_0, vp_1, vp_2, vp_3, vp_4, vp_5, Int32.reduceToNatClampNeg, ni_le, ni_lt, ni_eq, ni_le1, ni_le0, ni_eq0, ni_eq1, ni_eq2, ni_eq8, ni_eq9, hk1, a3, hns, q, q2]
    simp (disch := omega) only [vX12_trip_160, vX12_trip_161, vX12_trip_164, vX12_trip_166, vX12_trip_168, vX12_trip_169, vX12_trip_171, vX12_trip_172, vX12_trip_173, vX12_trip_174, vX12_trip_177, vX12_trip_179, vX12_trip_181, vX12_trip_182, vX12_trip_184, vX12_trip_185, vX12_trip_186, vX12_trip_187, vX12_trip_190, vX12_trip_192, vX12_trip_194, vX12_trip_195, vX12_trip_197, vX12_trip_198, vX12_trip_199, vX12_trip_200, vX12_trip_203, vX12_trip_205, vX12_trip_207, vX12_trip_208, vX12_trip_210, vX12_trip_211, vX12_trip_212, ms_o hm, ms_b hm, ms_0 hm, mp_kinds hm, ms_kinds hm, mp_values hm, ms_values hm, mp_newKind hm, ms_newKind hm, mp_newValue hm, ms_newValue hm, pI_c, pL_c, pF_c, pD_c, pA_n, pA_c, pA_rf, pR_c, pR_rf, pV_i, pV_a, pV_n, pV_rf, ldI_c, ldL_c, ldF_c, ldD_c, ldA_c, ldA_n, ldA_rf, dup2_l, dup2_ia, dup2_ir, popA_0, popA_s, getL_z, getL_s, setL_z, setL_1, setL_s, setL2_z, setL2_1, setL2_s, drop2_i, drop2_a, drop2_0, drop2_n, drop2_l, drop2_d, drop2_r, cwd_0, cwd_i, cwd_a, cwd_n, cwd_l, cwd_d, cwd_f, cwd_r, rf_s, rf_n, swi_0, swi_s, zR_b0, zR_b1, zN_b0, zN_b1, entV_i, entV_a, entV_n, entV_r, entV_f, entV_l, entV_d, entV_s, entV_0, List.length_cons, List.length_nil, List.nil_append, List.cons_append, true_and, and_true, Nat.reduceAdd, Nat.reduceLT, Nat.reduceEqDiff, Nat.reduceLeDiff, Nat.reduceSub, Nat.zero_add, Classical.not_not, ex_i, ex_l, ex_d, ex_r, ex_rs, ex_rn, ex_sm, Nat.sub_zero, eq_self, wn_sI, wn_sL, wn_sP, wsh_sI, wsh_sL, wsh_sP, wI_sL, wI_sP, wL_sI, wL_sP, wP_sI, wP_sL, wI_sI, wL_sL, Int32.reduceLT, Int32.reduceLE, true_implies, not_true_eq_false, false_implies, not_false_eq_true, i_10, na_1, nb_1, nm_1, ns_1, nr_1, na_2, nb_2, nm_2, ns_2, nr_2, na_3, nb_3, nm_3, ns_3, nr_3, na_4, nb_4, nm_4, ns_4, nr_4, na_5, nb_5, nm_5, ns_5, nr_5, na_6, nb_6, nm_6, ns_6, nr_6, na_7, nb_7, nm_7, ns_7, nr_7, na_8, nb_8, nm_8, ns_8, nr_8, na_10, nb_10, nm_10, ns_10, nr_10, na_16, nb_16, nm_16, ns_16, nr_16, nl_m1, ni_add, ni_mul, ni_sub, ni_cl, ni_in, vp_0, vp_1, vp_2, vp_3, vp_4, vp_5, Int32.reduceToNatClampNeg, up2_n1, up2_at, if_true, if_false, Nat.reduceEqDiff, eq_self, a4, a5]
    have hmem := hok _ (List.mem_of_getElem? hg)
    refine X12_areAlike_ok _ _ _ _ (hcv j (by omega)) hmem.2 ?_
    have nxt : ∀ x, x = trpC s r C (j + 1) → R g mX12_trip K 221 [some (.ref m), V1, some (.int bv), some (.int (nI (c0 + x))), some (.int (nI t)), some (.int (nI r)), some (.int (nI kf)), some (.int (nI j))] [] w k0 n0 := by
      intro x hx
      simp (disch := omega) only [vX12_trip_221, vX12_trip_224, pI_c, pL_c, pF_c, pD_c, pA_n, pA_c, pA_rf, pR_c, pR_rf, pV_i, pV_a, pV_n, pV_rf, ldI_c, ldL_c, ldF_c, ldD_c, ldA_c, ldA_n, ldA_rf, dup2_l, dup2_ia, dup2_ir, popA_0, popA_s, getL_z, getL_s, setL_z, setL_1, setL_s, setL2_z, setL2_1, setL2_s, drop2_i, drop2_a, drop2_0, drop2_n, drop2_l, drop2_d, drop2_r, cwd_0, cwd_i, cwd_a, cwd_n, cwd_l, cwd_d, cwd_f, cwd_r, rf_s, rf_n, swi_0, swi_s, zR_b0, zR_b1, zN_b0, zN_b1, entV_i, entV_a, entV_n, entV_r, entV_f, entV_l, entV_d, entV_s, entV_0, List.length_cons, List.length_nil, List.nil_append, List.cons_append, true_and, and_true, Nat.reduceAdd, Nat.reduceLT, Nat.reduceEqDiff, Nat.reduceLeDiff, Nat.reduceSub, Nat.zero_add, Classical.not_not, ex_i, ex_l, ex_d, ex_r, ex_rs, ex_rn, ex_sm, Nat.sub_zero, eq_self, wn_sI, wn_sL, wn_sP, wsh_sI, wsh_sL, wsh_sP, wI_sL, wI_sP, wL_sI, wL_sP, wP_sI, wP_sL, wI_sI, wL_sL, Int32.reduceLT, Int32.reduceLE, true_implies, not_true_eq_false, false_implies, not_false_eq_true, i_10, na_1, nb_1, nm_1, ns_1, nr_1, na_2, nb_2, nm_2, ns_2, nr_2, na_3, nb_3, nm_3, ns_3, nr_3, na_4, nb_4, nm_4, ns_4, nr_4, na_5, nb_5, nm_5, ns_5, nr_5, na_6, nb_6, nm_6, ns_6, nr_6, na_7, nb_7, nm_7, ns_7, nr_7, na_8, nb_8, nm_8, ns_8, nr_8, na_10, nb_10, nm_10, ns_10, nr_10, na_16, nb_16, nm_16, ns_16, nr_16, nl_m1, ni_add, ni_mul, ni_sub, ni_cl, ni_in, vp_0, vp_1, vp_2, vp_3, vp_4, vp_5, Int32.reduceToNatClampNeg]
      rw [hx]
      exact ih (j + 1) (by omega)
    have hstep : trpC s r C (j + 1) = trpC s r C j + if alk (s.1 4 (16 * r + j)) (s.2 5 (16 * r + j)) (wI w (m + 38) (16 * kf + j)) (wL w (m + 39) (16 * kf + j)) = true then 1 else 0 := by
      conv => lhs; unfold trpC
      simp only [hg]
    simp only [vX12_trip_215, pI_c, pL_c, pF_c, pD_c, pA_n, pA_c, pA_rf, pR_c, pR_rf, pV_i, pV_a, pV_n, pV_rf, ldI_c, ldL_c, ldF_c, ldD_c, ldA_c, ldA_n, ldA_rf, dup2_l, dup2_ia, dup2_ir, popA_0, popA_s, getL_z, getL_s, setL_z, setL_1, setL_s, setL2_z, setL2_1, setL2_s, drop2_i, drop2_a, drop2_0, drop2_n, drop2_l, drop2_d, drop2_r, cwd_0, cwd_i, cwd_a, cwd_n, cwd_l, cwd_d, cwd_f, cwd_r, rf_s, rf_n, swi_0, swi_s, zR_b0, zR_b1, zN_b0, zN_b1, entV_i, entV_a, entV_n, entV_r, entV_f, entV_l, entV_d, entV_s, entV_0, List.length_cons, List.length_nil, List.nil_append, List.cons_append, true_and, and_true, Nat.reduceAdd, Nat.reduceLT, Nat.reduceEqDiff, Nat.reduceLeDiff, Nat.reduceSub, Nat.zero_add, Classical.not_not, ex_i, ex_l, ex_d, ex_r, ex_rs, ex_rn, ex_sm, Nat.sub_zero, eq_self, wn_sI, wn_sL, wn_sP, wsh_sI, wsh_sL, wsh_sP, wI_sL, wI_sP, wL_sI, wL_sP, wP_sI, wP_sL, wI_sI, wL_sL, Int32.reduceLT, Int32.reduceLE, true_implies, not_true_eq_false, false_implies, not_false_eq_true, i_10, bI_z]
    refine ⟨fun z1 => nxt _ ?_, fun z1 => ?_⟩
    · rw [hstep, if_neg (fun q => absurd (z1.symm.trans q) (by decide))]; rfl
    · simp (disch := omega) only [vX12_trip_218, pI_c, pL_c, pF_c, pD_c, pA_n, pA_c, pA_rf, pR_c, pR_rf, pV_i, pV_a, pV_n, pV_rf, ldI_c, ldL_c, ldF_c, ldD_c, ldA_c, ldA_n, ldA_rf, dup2_l, dup2_ia, dup2_ir, popA_0, popA_s, getL_z, getL_s, setL_z, setL_1, setL_s, setL2_z, setL2_1, setL2_s, drop2_i, drop2_a, drop2_0, drop2_n, drop2_l, drop2_d, drop2_r, cwd_0, cwd_i, cwd_a, cwd_n, cwd_l, cwd_d, cwd_f, cwd_r, rf_s, rf_n, swi_0, swi_s, zR_b0, zR_b1, zN_b0, zN_b1, entV_i, entV_a, entV_n, entV_r, entV_f, entV_l, entV_d, entV_s, entV_0, List.length_cons, List.length_nil, List.nil_append, List.cons_append, true_and, and_true, Nat.reduceAdd, Nat.reduceLT, Nat.reduceEqDiff, Nat.reduceLeDiff, Nat.reduceSub, Nat.zero_add, Classical.not_not, ex_i, ex_l, ex_d, ex_r, ex_rs, ex_rn, ex_sm, Nat.sub_zero, eq_self, wn_sI, wn_sL, wn_sP, wsh_sI, wsh_sL, wsh_sP, wI_sL, wI_sP, wL_sI, wL_sP, wP_sI, wP_sL, wI_sI, wL_sL, Int32.reduceLT, Int32.reduceLE, true_implies, not_true_eq_false, false_implies, not_false_eq_true, i_10, na_1, nb_1, nm_1, ns_1, nr_1, na_2, nb_2, nm_2, ns_2, nr_2, na_3, nb_3, nm_3, ns_3, nr_3, na_4, nb_4, nm_4, ns_4, nr_4, na_5, nb_5, nm_5, ns_5, nr_5, na_6, nb_6, nm_6, ns_6, nr_6, na_7, nb_7, nm_7, ns_7, nr_7, na_8, nb_8, nm_8, ns_8, nr_8, na_10, nb_10, nm_10, ns_10, nr_10, na_16, nb_16, nm_16, ns_16, nr_16, nl_m1, ni_add, ni_mul, ni_sub, ni_cl, ni_in, vp_0, vp_1, vp_2, vp_3, vp_4, vp_5, Int32.reduceToNatClampNeg]
      have := nxt (trpC s r C j + 1) (by rw [hstep, if_pos ((Bool.not_eq_false _).mp z1)])
      rw [← Nat.add_assoc] at this
      exact this
theorem trpS_le {s : St} (hR : RW s) {b nb t : Nat} {D : List (Option (List (Int32 × Int64)))} (ht : t < 8) (hD : ∀ (k : Nat) (C : List (Int32 × Int64)), D[k]? = some (some C) → C.length ≤ 16) : trpS s b nb D t ≤ 16 := by
  unfold trpS
  split
  · omega
  next q =>
    have q' := Decidable.not_not.mp q
    have hz : (s.1 3 (s.1 1 t).toNatClampNeg).toNatClampNeg ≤ 16 := by
      rcases hR t ht with e | e | ⟨r, hr, e, a, z, ea, ez, hV⟩
      · rw [e] at q'; exact absurd q'.1 (by decide)
      · rw [e] at q'; exact absurd q'.2 (by decide)
      · rw [e, ni_cl (by omega), ez, ni_cl (by have := hV.2.1; omega)]; exact hV.2.1
    split
    · exact hz
    · split
      next C hC =>
        have := hD _ C hC
        have := trpC_le s (s.1 1 t).toNatClampNeg C (min (s.1 3 (s.1 1 t).toNatClampNeg).toNatClampNeg C.length)
        omega
      · omega
theorem trpN_le {s : St} (hR : RW s) {b nb : Nat} {D : List (Option (List (Int32 × Int64)))} (hD : ∀ (k : Nat) (C : List (Int32 × Int64)), D[k]? = some (some C) → C.length ≤ 16) : ∀ t, t ≤ 8 → trpN s b nb D t ≤ 16 * t
  | 0, _ => Nat.le_refl _
  | t + 1, h => by
    have h1 := trpN_le hR hD (b := b) (nb := nb) t (by omega)
    have h2 := trpS_le hR (b := b) (nb := nb) (t := t) (by omega) hD
    unfold trpN
    omega
