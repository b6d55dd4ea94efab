/-! the class: spell, whole -/
set_option maxRecDepth 100000 in
set_option maxHeartbeats 4000000 in
theorem X10_as_loop {g : Ge} {w0 : Wd} {a A fc v nn : Nat} {s : St} {K : Option Value → Wd → Prop} (hC : Cn g w0) (hA : A < wn w0) (hV : VerO 0 w0 A fc nn v s) (hfc : fc < wn w0) (hdl : ∀ k d, k < nn → wP w0 fc k = some d → d < wn w0) (h : ∀ w' b' cap' k' n', 2 ≤ k' → 300 ≤ n' → SBQ g (wn w0) w0 w' a b' cap' (spT s v nn) 17 960 → R g mX10_asText K 45 [some (.ref A), some (.ref a), some (.int (nI nn))] [] w' k' n') : ∀ (d i : Nat) (w : Wd) (b cap k0 n0 : Nat), i + d = nn → 18 * d + 2 ≤ k0 → 1560 * d + 300 ≤ n0 → SBQ g (wn w0) w0 w a b cap (spT s v i) 17 960 → R g mX10_asText K 10 [some (.ref A), some (.ref a), some (.int (nI i))] [] w k0 n0 := by
  have hn8 := hV.n8
  obtain ⟨v1, v2, v3, v4, v5, v6, v7, v8, v9, v10⟩ := id hV
  intro d
  induction d with
  | zero =>
    intro i w b cap k0 n0 hi hk hn hQ
    obtain rfl : i = nn := by omega
    have sA := hQ.2.2.2.2.2.1 A hA
    have a1 : wsh w A = (10, 0) := sA.1.trans v5
    have a2 : wI w A 1 = nI i := by rw [sA.2.1]; exact v6
    simp only [vX10_asText_10, vX10_asText_11, vX10_asText_12, vX10_asText_15, pI_c, pL_c, pF_c, pD_c, pA_n, pA_c, pA_rf, pR_c, pR_rf, pV_i, pV_a, pV_n, pV_rf, ldI_c, ldL_c, ldF_c, ldD_c, ldA_c, ldA_n, ldA_rf, dup2_l, dup2_ia, dup2_ir, popA_0, popA_s, getL_z, getL_s, setL_z, setL_1, setL_s, setL2_z, setL2_1, setL2_s, drop2_i, drop2_a, drop2_0, drop2_n, drop2_l, drop2_d, drop2_r, cwd_0, cwd_i, cwd_a, cwd_n, cwd_l, cwd_d, cwd_f, cwd_r, rf_s, rf_n, swi_0, swi_s, zR_b0, zR_b1, zN_b0, zN_b1, entV_i, entV_a, entV_n, entV_r, entV_f, entV_l, entV_d, entV_s, entV_0, List.length_cons, List.length_nil, List.nil_append, List.cons_append, true_and, and_true, Nat.reduceAdd, Nat.reduceLT, Nat.reduceEqDiff, Nat.reduceLeDiff, Nat.reduceSub, Nat.zero_add, Classical.not_not, ex_i, ex_l, ex_d, ex_r, ex_rs, ex_rn, ex_sm, Nat.sub_zero, eq_self, wn_sI, wn_sL, wn_sP, wsh_sI, wsh_sL, wsh_sP, wI_sL, wI_sP, wL_sI, wL_sP, wP_sI, wP_sL, wI_sI, wL_sL, Int32.reduceLT, Int32.reduceLE, true_implies, not_true_eq_false, false_implies, not_false_eq_true, i_10, a1, a2, Int32.le_refl]
    exact h w b cap k0 n0 (by omega) (by omega) hQ
  | succ d ih =>
    intro i w b cap k0 n0 hi hk hn hQ
    have sA := hQ.2.2.2.2.2.1 A hA
    have a1 : wsh w A = (10, 0) := sA.1.trans v5
    have a2 : wI w A 1 = nI nn := by rw [sA.2.1]; exact v6
    have m1 : ¬ nI nn ≤ nI i := by rw [ni_le (by omega) (by omega)]; omega
    have hlen := spT_len (fun k hk => v3.2.1 k hk) i (by omega)
    obtain ⟨fd, -, d2, d3⟩ := v10 i (by omega)
    have hfd := hdl i fd (by omega) d2
    have go : ∀ (w1 : Wd) (b1 cap1 k1 n1 : Nat), 18 * d + 2 + 17 ≤ k1 → 1560 * d + 300 + 960 ≤ n1 → SBQ g (wn w0) w0 w1 a b1 cap1 (spT s v i ++ (if 0 < i then [59] else [])) 17 960 → R g mX10_asText K 29 [some (.ref A), some (.ref a), some (.int (nI i))] [] w1 k1 n1 := by
      intro w1 b1 cap1 k1 n1 hk1 hn1 hQ1
      have sA := hQ1.2.2.2.2.2.1 A hA
      have sF := hQ1.2.2.2.2.2.1 fc hfc
      have sD := hQ1.2.2.2.2.2.1 fd hfd
      have a1 : wsh w1 A = (10, 0) := sA.1.trans v5
      have a3 : wP w1 A 0 = some fc := by rw [sA.2.2.2]; exact v8
      have f1 : wsh w1 fc = (106, 8) := sF.1.trans v9
      have f2 : wP w1 fc i = some fd := by rw [sF.2.2.2]; exact d2
      have d1 : wsh w1 fd = (1, 0) := sD.1.trans d3.1
      simp (disch := omega) only [vX10_asText_29, vX10_asText_30, vX10_asText_33, vX10_asText_34, vX10_asText_35, vX10_asText_36, pI_c, pL_c, pF_c, pD_c, pA_n, pA_c, pA_rf, pR_c, pR_rf, pV_i, pV_a, pV_n, pV_rf, ldI_c, ldL_c, ldF_c, ldD_c, ldA_c, ldA_n, ldA_rf, dup2_l, dup2_ia, dup2_ir, popA_0, popA_s, getL_z, getL_s, setL_z, setL_1, setL_s, setL2_z, setL2_1, setL2_s, drop2_i, drop2_a, drop2_0, drop2_n, drop2_l, drop2_d, drop2_r, cwd_0, cwd_i, cwd_a, cwd_n, cwd_l, cwd_d, cwd_f, cwd_r, rf_s, rf_n, swi_0, swi_s, zR_b0, zR_b1, zN_b0, zN_b1, entV_i, entV_a, entV_n, entV_r, entV_f, entV_l, entV_d, entV_s, entV_0, List.length_cons, List.length_nil, List.nil_append, List.cons_append, true_and, and_true, Nat.reduceAdd, Nat.reduceLT, Nat.reduceEqDiff, Nat.reduceLeDiff, Nat.reduceSub, Nat.zero_add, Classical.not_not, ex_i, ex_l, ex_d, ex_r, ex_rs, ex_rn, ex_sm, Nat.sub_zero, eq_self, wn_sI, wn_sL, wn_sP, wsh_sI, wsh_sL, wsh_sP, wI_sL, wI_sP, wL_sI, wL_sP, wP_sI, wP_sL, wI_sI, wL_sL, Int32.reduceLT, Int32.reduceLE, true_implies, not_true_eq_false, false_implies, not_false_eq_true, i_10, na_1, nb_1, nm_1, ns_1, nr_1, na_2, nb_2, nm_2, ns_2, nr_2, na_3, nb_3, nm_3, ns_3, nr_3, na_4, nb_4, nm_4, ns_4, nr_4, na_5, nb_5, nm_5, ns_5, nr_5, na_6, nb_6, nm_6, ns_6, nr_6, na_7, nb_7, nm_7, ns_7, nr_7, na_8, nb_8, nm_8, ns_8, nr_8, na_10, nb_10, nm_10, ns_10, nr_10, na_16, nb_16, nm_16, ns_16, nr_16, nl_m1, ni_add, ni_mul, ni_sub, ni_cl, ni_in, vp_0, vp_1, vp_2, vp_3, vp_4, vp_5, Int32.reduceToNatClampNeg, a1, a3, f1, f2, d1]
      refine X1_spellTo_ok hC hQ1 hfd d3 (v3.2.1 i (by omega)) ?_ (by omega) (by omega) fun w2 b2 cap2 hQ2 => ?_
      · rw [List.length_append]
        split
        · rw [List.length_singleton]; omega
        · rw [List.length_nil]; omega
      · simp (disch := omega) only [vX10_asText_39, vX10_asText_42, pI_c, pL_c, pF_c, pD_c, pA_n, pA_c, pA_rf, pR_c, pR_rf, pV_i, pV_a, pV_n, pV_rf, ldI_c, ldL_c, ldF_c, ldD_c, ldA_c, ldA_n, ldA_rf, dup2_l, dup2_ia, dup2_ir, popA_0, popA_s, getL_z, getL_s, setL_z, setL_1, setL_s, setL2_z, setL2_1, setL2_s, drop2_i, drop2_a, drop2_0, drop2_n, drop2_l, drop2_d, drop2_r, cwd_0, cwd_i, cwd_a, cwd_n, cwd_l, cwd_d, cwd_f, cwd_r, rf_s, rf_n, swi_0, swi_s, zR_b0, zR_b1, zN_b0, zN_b1, entV_i, entV_a, entV_n, entV_r, entV_f, entV_l, entV_d, entV_s, entV_0, List.length_cons, List.length_nil, List.nil_append, List.cons_append, true_and, and_true, Nat.reduceAdd, Nat.reduceLT, Nat.reduceEqDiff, Nat.reduceLeDiff, Nat.reduceSub, Nat.zero_add, Classical.not_not, ex_i, ex_l, ex_d, ex_r, ex_rs, ex_rn, ex_sm, Nat.sub_zero, eq_self, wn_sI, wn_sL, wn_sP, wsh_sI, wsh_sL, wsh_sP, wI_sL, wI_sP, wL_sI, wL_sP, wP_sI, wP_sL, wI_sI, wL_sL, Int32.reduceLT, Int32.reduceLE, true_implies, not_true_eq_false, false_implies, not_false_eq_true, i_10, na_1, nb_1, nm_1, ns_1, nr_1, na_2, nb_2, nm_2, ns_2, nr_2, na_3, nb_3, nm_3, ns_3, nr_3, na_4, nb_4, nm_4, ns_4, nr_4, na_5, nb_5, nm_5, ns_5, nr_5, na_6, nb_6, nm_6, ns_6, nr_6, na_7, nb_7, nm_7, ns_7, nr_7, na_8, nb_8, nm_8, ns_8, nr_8, na_10, nb_10, nm_10, ns_10, nr_10, na_16, nb_16, nm_16, ns_16, nr_16, nl_m1, ni_add, ni_mul, ni_sub, ni_cl, ni_in, vp_0, vp_1, vp_2, vp_3, vp_4, vp_5, Int32.reduceToNatClampNeg]
        rw [List.append_assoc] at hQ2
        exact ih (i + 1) w2 b2 cap2 _ _ (by omega) (by omega) (by omega) hQ2
    simp only [vX10_asText_10, vX10_asText_11, vX10_asText_12, vX10_asText_15, vX10_asText_18, vX10_asText_19, pI_c, pL_c, pF_c, pD_c, pA_n, pA_c, pA_rf, pR_c, pR_rf, pV_i, pV_a, pV_n, pV_rf, ldI_c, ldL_c, ldF_c, ldD_c, ldA_c, ldA_n, ldA_rf, dup2_l, dup2_ia, dup2_ir, popA_0, popA_s, getL_z, getL_s, setL_z, setL_1, setL_s, setL2_z, setL2_1, setL2_s, drop2_i, drop2_a, drop2_0, drop2_n, drop2_l, drop2_d, drop2_r, cwd_0, cwd_i, cwd_a, cwd_n, cwd_l, cwd_d, cwd_f, cwd_r, rf_s, rf_n, swi_0, swi_s, zR_b0, zR_b1, zN_b0, zN_b1, entV_i, entV_a, entV_n, entV_r, entV_f, entV_l, entV_d, entV_s, entV_0, List.length_cons, List.length_nil, List.nil_append, List.cons_append, true_and, and_true, Nat.reduceAdd, Nat.reduceLT, Nat.reduceEqDiff, Nat.reduceLeDiff, Nat.reduceSub, Nat.zero_add, Classical.not_not, ex_i, ex_l, ex_d, ex_r, ex_rs, ex_rn, ex_sm, Nat.sub_zero, eq_self, wn_sI, wn_sL, wn_sP, wsh_sI, wsh_sL, wsh_sP, wI_sL, wI_sP, wL_sI, wL_sP, wP_sI, wP_sL, wI_sI, wL_sL, Int32.reduceLT, Int32.reduceLE, true_implies, not_true_eq_false, false_implies, not_false_eq_true, i_10, a1, a2, m1]
    by_cases q : 0 < i
    · have m2 : ¬ nI i ≤ 0 := by rw [ni_lit 0, ni_le (by omega) (by decide)]; omega
      rw [if_pos q] at go
      obtain ⟨h1, h2, h3, h4, h5, h6, h7, h8, h9, h10⟩ := id hQ
      have ha := h7.1
      simp only [vX10_asText_22, vX10_asText_23, vX10_asText_25, pI_c, pL_c, pF_c, pD_c, pA_n, pA_c, pA_rf, pR_c, pR_rf, pV_i, pV_a, pV_n, pV_rf, ldI_c, ldL_c, ldF_c, ldD_c, ldA_c, ldA_n, ldA_rf, dup2_l, dup2_ia, dup2_ir, popA_0, popA_s, getL_z, getL_s, setL_z, setL_1, setL_s, setL2_z, setL2_1, setL2_s, drop2_i, drop2_a, drop2_0, drop2_n, drop2_l, drop2_d, drop2_r, cwd_0, cwd_i, cwd_a, cwd_n, cwd_l, cwd_d, cwd_f, cwd_r, rf_s, rf_n, swi_0, swi_s, zR_b0, zR_b1, zN_b0, zN_b1, entV_i, entV_a, entV_n, entV_r, entV_f, entV_l, entV_d, entV_s, entV_0, List.length_cons, List.length_nil, List.nil_append, List.cons_append, true_and, and_true, Nat.reduceAdd, Nat.reduceLT, Nat.reduceEqDiff, Nat.reduceLeDiff, Nat.reduceSub, Nat.zero_add, Classical.not_not, ex_i, ex_l, ex_d, ex_r, ex_rs, ex_rn, ex_sm, Nat.sub_zero, eq_self, wn_sI, wn_sL, wn_sP, wsh_sI, wsh_sL, wsh_sP, wI_sL, wI_sP, wL_sI, wL_sP, wP_sI, wP_sL, wI_sI, wL_sL, Int32.reduceLT, Int32.reduceLE, true_implies, not_true_eq_false, false_implies, not_false_eq_true, i_10, m2, ha]
      have hgk : gK cap ((spT s v i).length + 1) ≤ 1 := by unfold gK; split <;> omega
      have hgn : gN cap ((spT s v i).length + 1) ≤ 600 := by
        unfold gN
        split
        · omega
        · exact (ncp_le (by omega) h7.2.2.2.2.2.2.1).1
      refine J4_appendC_ok (c := 59) h7 (by omega) (by omega) (by omega) h5 (by omega) (by decide) (by omega) (by omega) fun w1 b1 hA1 => ?_
      simp only [vX10_asText_28, pI_c, pL_c, pF_c, pD_c, pA_n, pA_c, pA_rf, pR_c, pR_rf, pV_i, pV_a, pV_n, pV_rf, ldI_c, ldL_c, ldF_c, ldD_c, ldA_c, ldA_n, ldA_rf, dup2_l, dup2_ia, dup2_ir, popA_0, popA_s, getL_z, getL_s, setL_z, setL_1, setL_s, setL2_z, setL2_1, setL2_s, drop2_i, drop2_a, drop2_0, drop2_n, drop2_l, drop2_d, drop2_r, cwd_0, cwd_i, cwd_a, cwd_n, cwd_l, cwd_d, cwd_f, cwd_r, rf_s, rf_n, swi_0, swi_s, zR_b0, zR_b1, zN_b0, zN_b1, entV_i, entV_a, entV_n, entV_r, entV_f, entV_l, entV_d, entV_s, entV_0, List.length_cons, List.length_nil, List.nil_append, List.cons_append, true_and, and_true, Nat.reduceAdd, Nat.reduceLT, Nat.reduceEqDiff, Nat.reduceLeDiff, Nat.reduceSub, Nat.zero_add, Classical.not_not, ex_i, ex_l, ex_d, ex_r, ex_rs, ex_rn, ex_sm, Nat.sub_zero, eq_self, wn_sI, wn_sL, wn_sP, wsh_sI, wsh_sL, wsh_sP, wI_sL, wI_sP, wL_sI, wL_sP, wP_sI, wP_sL, wI_sI, wL_sL, Int32.reduceLT, Int32.reduceLE, true_implies, not_true_eq_false, false_implies, not_false_eq_true, i_10]
      exact go w1 b1 _ _ _ (by omega) (by omega) ((hQ.ap (by omega) hA1 |> fun z => (⟨z.1, z.2.1, z.2.2.1, z.2.2.2.1, z.2.2.2.2.1, z.2.2.2.2.2.1, z.2.2.2.2.2.2.1, z.2.2.2.2.2.2.2.1, by have := z.2.2.2.2.2.2.2.1; omega, by omega⟩ : SBQ g (wn w0) w0 w1 a b1 _ (spT s v i ++ [59]) 17 960)))
    · have m2 : nI i ≤ 0 := by rw [ni_lit 0, ni_le (by omega) (by decide)]; omega
      rw [if_neg q, List.append_nil] at go
      simp only [pI_c, pL_c, pF_c, pD_c, pA_n, pA_c, pA_rf, pR_c, pR_rf, pV_i, pV_a, pV_n, pV_rf, ldI_c, ldL_c, ldF_c, ldD_c, ldA_c, ldA_n, ldA_rf, dup2_l, dup2_ia, dup2_ir, popA_0, popA_s, getL_z, getL_s, setL_z, setL_1, setL_s, setL2_z, setL2_1, setL2_s, drop2_i, drop2_a, drop2_0, drop2_n, drop2_l, drop2_d, drop2_r, cwd_0, cwd_i, cwd_a, cwd_n, cwd_l, cwd_d, cwd_f, cwd_r, rf_s, rf_n, swi_0, swi_s, zR_b0, zR_b1, zN_b0, zN_b1, entV_i, entV_a, entV_n, entV_r, entV_f, entV_l, entV_d, entV_s, entV_0, List.length_cons, List.length_nil, List.nil_append, List.cons_append, true_and, and_true, Nat.reduceAdd, Nat.reduceLT, Nat.reduceEqDiff, Nat.reduceLeDiff, Nat.reduceSub, Nat.zero_add, Classical.not_not, ex_i, ex_l, ex_d, ex_r, ex_rs, ex_rn, ex_sm, Nat.sub_zero, eq_self, wn_sI, wn_sL, wn_sP, wsh_sI, wsh_sL, wsh_sP, wI_sL, wI_sP, wL_sI, wL_sP, wP_sI, wP_sL, wI_sI, wL_sL, Int32.reduceLT, Int32.reduceLE, true_implies, not_true_eq_false, false_implies, not_false_eq_true, i_10, m2]
      exact go w b cap k0 n0 (by omega) (by omega) hQ
set_option maxRecDepth 100000 in
set_option maxHeartbeats 4000000 in
theorem X10_asText_ok {g : Ge} {w : Wd} {k n : Nat} {K : Option Nat → Wd → Nat → Nat → Prop} {A fc v nn : Nat} {s : St} (hC : Cn g w) (hgw : gB g ≤ wn w) (hW : WF w) (hV : VerO 0 w A fc nn v s) (hk : 150 ≤ k) (hn : 12900 ≤ n) (h : ∀ w' t, wn w ≤ wn w' → WF w' → (∀ c, c < wn w → Same c w w') → wn w ≤ t → wsh w' t = (13, 0) → wI w' t 1 = 0 → wP w' t 0 = some (t + 1) → wsh w' (t + 1) = (103, (spT s v nn).length) → bufH (wI w' (t + 1)) 0 (spT s v nn) → (∀ i, i < (spT s v nn).length → chr (wI w' (t + 1) i)) → K (some t) w' (k - 150) (n - 12900)) : cR g mX10_asText [.ref A] w k n K := by
  have hn8 := hV.n8
  obtain ⟨v1, v2, v3, v4, v5, v6, v7, v8, v9, v10⟩ := id hV
  have hA : A < wn w := hW.lt (by rw [v5]; decide)
  have hfc : fc < wn w := hW.lt (by rw [v9]; show 106 < 109; omega)
  have hlen := spT_len (fun k hk => v3.2.1 k hk) nn (Nat.le_refl _)
  refine cR_of 3 150 12900 rfl (by decide +kernel) rfl (Nat.le_of_ble_eq_true rfl) hk hn ?_
  simp only [vX10_asText_0, vX10_asText_3, vX10_asText_4, pI_c, pL_c, pF_c, pD_c, pA_n, pA_c, pA_rf, pR_c, pR_rf, pV_i, pV_a, pV_n, pV_rf, ldI_c, ldL_c, ldF_c, ldD_c, ldA_c, ldA_n, ldA_rf, dup2_l, dup2_ia, dup2_ir, popA_0, popA_s, getL_z, getL_s, setL_z, setL_1, setL_s, setL2_z, setL2_1, setL2_s, drop2_i, drop2_a, drop2_0, drop2_n, drop2_l, drop2_d, drop2_r, cwd_0, cwd_i, cwd_a, cwd_n, cwd_l, cwd_d, cwd_f, cwd_r, rf_s, rf_n, swi_0, swi_s, zR_b0, zR_b1, zN_b0, zN_b1, entV_i, entV_a, entV_n, entV_r, entV_f, entV_l, entV_d, entV_s, entV_0, List.length_cons, List.length_nil, List.nil_append, List.cons_append, true_and, and_true, Nat.reduceAdd, Nat.reduceLT, Nat.reduceEqDiff, Nat.reduceLeDiff, Nat.reduceSub, Nat.zero_add, Classical.not_not, ex_i, ex_l, ex_d, ex_r, ex_rs, ex_rn, ex_sm, Nat.sub_zero, eq_self, wn_sI, wn_sL, wn_sP, wsh_sI, wsh_sL, wsh_sP, wI_sL, wI_sP, wL_sI, wL_sP, wP_sI, wP_sL, wI_sI, wL_sL, Int32.reduceLT, Int32.reduceLE, true_implies, not_true_eq_false, false_implies, not_false_eq_true, i_10]
  have W0 := nw_wf hW 14 0
  refine J4_init_ok hgw (by rw [wn_nw]; omega) (wsh_nwA w 14 0) (by rw [wn_nw]; omega) (by rw [wI_nwA]) W0 (by omega) (by omega) fun w1 e1 e2 e3 S1 => ?_
  rw [wn_nw] at e1 e3 S1
  simp only [vX10_asText_7, vX10_asText_8, vX10_asText_9, pI_c, pL_c, pF_c, pD_c, pA_n, pA_c, pA_rf, pR_c, pR_rf, pV_i, pV_a, pV_n, pV_rf, ldI_c, ldL_c, ldF_c, ldD_c, ldA_c, ldA_n, ldA_rf, dup2_l, dup2_ia, dup2_ir, popA_0, popA_s, getL_z, getL_s, setL_z, setL_1, setL_s, setL2_z, setL2_1, setL2_s, drop2_i, drop2_a, drop2_0, drop2_n, drop2_l, drop2_d, drop2_r, cwd_0, cwd_i, cwd_a, cwd_n, cwd_l, cwd_d, cwd_f, cwd_r, rf_s, rf_n, swi_0, swi_s, zR_b0, zR_b1, zN_b0, zN_b1, entV_i, entV_a, entV_n, entV_r, entV_f, entV_l, entV_d, entV_s, entV_0, List.length_cons, List.length_nil, List.nil_append, List.cons_append, true_and, and_true, Nat.reduceAdd, Nat.reduceLT, Nat.reduceEqDiff, Nat.reduceLeDiff, Nat.reduceSub, Nat.zero_add, Classical.not_not, ex_i, ex_l, ex_d, ex_r, ex_rs, ex_rn, ex_sm, Nat.sub_zero, eq_self, wn_sI, wn_sL, wn_sP, wsh_sI, wsh_sL, wsh_sP, wI_sL, wI_sP, wL_sI, wL_sP, wP_sI, wP_sL, wI_sI, wL_sL, Int32.reduceLT, Int32.reduceLE, true_implies, not_true_eq_false, false_implies, not_false_eq_true, i_10]
  rw [show (0 : Int32) = nI 0 from rfl]
  have sm : ∀ c, c < wn w → Same c w w1 := fun c hc => (nw_same (by omega)).tr (e3 c (by omega) (by omega))
  refine X10_as_loop hC hA hV hfc (fun k d hk hd => ?_) (fun w' b' cap' k' n' hk' hn' hQ => ?_) nn 0 w1 (wn w + 1) 16 _ _ (by omega) (by omega) (by omega) ⟨hgw, Nat.le_refl _, by omega, by omega, e2, sm, S1, by decide, by decide, by decide⟩
  · obtain ⟨d', -, d2, d3⟩ := v10 k hk
    rw [d2] at hd
    cases hd
    exact hW.lt (by rw [d3.1]; decide)
  · obtain ⟨h1, h2, h3, h4, h5, h6, h7, h8, h9, h10⟩ := id hQ
    have ha := h7.1
    simp only [vX10_asText_45, vX10_asText_46, pI_c, pL_c, pF_c, pD_c, pA_n, pA_c, pA_rf, pR_c, pR_rf, pV_i, pV_a, pV_n, pV_rf, ldI_c, ldL_c, ldF_c, ldD_c, ldA_c, ldA_n, ldA_rf, dup2_l, dup2_ia, dup2_ir, popA_0, popA_s, getL_z, getL_s, setL_z, setL_1, setL_s, setL2_z, setL2_1, setL2_s, drop2_i, drop2_a, drop2_0, drop2_n, drop2_l, drop2_d, drop2_r, cwd_0, cwd_i, cwd_a, cwd_n, cwd_l, cwd_d, cwd_f, cwd_r, rf_s, rf_n, swi_0, swi_s, zR_b0, zR_b1, zN_b0, zN_b1, entV_i, entV_a, entV_n, entV_r, entV_f, entV_l, entV_d, entV_s, entV_0, List.length_cons, List.length_nil, List.nil_append, List.cons_append, true_and, and_true, Nat.reduceAdd, Nat.reduceLT, Nat.reduceEqDiff, Nat.reduceLeDiff, Nat.reduceSub, Nat.zero_add, Classical.not_not, ex_i, ex_l, ex_d, ex_r, ex_rs, ex_rn, ex_sm, Nat.sub_zero, eq_self, wn_sI, wn_sL, wn_sP, wsh_sI, wsh_sL, wsh_sP, wI_sL, wI_sP, wL_sI, wL_sP, wP_sI, wP_sL, wI_sI, wL_sL, Int32.reduceLT, Int32.reduceLE, true_implies, not_true_eq_false, false_implies, not_false_eq_true, i_10, ha]
    refine J4_toString_ok h7 (by omega) (by omega) h5 (by omega) (by omega) fun w2 g1 g2 g3 g4 g5 g6 g7 g8 g9 => ?_
    simp only [vX10_asText_49, pI_c, pL_c, pF_c, pD_c, pA_n, pA_c, pA_rf, pR_c, pR_rf, pV_i, pV_a, pV_n, pV_rf, ldI_c, ldL_c, ldF_c, ldD_c, ldA_c, ldA_n, ldA_rf, dup2_l, dup2_ia, dup2_ir, popA_0, popA_s, getL_z, getL_s, setL_z, setL_1, setL_s, setL2_z, setL2_1, setL2_s, drop2_i, drop2_a, drop2_0, drop2_n, drop2_l, drop2_d, drop2_r, cwd_0, cwd_i, cwd_a, cwd_n, cwd_l, cwd_d, cwd_f, cwd_r, rf_s, rf_n, swi_0, swi_s, zR_b0, zR_b1, zN_b0, zN_b1, entV_i, entV_a, entV_n, entV_r, entV_f, entV_l, entV_d, entV_s, entV_0, List.length_cons, List.length_nil, List.nil_append, List.cons_append, true_and, and_true, Nat.reduceAdd, Nat.reduceLT, Nat.reduceEqDiff, Nat.reduceLeDiff, Nat.reduceSub, Nat.zero_add, Classical.not_not, ex_i, ex_l, ex_d, ex_r, ex_rs, ex_rn, ex_sm, Nat.sub_zero, eq_self, wn_sI, wn_sL, wn_sP, wsh_sI, wsh_sL, wsh_sP, wI_sL, wI_sP, wL_sI, wL_sP, wP_sI, wP_sL, wI_sI, wL_sL, Int32.reduceLT, Int32.reduceLE, true_implies, not_true_eq_false, false_implies, not_false_eq_true, i_10]
    exact h w2 (wn w') (by omega) g2 (fun c hc => (h6 c hc).tr (g3 c (by omega))) h4 g4 g5 g6 g7 g8 g9
theorem VerO.lo {b b' : Nat} {w : Wd} {a c n v : Nat} {s : St} (hb : b' ≤ b) (h : VerO b w a c n v s) : VerO b' w a c n v s := by
  obtain ⟨v1, v2, v3, v4, v5, v6, v7, v8, v9, v10⟩ := h
  refine ⟨v1, v2, v3, by omega, v5, v6, by omega, v8, v9, fun k hk => ?_⟩
  obtain ⟨d, d1, d2, d3⟩ := v10 k hk
  exact ⟨d, by omega, d2, d3⟩
theorem AbsX.papTo {x : Nat} {w w' : Wd} {s s' : St} {T : Nat → Nat → Prop} (hA : AbsX x w s) (hk : Keep x w w') (hS : ∀ o, 1 ≤ o → o ≤ 40 → Same (x + o) w w') (h0 : wI w' x = wI w x ∧ wL w' x = wL w x) (hB : Bt T s s') (hT : ∀ o j, T o j → (o = 0 ∧ j = 17) ∨ o = 15) (h5 : PapR x w' (wP w' x 10) (s'.1 0 17) (s'.1 15)) : AbsX x w' s' := by
  obtain ⟨ra, rb, h1, h2, h3, h4, -, h6, h7, h8, h9, h10⟩ := hA
  obtain ⟨i0, l0⟩ := h0
  have b0 : ∀ j, j < 35 → j ≠ 17 → s'.1 0 j = s.1 0 j ∧ s'.2 0 j = s.2 0 j := fun j hj h15 => hB 0 j (Or.inl ⟨rfl, hj⟩) fun z => by have := hT _ _ z; omega
  have bo : ∀ o, 1 ≤ o → o ≤ 25 → o ≠ 15 → s'.1 o = s.1 o ∧ s'.2 o = s.2 o := fun o h1 h2 h3 => ⟨hB.A o h1 h2 fun j z => by have := hT _ _ z; omega, hB.B o h1 h2 fun j z => by have := hT _ _ z; omega⟩
  have c := fun o h1 h2 h3 => (bo o h1 h2 h3).1
  refine ⟨ra, rb, ?_, ?_, ?_, ?_, h5, ?_, ?_, ?_, ?_, ?_⟩
  · rw [(hS 1 (by decide) (by decide)).2.2.2, c 1 (by decide) (by decide) (by decide), c 2 (by decide) (by decide) (by decide), c 3 (by decide) (by decide) (by decide), c 4 (by decide) (by decide) (by decide), (bo 5 (by decide) (by decide) (by decide)).2]
    exact h1.keep hk rfl
  · rw [(hS 2 (by decide) (by decide)).2.2.2]
    exact (h2.keep hk rfl).cg (fun v _ => by rw [c 6 (by decide) (by decide) (by decide)]) fun j i hj _ => by rw [c (7 + j) (by omega) (by omega) (by omega)]
  · rw [i0, (hS 3 (by decide) (by decide)).2.1, (b0 15 (by decide) (by decide)).1, c 14 (by decide) (by decide) (by decide)]
    exact h3
  · rw [i0, (hS 4 (by decide) (by decide)).2.1, (b0 13 (by decide) (by decide)).1, c 13 (by decide) (by decide) (by decide)]
    exact h4
  · rw [i0, l0, (b0 19 (by decide) (by decide)).1, (b0 20 (by decide) (by decide)).2]
    exact h6
  · rw [i0, (b0 5 (by decide) (by decide)).1]
    exact h7
  · rw [(hS 36 (by decide) (by decide)).2.1, (b0 21 (by decide) (by decide)).1, c 16 (by decide) (by decide) (by decide)]
    exact h8
  · intro i hi
    rw [(hS 5 (by decide) (by decide)).2.1, c 17 (by decide) (by decide) (by decide)]
    exact h9 i hi
  · refine h10.keep hk (hS 38 (by decide) (by decide)).2.2.2 (hS 39 (by decide) (by decide)).2.2.2 (hS 37 (by decide) (by decide)).2.1 (hS 40 (by decide) (by decide)).2.1 (fun o h1 h2 => bo o (by omega) h2 (by omega)) (fun j h1 h2 => (b0 j (by omega) (by omega)).1) ?_
    rw [c 1 (by decide) (by decide) (by decide)]
    exact h10.ne
set_option maxRecDepth 100000 in
set_option maxHeartbeats 4000000 in
theorem X_spell {g : Ge} {w : Wd} {k n : Nat} {K : Int32 → Wd → Nat → Nat → Prop} {x : Nat} {s : St} (hI : CI g x w s) (hk : 1000 ≤ k) (hn : 14000 ≤ n) (a : Int32) (h : ∀ ans w', Xo g x w w' → (∀ b s', SpSpell s a b s' → b = ans ∧ AbsX x w' s') → K ans w' (k - 1000) (n - 14000)) : cI g mX11_spell [.ref x, .int a] w k n K := by
  obtain ⟨hx, hC, hW, hw, hA⟩ := id hI
  have hgx := hx.1
  refine cI_of 3 1000 14000 rfl (by decide +kernel) rfl (Nat.le_of_ble_eq_true rfl) hk hn ?_
  simp only [vX11_spell_0, vX11_spell_1, vX11_spell_2, xs_b hx, xs_0 hx, xs_obj hx, pI_c, pL_c, pF_c, pD_c, pA_n, pA_c, pA_rf, pR_c, pR_rf, pV_i, pV_a, pV_n, pV_rf, ldI_c, ldL_c, ldF_c, ldD_c, ldA_c, ldA_n, ldA_rf, dup2_l, dup2_ia, dup2_ir, popA_0, popA_s, getL_z, getL_s, setL_z, setL_1, setL_s, setL2_z, setL2_1, setL2_s, drop2_i, drop2_a, drop2_0, drop2_n, drop2_l, drop2_d, drop2_r, cwd_0, cwd_i, cwd_a, cwd_n, cwd_l, cwd_d, cwd_f, cwd_r, rf_s, rf_n, swi_0, swi_s, zR_b0, zR_b1, zN_b0, zN_b1, entV_i, entV_a, entV_n, entV_r, entV_f, entV_l, entV_d, entV_s, entV_0, List.length_cons, List.length_nil, List.nil_append, List.cons_append, true_and, and_true, Nat.reduceAdd, Nat.reduceLT, Nat.reduceEqDiff, Nat.reduceLeDiff, Nat.reduceSub, Nat.zero_add, Classical.not_not, ex_i, ex_l, ex_d, ex_r, ex_rs, ex_rn, ex_sm, Nat.sub_zero, eq_self, wn_sI, wn_sL, wn_sP, wsh_sI, wsh_sL, wsh_sP, wI_sL, wI_sP, wL_sI, wL_sP, wP_sI, wP_sL, wI_sI, wL_sL, Int32.reduceLT, Int32.reduceLE, true_implies, not_true_eq_false, false_implies, not_false_eq_true, i_10]
  refine X11_lackOf_ok hx hA a ?_
  by_cases q : lackV s a = 0
  · rw [q]
    obtain ⟨v, hv, rfl, hv0⟩ := lackV_0 q
    have ha : 0 ≤ nI v ∧ nI v ≤ 5 := by
      rw [show (0 : Int32) = nI 0 from rfl, show (5 : Int32) = nI 5 from rfl, ni_le (by omega) (by omega), ni_le (by omega) (by omega)]
      omega
    rcases hA.ver hv with ⟨z1, z2⟩ | ⟨A, fc, nn, z1, hV⟩
    · exact absurd z1 hv0
    have hn8 := hV.n8
    have en : (s.1 6 v).toNatClampNeg = nn := by rw [hV.2.1, ni_cl (by omega)]
    have hlen := spT_len (fun k hk => hV.2.2.1.2.1 k hk) nn (Nat.le_refl _)
    simp (disch := omega) only [vX11_spell_5, vX11_spell_6, vX11_spell_7, vX11_spell_12, vX11_spell_13, vX11_spell_14, vX11_spell_17, vX11_spell_18, xs_b hx, xs_0 hx, xs_obj hx, xs_versions hx, xp_x_1 hx, pI_c, pL_c, pF_c, pD_c, pA_n, pA_c, pA_rf, pR_c, pR_rf, pV_i, pV_a, pV_n, pV_rf, ldI_c, ldL_c, ldF_c, ldD_c, ldA_c, ldA_n, ldA_rf, dup2_l, dup2_ia, dup2_ir, popA_0, popA_s, getL_z, getL_s, setL_z, setL_1, setL_s, setL2_z, setL2_1, setL2_s, drop2_i, drop2_a, drop2_0, drop2_n, drop2_l, drop2_d, drop2_r, cwd_0, cwd_i, cwd_a, cwd_n, cwd_l, cwd_d, cwd_f, cwd_r, rf_s, rf_n, swi_0, swi_s, zR_b0, zR_b1, zN_b0, zN_b1, entV_i, entV_a, entV_n, entV_r, entV_f, entV_l, entV_d, entV_s, entV_0, List.length_cons, List.length_nil, List.nil_append, List.cons_append, true_and, and_true, Nat.reduceAdd, Nat.reduceLT, Nat.reduceEqDiff, Nat.reduceLeDiff, Nat.reduceSub, Nat.zero_add, Classical.not_not, ex_i, ex_l, ex_d, ex_r, ex_rs, ex_rn, ex_sm, Nat.sub_zero, eq_self, wn_sI, wn_sL, wn_sP, wsh_sI, wsh_sL, wsh_sP, wI_sL, wI_sP, wL_sI, wL_sP, wP_sI, wP_sL, wI_sI, wL_sL, Int32.reduceLT, Int32.reduceLE, true_implies, not_true_eq_false, false_implies, not_false_eq_true, i_10, na_1, nb_1, nm_1, ns_1, nr_1, na_2, nb_2, nm_2, ns_2, nr_2, na_3, nb_3, nm_3, ns_3, nr_3, na_4, nb_4, nm_4, ns_4, nr_4, na_5, nb_5, nm_5, ns_5, nr_5, na_6, nb_6, nm_6, ns_6, nr_6, na_7, nb_7, nm_7, ns_7, nr_7, na_8, nb_8, nm_8, ns_8, nr_8, na_10, nb_10, nm_10, ns_10, nr_10, na_16, nb_16, nm_16, ns_16, nr_16, nl_m1, ni_add, ni_mul, ni_sub, ni_cl, ni_in, vp_0, vp_1, vp_2, vp_3, vp_4, vp_5, Int32.reduceToNatClampNeg, z1]
    rw [vX11_spell_19]
    simp only [pI_c, pL_c, pF_c, pD_c, pA_n, pA_c, pA_rf, pR_c, pR_rf, pV_i, pV_a, pV_n, pV_rf, ldI_c, ldL_c, ldF_c, ldD_c, ldA_c, ldA_n, ldA_rf, dup2_l, dup2_ia, dup2_ir, popA_0, popA_s, getL_z, getL_s, setL_z, setL_1, setL_s, setL2_z, setL2_1, setL2_s, drop2_i, drop2_a, drop2_0, drop2_n, drop2_l, drop2_d, drop2_r, cwd_0, cwd_i, cwd_a, cwd_n, cwd_l, cwd_d, cwd_f, cwd_r, rf_s, rf_n, swi_0, swi_s, zR_b0, zR_b1, zN_b0, zN_b1, entV_i, entV_a, entV_n, entV_r, entV_f, entV_l, entV_d, entV_s, entV_0, List.length_cons, List.length_nil, List.nil_append, List.cons_append, true_and, and_true, Nat.reduceAdd, Nat.reduceLT, Nat.reduceEqDiff, Nat.reduceLeDiff, Nat.reduceSub, Nat.zero_add, Classical.not_not, ex_i, ex_l, ex_d, ex_r, ex_rs, ex_rn, ex_sm, Nat.sub_zero, eq_self, wn_sI, wn_sL, wn_sP, wsh_sI, wsh_sL, wsh_sP, wI_sL, wI_sP, wL_sI, wL_sP, wP_sI, wP_sL, wI_sI, wL_sL, Int32.reduceLT, Int32.reduceLE, true_implies, not_true_eq_false, false_implies, not_false_eq_true, i_10, hV.2.2.2.2.1]
    refine X10_asText_ok hC (by omega) hW (hV.lo (Nat.zero_le _)) (by omega) (by omega) fun w1 t f1 f2 f3 f4 f5 f6 f7 f8 f9 f10 => ?_
    have hx1 : XS g x w1 := hx.sam fun o ho => f3 _ (by omega)
    have p10 : wP (sP w1 x 10 (some t)) x 10 = some t := by rw [wP_at, if_pos rfl]
    have s2 : ∀ b, b ≠ x → Same b w1 (sP w1 x 10 (some t)) := fun b hb => sP_same hb
    have hx2 : XS g x (sP w1 x 10 (some t)) := hx1.sm (fun o _ => by rw [wsh_sP]) fun q hq => by
      have t1 : ∀ q ∈ xpT, q.1 = 0 → q.2.1 ≠ 10 := by decide
      rw [wP_sP]
      unfold up2
      rw [if_neg fun z => t1 q hq (by omega) z.2]
    have sxI : wI (sP w1 x 10 (some t)) x = wI w x := by rw [wI_sP, (f3 x (by omega)).2.1]
    have sxL : wL (sP w1 x 10 (some t)) x = wL w x := by rw [wL_sP, (f3 x (by omega)).2.2.1]
    have N2 : wn (sP w1 x 10 (some t)) = wn w1 := by rw [wn_sP]
    have W2 : WF (sP w1 x 10 (some t)) := fun b hb => by rw [wn_sP] at hb; rw [wsh_sP]; exact f2 b hb
    simp (disch := omega) only [vX11_spell_22, vX11_spell_25, vX11_spell_26, xs_b hx1, xs_0 hx1, xs_obj hx1, pI_c, pL_c, pF_c, pD_c, pA_n, pA_c, pA_rf, pR_c, pR_rf, pV_i, pV_a, pV_n, pV_rf, ldI_c, ldL_c, ldF_c, ldD_c, ldA_c, ldA_n, ldA_rf, dup2_l, dup2_ia, dup2_ir, popA_0, popA_s, getL_z, getL_s, setL_z, setL_1, setL_s, setL2_z, setL2_1, setL2_s, drop2_i, drop2_a, drop2_0, drop2_n, drop2_l, drop2_d, drop2_r, cwd_0, cwd_i, cwd_a, cwd_n, cwd_l, cwd_d, cwd_f, cwd_r, rf_s, rf_n, swi_0, swi_s, zR_b0, zR_b1, zN_b0, zN_b1, entV_i, entV_a, entV_n, entV_r, entV_f, entV_l, entV_d, entV_s, entV_0, List.length_cons, List.length_nil, List.nil_append, List.cons_append, true_and, and_true, Nat.reduceAdd, Nat.reduceLT, Nat.reduceEqDiff, Nat.reduceLeDiff, Nat.reduceSub, Nat.zero_add, Classical.not_not, ex_i, ex_l, ex_d, ex_r, ex_rs, ex_rn, ex_sm, Nat.sub_zero, eq_self, wn_sI, wn_sL, wn_sP, wsh_sI, wsh_sL, wsh_sP, wI_sL, wI_sP, wL_sI, wL_sP, wP_sI, wP_sL, wI_sI, wL_sL, Int32.reduceLT, Int32.reduceLE, true_implies, not_true_eq_false, false_implies, not_false_eq_true, i_10]
    rw [vX11_spell_29]
    generalize sP w1 x 10 (some t) = w2 at p10 s2 hx2 sxI sxL N2 W2 ⊢
    have st := s2 t (by omega)
    have st1 := s2 (t + 1) (by omega)
    have g5 : wsh w2 t = (13, 0) := st.1.trans f5
    have g6 : wI w2 t 1 = 0 := by rw [st.2.1]; exact f6
    have g7 : wP w2 t 0 = some (t + 1) := by rw [st.2.2.2]; exact f7
    have g8 : wsh w2 (t + 1) = (103, (spT s v nn).length) := st1.1.trans f8
    simp only [xs_b hx2, xs_0 hx2, xs_obj hx2, pI_c, pL_c, pF_c, pD_c, pA_n, pA_c, pA_rf, pR_c, pR_rf, pV_i, pV_a, pV_n, pV_rf, ldI_c, ldL_c, ldF_c, ldD_c, ldA_c, ldA_n, ldA_rf, dup2_l, dup2_ia, dup2_ir, popA_0, popA_s, getL_z, getL_s, setL_z, setL_1, setL_s, setL2_z, setL2_1, setL2_s, drop2_i, drop2_a, drop2_0, drop2_n, drop2_l, drop2_d, drop2_r, cwd_0, cwd_i, cwd_a, cwd_n, cwd_l, cwd_d, cwd_f, cwd_r, rf_s, rf_n, swi_0, swi_s, zR_b0, zR_b1, zN_b0, zN_b1, entV_i, entV_a, entV_n, entV_r, entV_f, entV_l, entV_d, entV_s, entV_0, List.length_cons, List.length_nil, List.nil_append, List.cons_append, true_and, and_true, Nat.reduceAdd, Nat.reduceLT, Nat.reduceEqDiff, Nat.reduceLeDiff, Nat.reduceSub, Nat.zero_add, Classical.not_not, ex_i, ex_l, ex_d, ex_r, ex_rs, ex_rn, ex_sm, Nat.sub_zero, eq_self, wn_sI, wn_sL, wn_sP, wsh_sI, wsh_sL, wsh_sP, wI_sL, wI_sP, wL_sI, wL_sP, wP_sI, wP_sL, wI_sI, wL_sL, Int32.reduceLT, Int32.reduceLE, true_implies, not_true_eq_false, false_implies, not_false_eq_true, i_10, p10, g5]
    refine J0_length_ok g5 g6 g7 g8 ?_
    simp only [vX11_spell_32, pI_c, pL_c, pF_c, pD_c, pA_n, pA_c, pA_rf, pR_c, pR_rf, pV_i, pV_a, pV_n, pV_rf, ldI_c, ldL_c, ldF_c, ldD_c, ldA_c, ldA_n, ldA_rf, dup2_l, dup2_ia, dup2_ir, popA_0, popA_s, getL_z, getL_s, setL_z, setL_1, setL_s, setL2_z, setL2_1, setL2_s, drop2_i, drop2_a, drop2_0, drop2_n, drop2_l, drop2_d, drop2_r, cwd_0, cwd_i, cwd_a, cwd_n, cwd_l, cwd_d, cwd_f, cwd_r, rf_s, rf_n, swi_0, swi_s, zR_b0, zR_b1, zN_b0, zN_b1, entV_i, entV_a, entV_n, entV_r, entV_f, entV_l, entV_d, entV_s, entV_0, List.length_cons, List.length_nil, List.nil_append, List.cons_append, true_and, and_true, Nat.reduceAdd, Nat.reduceLT, Nat.reduceEqDiff, Nat.reduceLeDiff, Nat.reduceSub, Nat.zero_add, Classical.not_not, ex_i, ex_l, ex_d, ex_r, ex_rs, ex_rn, ex_sm, Nat.sub_zero, eq_self, wn_sI, wn_sL, wn_sP, wsh_sI, wsh_sL, wsh_sP, wI_sL, wI_sP, wL_sI, wL_sP, wP_sI, wP_sL, wI_sI, wL_sL, Int32.reduceLT, Int32.reduceLE, true_implies, not_true_eq_false, false_implies, not_false_eq_true, i_10]
    have sm : ∀ b, b < wn w → b ≠ x → Same b w w2 := fun b hb hne => (f3 b hb).tr (s2 b hne)
    have kp : Keep x w w2 := fun b hb ht => sm b (hW.lt ht) (by omega)
    refine h _ w2 ⟨by omega, W2, hx2, fun b hb => sm b (by omega) (by omega)⟩ fun b s' z => ?_
    unfold SpSpell at z
    rw [if_neg (not_not_intro ha), ni_cl (by omega), if_neg hv0, en] at z
    obtain ⟨y1, y2, y3, y4⟩ := z
    refine ⟨y1, hA.papTo kp (fun o h1 h2 => sm _ (by omega) (by omega)) ⟨sxI, sxL⟩ y2 (fun o j q => q) ⟨(spT s v nn).length, t, by omega, y3, p10, Or.inr (by omega), fun b hb => ?_, g5, g6, t + 1, g7, g8, fun i hi => ?_⟩⟩
    · rw [g7] at hb
      cases hb
      exact Or.inr (by omega)
    · rw [st1.2.1]
      have b1 := f9 i hi
      have b2 := y4 i hi
      rw [Nat.zero_add] at b1 b2
      have e := Option.some.inj (b1.symm.trans b2)
      exact ⟨e, by rw [← e]; exact f10 i hi⟩
  · simp only [vX11_spell_5, vX11_spell_6, vX11_spell_7, vX11_spell_10, vX11_spell_11, xs_b hx, xs_0 hx, xs_obj hx, pI_c, pL_c, pF_c, pD_c, pA_n, pA_c, pA_rf, pR_c, pR_rf, pV_i, pV_a, pV_n, pV_rf, ldI_c, ldL_c, ldF_c, ldD_c, ldA_c, ldA_n, ldA_rf, dup2_l, dup2_ia, dup2_ir, popA_0, popA_s, getL_z, getL_s, setL_z, setL_1, setL_s, setL2_z, setL2_1, setL2_s, drop2_i, drop2_a, drop2_0, drop2_n, drop2_l, drop2_d, drop2_r, cwd_0, cwd_i, cwd_a, cwd_n, cwd_l, cwd_d, cwd_f, cwd_r, rf_s, rf_n, swi_0, swi_s, zR_b0, zR_b1, zN_b0, zN_b1, entV_i, entV_a, entV_n, entV_r, entV_f, entV_l, entV_d, entV_s, entV_0, List.length_cons, List.length_nil, List.nil_append, List.cons_append, true_and, and_true, Nat.reduceAdd, Nat.reduceLT, Nat.reduceEqDiff, Nat.reduceLeDiff, Nat.reduceSub, Nat.zero_add, Classical.not_not, ex_i, ex_l, ex_d, ex_r, ex_rs, ex_rn, ex_sm, Nat.sub_zero, eq_self, wn_sI, wn_sL, wn_sP, wsh_sI, wsh_sL, wsh_sP, wI_sL, wI_sP, wL_sI, wL_sP, wP_sI, wP_sL, wI_sI, wL_sL, Int32.reduceLT, Int32.reduceLE, true_implies, not_true_eq_false, false_implies, not_false_eq_true, i_10, q]
    refine SpNo hI h fun b s' z => ?_
    unfold SpSpell at z
    unfold lackV at q ⊢
    by_cases ha : 0 ≤ a ∧ a ≤ 5
    · rw [if_neg (not_not_intro ha)] at z q ⊢
      by_cases q3 : s.1 6 a.toNatClampNeg = 0
      · rw [if_pos q3] at z ⊢
        exact z
      · rw [if_neg q3] at q
        exact absurd rfl q
    · rw [if_pos ha] at z ⊢
      exact z
