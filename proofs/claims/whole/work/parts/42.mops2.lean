/-! the reference's calls: make, same, of, read, write, box -/
theorem dlt (x : Int32) : (if x = nI 0 then 1 else 0) + (if x = nI 1 then 1 else 0) + (if x = nI 2 then 1 else 0) + (if x = nI 3 then 1 else 0) + (if x = nI 4 then 1 else 0) + (if x = nI 5 then 1 else 0) + (if x = nI 6 then 1 else 0) + (if x = nI 7 then 1 else 0) ≤ 1 := by
  by_cases h0 : x = nI 0
  · subst h0; decide
  by_cases h1 : x = nI 1
  · subst h1; decide
  by_cases h2 : x = nI 2
  · subst h2; decide
  by_cases h3 : x = nI 3
  · subst h3; decide
  by_cases h4 : x = nI 4
  · subst h4; decide
  by_cases h5 : x = nI 5
  · subst h5; decide
  by_cases h6 : x = nI 6
  · subst h6; decide
  by_cases h7 : x = nI 7
  · subst h7; decide
  simp only [h0, h1, h2, h3, h4, h5, h6, h7, if_false]
  decide
theorem cnt_sum (f : Nat → Int32) : ∀ n, cntI f (nI 0) n + cntI f (nI 1) n + cntI f (nI 2) n + cntI f (nI 3) n + cntI f (nI 4) n + cntI f (nI 5) n + cntI f (nI 6) n + cntI f (nI 7) n ≤ n
  | 0 => Nat.le_refl 0
  | n + 1 => by
    have h1 := cnt_sum f n
    have h2 := dlt (f n)
    simp only [cntI]
    omega
theorem cnt_sum' (f : Nat → Int32) {s0 : Nat} (h : f s0 = -1) : ∀ n, s0 < n → cntI f (nI 0) n + cntI f (nI 1) n + cntI f (nI 2) n + cntI f (nI 3) n + cntI f (nI 4) n + cntI f (nI 5) n + cntI f (nI 6) n + cntI f (nI 7) n + 1 ≤ n
  | 0, q => by omega
  | n + 1, q => by
    have h2 := dlt (f n)
    by_cases e : s0 = n
    · subst e
      have h1 := cnt_sum f s0
      simp only [cntI, h]
      have d : ∀ r, r < 8 → ¬ (-1 : Int32) = nI r := fun r hr q => ni_nem (show r < 2147483648 by omega) q.symm
      simp only [d 0 (by decide), d 1 (by decide), d 2 (by decide), d 3 (by decide), d 4 (by decide), d 5 (by decide), d 6 (by decide), d 7 (by decide), if_false]
      omega
    · have h1 := cnt_sum' f h n (by omega)
      simp only [cntI]
      omega
theorem cnt_free (f : Nat → Int32) {s0 : Nat} (h0 : s0 < 8) (h : f s0 = -1) : ∃ r, r < 8 ∧ cntI f (nI r) 8 = 0 := by
  have h1 := cnt_sum' f h 8 h0
  by_cases e0 : cntI f (nI 0) 8 = 0
  · exact ⟨0, by decide, e0⟩
  by_cases e1 : cntI f (nI 1) 8 = 0
  · exact ⟨1, by decide, e1⟩
  by_cases e2 : cntI f (nI 2) 8 = 0
  · exact ⟨2, by decide, e2⟩
  by_cases e3 : cntI f (nI 3) 8 = 0
  · exact ⟨3, by decide, e3⟩
  by_cases e4 : cntI f (nI 4) 8 = 0
  · exact ⟨4, by decide, e4⟩
  by_cases e5 : cntI f (nI 5) 8 = 0
  · exact ⟨5, by decide, e5⟩
  by_cases e6 : cntI f (nI 6) 8 = 0
  · exact ⟨6, by decide, e6⟩
  by_cases e7 : cntI f (nI 7) 8 = 0
  · exact ⟨7, by decide, e7⟩
  omega
theorem cnt_0 {f : Nat → Int32} {r : Int32} : ∀ {n : Nat}, cntI f r n = 0 → ∀ s, s < n → ¬ f s = r
  | 0, _, s, hs => by omega
  | n + 1, h, s, hs => by
    unfold cntI at h
    by_cases e : s = n
    · subst e
      intro q
      rw [if_pos q] at h
      omega
    · exact cnt_0 (n := n) (by omega) s (by omega)
theorem cnt_pos {f : Nat → Int32} {r : Int32} : ∀ {n : Nat}, 0 < cntI f r n → ∃ s, s < n ∧ f s = r
  | 0, h => by unfold cntI at h; omega
  | n + 1, h => by
    unfold cntI at h
    by_cases e : f n = r
    · exact ⟨n, by omega, e⟩
    · rw [if_neg e] at h
      obtain ⟨s, h1, h2⟩ := cnt_pos (n := n) (by omega)
      exact ⟨s, by omega, h2⟩
set_option maxRecDepth 100000 in
set_option maxHeartbeats 4000000 in
theorem X12_free_loop {g : Ge} {m : Nat} {w : Wd} {k n : Nat} {K : Option Value → Wd → Prop} (hm : MS g m w) (hK : ∀ r, r < 8 → (∀ s, s < 8 → ¬ wI w (m + 1) s = nI r) → K (some (.int (nI r))) w) {r0 : Nat} (h0 : r0 < 8) (hr : cntI (wI w (m + 1)) (nI r0) 8 = 0) : ∀ (d r : Nat), r + d = r0 → R g mX12_free K 2 [some (.ref m), some (.int (nI r))] [] w k n := by
  intro d
  induction d with
  | zero =>
    intro r hrd
    obtain rfl : r = r0 := by omega
    rw [vX12_free_2]
    simp only [vX12_free_0, vX12_free_1, vX12_free_3, vX12_free_4, vX12_free_7, vX12_free_10, vX12_free_13, vX12_free_16, vX12_free_17, ms_o hm, ms_b hm, ms_0 hm, pI_c, pL_c, pF_c, pD_c, pA_n, pA_c, pA_rf, pR_c, pR_rf, pV_i, pV_a, pV_n, pV_rf, ldI_c, ldL_c, ldF_c, ldD_c, ldA_c, ldA_n, ldA_rf, dup2_l, dup2_ia, dup2_ir, popA_0, popA_s, getL_z, getL_s, setL_z, setL_1, setL_s, setL2_z, setL2_1, setL2_s, drop2_i, drop2_a, drop2_0, drop2_n, drop2_l, drop2_d, drop2_r, cwd_0, cwd_i, cwd_a, cwd_n, cwd_l, cwd_d, cwd_f, cwd_r, rf_s, rf_n, swi_0, swi_s, zR_b0, zR_b1, zN_b0, zN_b1, entV_i, entV_a, entV_n, entV_r, entV_f, entV_l, entV_d, entV_s, entV_0, List.length_cons, List.length_nil, List.nil_append, List.cons_append, true_and, and_true, Nat.reduceAdd, Nat.reduceLT, Nat.reduceEqDiff, Nat.reduceLeDiff, Nat.reduceSub, Nat.zero_add, Classical.not_not, ex_i, ex_l, ex_d, ex_r, ex_rs, ex_rn, ex_sm, Nat.sub_zero, eq_self, wn_sI, wn_sL, wn_sP, wsh_sI, wsh_sL, wsh_sP, wI_sL, wI_sP, wL_sI, wL_sP, wP_sI, wP_sL, wI_sI, wL_sL, Int32.reduceLT, Int32.reduceLE, true_implies, not_true_eq_false, false_implies, not_false_eq_true, i_10]
    refine X12_holders_ok hm _ ?_
    rw [hr]
    refine ⟨fun _ => hK r h0 (cnt_0 hr), fun q => absurd (by decide) q⟩
  | succ d ih =>
    intro r hrd
    rw [vX12_free_2]
    simp only [vX12_free_0, vX12_free_1, vX12_free_3, vX12_free_4, vX12_free_7, vX12_free_10, vX12_free_13, vX12_free_16, vX12_free_17, ms_o hm, ms_b hm, ms_0 hm, pI_c, pL_c, pF_c, pD_c, pA_n, pA_c, pA_rf, pR_c, pR_rf, pV_i, pV_a, pV_n, pV_rf, ldI_c, ldL_c, ldF_c, ldD_c, ldA_c, ldA_n, ldA_rf, dup2_l, dup2_ia, dup2_ir, popA_0, popA_s, getL_z, getL_s, setL_z, setL_1, setL_s, setL2_z, setL2_1, setL2_s, drop2_i, drop2_a, drop2_0, drop2_n, drop2_l, drop2_d, drop2_r, cwd_0, cwd_i, cwd_a, cwd_n, cwd_l, cwd_d, cwd_f, cwd_r, rf_s, rf_n, swi_0, swi_s, zR_b0, zR_b1, zN_b0, zN_b1, entV_i, entV_a, entV_n, entV_r, entV_f, entV_l, entV_d, entV_s, entV_0, List.length_cons, List.length_nil, List.nil_append, List.cons_append, true_and, and_true, Nat.reduceAdd, Nat.reduceLT, Nat.reduceEqDiff, Nat.reduceLeDiff, Nat.reduceSub, Nat.zero_add, Classical.not_not, ex_i, ex_l, ex_d, ex_r, ex_rs, ex_rn, ex_sm, Nat.sub_zero, eq_self, wn_sI, wn_sL, wn_sP, wsh_sI, wsh_sL, wsh_sP, wI_sL, wI_sP, wL_sI, wL_sP, wP_sI, wP_sL, wI_sI, wL_sL, Int32.reduceLT, Int32.reduceLE, true_implies, not_true_eq_false, false_implies, not_false_eq_true, i_10]
    refine X12_holders_ok hm _ ?_
    simp (disch := omega) only [na_1, nb_1, nm_1, ns_1, nr_1, na_2, nb_2, nm_2, ns_2, nr_2, na_3, nb_3, nm_3, ns_3, nr_3, na_4, nb_4, nm_4, ns_4, nr_4, na_5, nb_5, nm_5, ns_5, nr_5, na_6, nb_6, nm_6, ns_6, nr_6, na_7, nb_7, nm_7, ns_7, nr_7, na_8, nb_8, nm_8, ns_8, nr_8, na_10, nb_10, nm_10, ns_10, nr_10, na_16, nb_16, nm_16, ns_16, nr_16, nl_m1, ni_add, ni_mul, ni_sub, ni_cl, ni_in, vp_0, vp_1, vp_2, vp_3, vp_4, vp_5, Int32.reduceToNatClampNeg, ms_o hm, ms_b hm, ms_0 hm, pI_c, pL_c, pF_c, pD_c, pA_n, pA_c, pA_rf, pR_c, pR_rf, pV_i, pV_a, pV_n, pV_rf, ldI_c, ldL_c, ldF_c, ldD_c, ldA_c, ldA_n, ldA_rf, dup2_l, dup2_ia, dup2_ir, popA_0, popA_s, getL_z, getL_s, setL_z, setL_1, setL_s, setL2_z, setL2_1, setL2_s, drop2_i, drop2_a, drop2_0, drop2_n, drop2_l, drop2_d, drop2_r, cwd_0, cwd_i, cwd_a, cwd_n, cwd_l, cwd_d, cwd_f, cwd_r, rf_s, rf_n, swi_0, swi_s, zR_b0, zR_b1, zN_b0, zN_b1, entV_i, entV_a, entV_n, entV_r, entV_f, entV_l, entV_d, entV_s, entV_0, List.length_cons, List.length_nil, List.nil_append, List.cons_append, true_and, and_true, Nat.reduceAdd, Nat.reduceLT, Nat.reduceEqDiff, Nat.reduceLeDiff, Nat.reduceSub, Nat.zero_add, Classical.not_not, ex_i, ex_l, ex_d, ex_r, ex_rs, ex_rn, ex_sm, Nat.sub_zero, eq_self, wn_sI, wn_sL, wn_sP, wsh_sI, wsh_sL, wsh_sP, wI_sL, wI_sP, wL_sI, wL_sP, wP_sI, wP_sL, wI_sI, wL_sL, Int32.reduceLT, Int32.reduceLE, true_implies, not_true_eq_false, false_implies, not_false_eq_true, i_10]
    refine ⟨fun q => hK r (by omega) (cnt_0 (n := 8) ?_), fun q => ih (r + 1) (by omega)⟩
    have hle := cntI_le (wI w (m + 1)) (nI r) 8
    have q2 : nI (cntI (wI w (m + 1)) (nI r) 8) ≤ nI 0 := q
    rw [ni_le (by omega) (by decide)] at q2
    omega
set_option maxRecDepth 100000 in
set_option maxHeartbeats 4000000 in
theorem X12_free_ok {g : Ge} {w : Wd} {k n : Nat} {K : Int32 → Wd → Nat → Nat → Prop} {m : Nat} (hm : MS g m w) {s0 : Nat} (h0 : s0 < 8) (hs : wI w (m + 1) s0 = -1) (h : ∀ r, r < 8 → (∀ s, s < 8 → ¬ wI w (m + 1) s = nI r) → K (nI r) w k n) : cI g mX12_free [.ref m] w k n K := by
  refine cI_of 2 0 0 rfl (by decide +kernel) rfl (Nat.le_of_ble_eq_true rfl) (Nat.zero_le _) (Nat.zero_le _) ?_
  simp only [vX12_free_0, vX12_free_1, vX12_free_3, vX12_free_4, vX12_free_7, vX12_free_10, vX12_free_13, vX12_free_16, vX12_free_17, ms_o hm, ms_b hm, ms_0 hm, pI_c, pL_c, pF_c, pD_c, pA_n, pA_c, pA_rf, pR_c, pR_rf, pV_i, pV_a, pV_n, pV_rf, ldI_c, ldL_c, ldF_c, ldD_c, ldA_c, ldA_n, ldA_rf, dup2_l, dup2_ia, dup2_ir, popA_0, popA_s, getL_z, getL_s, setL_z, setL_1, setL_s, setL2_z, setL2_1, setL2_s, drop2_i, drop2_a, drop2_0, drop2_n, drop2_l, drop2_d, drop2_r, cwd_0, cwd_i, cwd_a, cwd_n, cwd_l, cwd_d, cwd_f, cwd_r, rf_s, rf_n, swi_0, swi_s, zR_b0, zR_b1, zN_b0, zN_b1, entV_i, entV_a, entV_n, entV_r, entV_f, entV_l, entV_d, entV_s, entV_0, List.length_cons, List.length_nil, List.nil_append, List.cons_append, true_and, and_true, Nat.reduceAdd, Nat.reduceLT, Nat.reduceEqDiff, Nat.reduceLeDiff, Nat.reduceSub, Nat.zero_add, Classical.not_not, ex_i, ex_l, ex_d, ex_r, ex_rs, ex_rn, ex_sm, Nat.sub_zero, eq_self, wn_sI, wn_sL, wn_sP, wsh_sI, wsh_sL, wsh_sP, wI_sL, wI_sP, wL_sI, wL_sP, wP_sI, wP_sL, wI_sI, wL_sL, Int32.reduceLT, Int32.reduceLE, true_implies, not_true_eq_false, false_implies, not_false_eq_true, i_10]
  obtain ⟨r0, hr0, hc⟩ := cnt_free _ h0 hs
  refine X12_free_loop hm (fun r h1 h2 => ?_) hr0 hc r0 0 (by omega)
  simp only [pI_c, pL_c, pF_c, pD_c, pA_n, pA_c, pA_rf, pR_c, pR_rf, pV_i, pV_a, pV_n, pV_rf, ldI_c, ldL_c, ldF_c, ldD_c, ldA_c, ldA_n, ldA_rf, dup2_l, dup2_ia, dup2_ir, popA_0, popA_s, getL_z, getL_s, setL_z, setL_1, setL_s, setL2_z, setL2_1, setL2_s, drop2_i, drop2_a, drop2_0, drop2_n, drop2_l, drop2_d, drop2_r, cwd_0, cwd_i, cwd_a, cwd_n, cwd_l, cwd_d, cwd_f, cwd_r, rf_s, rf_n, swi_0, swi_s, zR_b0, zR_b1, zN_b0, zN_b1, entV_i, entV_a, entV_n, entV_r, entV_f, entV_l, entV_d, entV_s, entV_0, List.length_cons, List.length_nil, List.nil_append, List.cons_append, true_and, and_true, Nat.reduceAdd, Nat.reduceLT, Nat.reduceEqDiff, Nat.reduceLeDiff, Nat.reduceSub, Nat.zero_add, Classical.not_not, ex_i, ex_l, ex_d, ex_r, ex_rs, ex_rn, ex_sm, Nat.sub_zero, eq_self, wn_sI, wn_sL, wn_sP, wsh_sI, wsh_sL, wsh_sP, wI_sL, wI_sP, wL_sI, wL_sP, wP_sI, wP_sL, wI_sI, wL_sL, Int32.reduceLT, Int32.reduceLE, true_implies, not_true_eq_false, false_implies, not_false_eq_true, i_10]
  exact h r h1 h2
def mkS (m r : Nat) (a j : Nat) : Prop := (a = m + 4 ∨ a = m + 5) ∧ 16 * r ≤ j ∧ j < 16 * r + 16
set_option maxRecDepth 100000 in
set_option maxHeartbeats 4000000 in
theorem X12_make_loop {g : Ge} {m k n s c : Nat} {K : Option Value → Wd → Prop} {kd : Int32} {r : Nat} (hr : r < 8) (hs : s < 8) : ∀ (d i : Nat) (w : Wd), i + d = 16 → MS g m w → (∀ w', Fr (mkS m r) w w' → (∀ j, j < 16 → (i ≤ j ∨ (wI w (m + 4) (16 * r + j) = kd ∧ wL w (m + 5) (16 * r + j) = 0)) → wI w' (m + 4) (16 * r + j) = kd ∧ wL w' (m + 5) (16 * r + j) = 0) → K (some (.int 1)) (sI w' (m + 1) s (nI r))) → R g mX12_make K 67 [some (.ref m), some (.int (nI s)), some (.int kd), some (.int (nI c)), some (.int (nI r)), some (.int (nI i))] [] w k n := by
  intro d
  induction d with
  | zero =>
    intro i w hi hm hK
    obtain rfl : i = 16 := by omega
    rw [vX12_make_67]
    simp only [vX12_make_0, vX12_make_1, vX12_make_4, vX12_make_7, vX12_make_8, vX12_make_9, vX12_make_10, vX12_make_11, vX12_make_13, vX12_make_16, vX12_make_19, vX12_make_20, vX12_make_22, vX12_make_25, vX12_make_27, vX12_make_28, vX12_make_29, vX12_make_32, vX12_make_34, vX12_make_35, vX12_make_36, vX12_make_39, vX12_make_40, vX12_make_41, vX12_make_42, vX12_make_43, vX12_make_46, vX12_make_48, vX12_make_49, vX12_make_52, vX12_make_54, vX12_make_55, vX12_make_56, vX12_make_57, vX12_make_60, vX12_make_62, vX12_make_63, vX12_make_64, vX12_make_65, vX12_make_69, vX12_make_71, vX12_make_74, vX12_make_75, vX12_make_78, vX12_make_80, vX12_make_82, vX12_make_83, vX12_make_85, vX12_make_86, vX12_make_87, vX12_make_88, vX12_make_89, vX12_make_92, vX12_make_94, vX12_make_96, vX12_make_97, vX12_make_99, vX12_make_100, vX12_make_101, vX12_make_102, vX12_make_105, vX12_make_108, vX12_make_109, vX12_make_112, vX12_make_113, vX12_make_115, vX12_make_116, vX12_make_117, ms_o hm, ms_b hm, ms_0 hm, mp_slot hm, ms_slot hm, pI_c, pL_c, pF_c, pD_c, pA_n, pA_c, pA_rf, pR_c, pR_rf, pV_i, pV_a, pV_n, pV_rf, ldI_c, ldL_c, ldF_c, ldD_c, ldA_c, ldA_n, ldA_rf, dup2_l, dup2_ia, dup2_ir, popA_0, popA_s, getL_z, getL_s, setL_z, setL_1, setL_s, setL2_z, setL2_1, setL2_s, drop2_i, drop2_a, drop2_0, drop2_n, drop2_l, drop2_d, drop2_r, cwd_0, cwd_i, cwd_a, cwd_n, cwd_l, cwd_d, cwd_f, cwd_r, rf_s, rf_n, swi_0, swi_s, zR_b0, zR_b1, zN_b0, zN_b1, entV_i, entV_a, entV_n, entV_r, entV_f, entV_l, entV_d, entV_s, entV_0, List.length_cons, List.length_nil, List.nil_append, List.cons_append, true_and, and_true, Nat.reduceAdd, Nat.reduceLT, Nat.reduceEqDiff, Nat.reduceLeDiff, Nat.reduceSub, Nat.zero_add, Classical.not_not, ex_i, ex_l, ex_d, ex_r, ex_rs, ex_rn, ex_sm, Nat.sub_zero, eq_self, wn_sI, wn_sL, wn_sP, wsh_sI, wsh_sL, wsh_sP, wI_sL, wI_sP, wL_sI, wL_sP, wP_sI, wP_sL, wI_sI, wL_sL, Int32.reduceLT, Int32.reduceLE, true_implies, not_true_eq_false, false_implies, not_false_eq_true, i_10]
    simp (disch := omega) only [na_1, nb_1, nm_1, ns_1, nr_1, na_2, nb_2, nm_2, ns_2, nr_2, na_3, nb_3, nm_3, ns_3, nr_3, na_4, nb_4, nm_4, ns_4, nr_4, na_5, nb_5, nm_5, ns_5, nr_5, na_6, nb_6, nm_6, ns_6, nr_6, na_7, nb_7, nm_7, ns_7, nr_7, na_8, nb_8, nm_8, ns_8, nr_8, na_10, nb_10, nm_10, ns_10, nr_10, na_16, nb_16, nm_16, ns_16, nr_16, nl_m1, ni_add, ni_mul, ni_sub, ni_cl, ni_in, vp_0, vp_1, vp_2, vp_3, vp_4, vp_5, Int32.reduceToNatClampNeg, pI_c, pL_c, pF_c, pD_c, pA_n, pA_c, pA_rf, pR_c, pR_rf, pV_i, pV_a, pV_n, pV_rf, ldI_c, ldL_c, ldF_c, ldD_c, ldA_c, ldA_n, ldA_rf, dup2_l, dup2_ia, dup2_ir, popA_0, popA_s, getL_z, getL_s, setL_z, setL_1, setL_s, setL2_z, setL2_1, setL2_s, drop2_i, drop2_a, drop2_0, drop2_n, drop2_l, drop2_d, drop2_r, cwd_0, cwd_i, cwd_a, cwd_n, cwd_l, cwd_d, cwd_f, cwd_r, rf_s, rf_n, swi_0, swi_s, zR_b0, zR_b1, zN_b0, zN_b1, entV_i, entV_a, entV_n, entV_r, entV_f, entV_l, entV_d, entV_s, entV_0, List.length_cons, List.length_nil, List.nil_append, List.cons_append, true_and, and_true, Nat.reduceAdd, Nat.reduceLT, Nat.reduceEqDiff, Nat.reduceLeDiff, Nat.reduceSub, Nat.zero_add, Classical.not_not, ex_i, ex_l, ex_d, ex_r, ex_rs, ex_rn, ex_sm, Nat.sub_zero, eq_self, wn_sI, wn_sL, wn_sP, wsh_sI, wsh_sL, wsh_sP, wI_sL, wI_sP, wL_sI, wL_sP, wP_sI, wP_sL, wI_sI, wL_sL, Int32.reduceLT, Int32.reduceLE, true_implies, not_true_eq_false, false_implies, not_false_eq_true, i_10]
    have e : (16 : Int32) ≤ nI 16 := by decide
    simp only [e, pI_c, pL_c, pF_c, pD_c, pA_n, pA_c, pA_rf, pR_c, pR_rf, pV_i, pV_a, pV_n, pV_rf, ldI_c, ldL_c, ldF_c, ldD_c, ldA_c, ldA_n, ldA_rf, dup2_l, dup2_ia, dup2_ir, popA_0, popA_s, getL_z, getL_s, setL_z, setL_1, setL_s, setL2_z, setL2_1, setL2_s, drop2_i, drop2_a, drop2_0, drop2_n, drop2_l, drop2_d, drop2_r, cwd_0, cwd_i, cwd_a, cwd_n, cwd_l, cwd_d, cwd_f, cwd_r, rf_s, rf_n, swi_0, swi_s, zR_b0, zR_b1, zN_b0, zN_b1, entV_i, entV_a, entV_n, entV_r, entV_f, entV_l, entV_d, entV_s, entV_0, List.length_cons, List.length_nil, List.nil_append, List.cons_append, true_and, and_true, Nat.reduceAdd, Nat.reduceLT, Nat.reduceEqDiff, Nat.reduceLeDiff, Nat.reduceSub, Nat.zero_add, Classical.not_not, ex_i, ex_l, ex_d, ex_r, ex_rs, ex_rn, ex_sm, Nat.sub_zero, eq_self, wn_sI, wn_sL, wn_sP, wsh_sI, wsh_sL, wsh_sP, wI_sL, wI_sP, wL_sI, wL_sP, wP_sI, wP_sL, wI_sI, wL_sL, Int32.reduceLT, Int32.reduceLE, true_implies, not_true_eq_false, false_implies, not_false_eq_true, i_10]
    exact hK w Fr.rf (fun j hj hq => by rcases hq with q | q; omega; exact q)
  | succ d ih =>
    intro i w hi hm hK
    have e : ¬ (16 : Int32) ≤ nI i := by rw [ni_lit 16, ni_le (by decide) (by omega)]; omega
    rw [vX12_make_67]
    simp only [vX12_make_0, vX12_make_1, vX12_make_4, vX12_make_7, vX12_make_8, vX12_make_9, vX12_make_10, vX12_make_11, vX12_make_13, vX12_make_16, vX12_make_19, vX12_make_20, vX12_make_22, vX12_make_25, vX12_make_27, vX12_make_28, vX12_make_29, vX12_make_32, vX12_make_34, vX12_make_35, vX12_make_36, vX12_make_39, vX12_make_40, vX12_make_41, vX12_make_42, vX12_make_43, vX12_make_46, vX12_make_48, vX12_make_49, vX12_make_52, vX12_make_54, vX12_make_55, vX12_make_56, vX12_make_57, vX12_make_60, vX12_make_62, vX12_make_63, vX12_make_64, vX12_make_65, vX12_make_69, vX12_make_71, vX12_make_74, vX12_make_75, vX12_make_78, vX12_make_80, vX12_make_82, vX12_make_83, vX12_make_85, vX12_make_86, vX12_make_87, vX12_make_88, vX12_make_89, vX12_make_92, vX12_make_94, vX12_make_96, vX12_make_97, vX12_make_99, vX12_make_100, vX12_make_101, vX12_make_102, vX12_make_105, vX12_make_108, vX12_make_109, vX12_make_112, vX12_make_113, vX12_make_115, vX12_make_116, vX12_make_117, ms_o hm, ms_b hm, ms_0 hm, mp_kinds hm, ms_kinds hm, mp_values hm, ms_values hm, pI_c, pL_c, pF_c, pD_c, pA_n, pA_c, pA_rf, pR_c, pR_rf, pV_i, pV_a, pV_n, pV_rf, ldI_c, ldL_c, ldF_c, ldD_c, ldA_c, ldA_n, ldA_rf, dup2_l, dup2_ia, dup2_ir, popA_0, popA_s, getL_z, getL_s, setL_z, setL_1, setL_s, setL2_z, setL2_1, setL2_s, drop2_i, drop2_a, drop2_0, drop2_n, drop2_l, drop2_d, drop2_r, cwd_0, cwd_i, cwd_a, cwd_n, cwd_l, cwd_d, cwd_f, cwd_r, rf_s, rf_n, swi_0, swi_s, zR_b0, zR_b1, zN_b0, zN_b1, entV_i, entV_a, entV_n, entV_r, entV_f, entV_l, entV_d, entV_s, entV_0, List.length_cons, List.length_nil, List.nil_append, List.cons_append, true_and, and_true, Nat.reduceAdd, Nat.reduceLT, Nat.reduceEqDiff, Nat.reduceLeDiff, Nat.reduceSub, Nat.zero_add, Classical.not_not, ex_i, ex_l, ex_d, ex_r, ex_rs, ex_rn, ex_sm, Nat.sub_zero, eq_self, wn_sI, wn_sL, wn_sP, wsh_sI, wsh_sL, wsh_sP, wI_sL, wI_sP, wL_sI, wL_sP, wP_sI, wP_sL, wI_sI, wL_sL, Int32.reduceLT, Int32.reduceLE, true_implies, not_true_eq_false, false_implies, not_false_eq_true, i_10, e]
    simp (disch := omega) only [na_1, nb_1, nm_1, ns_1, nr_1, na_2, nb_2, nm_2, ns_2, nr_2, na_3, nb_3, nm_3, ns_3, nr_3, na_4, nb_4, nm_4, ns_4, nr_4, na_5, nb_5, nm_5, ns_5, nr_5, na_6, nb_6, nm_6, ns_6, nr_6, na_7, nb_7, nm_7, ns_7, nr_7, na_8, nb_8, nm_8, ns_8, nr_8, na_10, nb_10, nm_10, ns_10, nr_10, na_16, nb_16, nm_16, ns_16, nr_16, nl_m1, ni_add, ni_mul, ni_sub, ni_cl, ni_in, vp_0, vp_1, vp_2, vp_3, vp_4, vp_5, Int32.reduceToNatClampNeg, pI_c, pL_c, pF_c, pD_c, pA_n, pA_c, pA_rf, pR_c, pR_rf, pV_i, pV_a, pV_n, pV_rf, ldI_c, ldL_c, ldF_c, ldD_c, ldA_c, ldA_n, ldA_rf, dup2_l, dup2_ia, dup2_ir, popA_0, popA_s, getL_z, getL_s, setL_z, setL_1, setL_s, setL2_z, setL2_1, setL2_s, drop2_i, drop2_a, drop2_0, drop2_n, drop2_l, drop2_d, drop2_r, cwd_0, cwd_i, cwd_a, cwd_n, cwd_l, cwd_d, cwd_f, cwd_r, rf_s, rf_n, swi_0, swi_s, zR_b0, zR_b1, zN_b0, zN_b1, entV_i, entV_a, entV_n, entV_r, entV_f, entV_l, entV_d, entV_s, entV_0, List.length_cons, List.length_nil, List.nil_append, List.cons_append, true_and, and_true, Nat.reduceAdd, Nat.reduceLT, Nat.reduceEqDiff, Nat.reduceLeDiff, Nat.reduceSub, Nat.zero_add, Classical.not_not, ex_i, ex_l, ex_d, ex_r, ex_rs, ex_rn, ex_sm, Nat.sub_zero, eq_self, wn_sI, wn_sL, wn_sP, wsh_sI, wsh_sL, wsh_sP, wI_sL, wI_sP, wL_sI, wL_sP, wP_sI, wP_sL, wI_sI, wL_sL, Int32.reduceLT, Int32.reduceLE, true_implies, not_true_eq_false, false_implies, not_false_eq_true, i_10]
    refine ih (i + 1) _ (by omega) hm fun w' hf hv => hK w' (((Fr.rf.i _ ?_).l _ ?_).tr hf) fun j hj hq => hv j hj ?_
    · exact ⟨Or.inl rfl, by omega, by omega⟩
    · exact ⟨Or.inr rfl, by omega, by omega⟩
    · by_cases e2 : j = i
      · subst e2
        refine Or.inr ⟨?_, ?_⟩
        · show wI (sI w (m + 4) (16 * r + j) kd) (m + 4) (16 * r + j) = kd
          rw [wI_at, if_pos rfl]
        · rw [wL_at, if_pos rfl]
      · rcases hq with q | q
        · exact Or.inl (by omega)
        · refine Or.inr ⟨?_, ?_⟩
          · show wI (sI w (m + 4) (16 * r + i) kd) (m + 4) (16 * r + j) = kd
            rw [wI_at, if_neg (by omega)]
            exact q.1
          · rw [wL_at, if_neg (by omega)]
            exact q.2
def SpMake (s : St) (a b c ans : Int32) (s' : St) : Prop := if ¬ (0 ≤ a ∧ a ≤ 7) then ans = -1 ∧ Bt none2 s s' else if ¬ (0 ≤ b ∧ b ≤ 8) ∨ 16 < c then ans = -2 ∧ Bt none2 s s' else if c < 0 then ans = -14 ∧ Bt none2 s s' else
  ans = 1 ∧ ∃ r, r < 8 ∧ (∀ t, t < 8 → t ≠ a.toNatClampNeg → ¬ s.1 1 t = nI r) ∧ s'.1 1 a.toNatClampNeg = nI r ∧ Bt (fun o j => (o = 1 ∧ j = a.toNatClampNeg) ∨ ((o = 2 ∨ o = 3) ∧ j = r) ∨ ((o = 4 ∨ o = 5) ∧ 16 * r ≤ j ∧ j < 16 * r + 16)) s s' ∧ s'.1 2 r = b ∧ s'.1 3 r = c ∧ ∀ i, i < 16 → s'.1 4 (16 * r + i) = b ∧ s'.2 5 (16 * r + i) = 0
set_option maxRecDepth 100000 in
set_option maxHeartbeats 4000000 in
theorem M_make {g : Ge} {w : Wd} {k n : Nat} {K : Int32 → Wd → Nat → Nat → Prop} {m : Nat} (hm : MS g m w) (a b c : Int32) (h : ∀ ans w', Fr (mS m) w w' → SpMake (mst m w) a b c ans (mst m w') → K ans w' k n) : cI g mX12_make [.ref m, .int a, .int b, .int c] w k n K := by
  refine cI_of 6 0 0 rfl (by decide +kernel) rfl (Nat.le_of_ble_eq_true rfl) (Nat.zero_le _) (Nat.zero_le _) ?_
  simp only [vX12_make_0, vX12_make_1, vX12_make_4, vX12_make_7, vX12_make_8, vX12_make_9, vX12_make_10, vX12_make_11, vX12_make_13, vX12_make_16, vX12_make_19, vX12_make_20, vX12_make_22, vX12_make_25, vX12_make_27, vX12_make_28, vX12_make_29, vX12_make_32, vX12_make_34, vX12_make_35, vX12_make_36, vX12_make_39, vX12_make_40, vX12_make_41, vX12_make_42, vX12_make_43, vX12_make_46, vX12_make_48, vX12_make_49, vX12_make_52, vX12_make_54, vX12_make_55, vX12_make_56, vX12_make_57, vX12_make_60, vX12_make_62, vX12_make_63, vX12_make_64, vX12_make_65, vX12_make_69, vX12_make_71, vX12_make_74, vX12_make_75, vX12_make_78, vX12_make_80, vX12_make_82, vX12_make_83, vX12_make_85, vX12_make_86, vX12_make_87, vX12_make_88, vX12_make_89, vX12_make_92, vX12_make_94, vX12_make_96, vX12_make_97, vX12_make_99, vX12_make_100, vX12_make_101, vX12_make_102, vX12_make_105, vX12_make_108, vX12_make_109, vX12_make_112, vX12_make_113, vX12_make_115, vX12_make_116, vX12_make_117, ms_o hm, ms_b hm, ms_0 hm, mp_slot hm, ms_slot hm, pI_c, pL_c, pF_c, pD_c, pA_n, pA_c, pA_rf, pR_c, pR_rf, pV_i, pV_a, pV_n, pV_rf, ldI_c, ldL_c, ldF_c, ldD_c, ldA_c, ldA_n, ldA_rf, dup2_l, dup2_ia, dup2_ir, popA_0, popA_s, getL_z, getL_s, setL_z, setL_1, setL_s, setL2_z, setL2_1, setL2_s, drop2_i, drop2_a, drop2_0, drop2_n, drop2_l, drop2_d, drop2_r, cwd_0, cwd_i, cwd_a, cwd_n, cwd_l, cwd_d, cwd_f, cwd_r, rf_s, rf_n, swi_0, swi_s, zR_b0, zR_b1, zN_b0, zN_b1, entV_i, entV_a, entV_n, entV_r, entV_f, entV_l, entV_d, entV_s, entV_0, List.length_cons, List.length_nil, List.nil_append, List.cons_append, true_and, and_true, Nat.reduceAdd, Nat.reduceLT, Nat.reduceEqDiff, Nat.reduceLeDiff, Nat.reduceSub, Nat.zero_add, Classical.not_not, ex_i, ex_l, ex_d, ex_r, ex_rs, ex_rn, ex_sm, Nat.sub_zero, eq_self, wn_sI, wn_sL, wn_sP, wsh_sI, wsh_sL, wsh_sP, wI_sL, wI_sP, wL_sI, wL_sP, wP_sI, wP_sL, wI_sI, wL_sL, Int32.reduceLT, Int32.reduceLE, true_implies, not_true_eq_false, false_implies, not_false_eq_true, i_10]
  refine X12_isSlot_ok _ ?_
  by_cases ha : 0 ≤ a ∧ a ≤ 7
  · simp only [b2i_t ha, pI_c, pL_c, pF_c, pD_c, pA_n, pA_c, pA_rf, pR_c, pR_rf, pV_i, pV_a, pV_n, pV_rf, ldI_c, ldL_c, ldF_c, ldD_c, ldA_c, ldA_n, ldA_rf, dup2_l, dup2_ia, dup2_ir, popA_0, popA_s, getL_z, getL_s, setL_z, setL_1, setL_s, setL2_z, setL2_1, setL2_s, drop2_i, drop2_a, drop2_0, drop2_n, drop2_l, drop2_d, drop2_r, cwd_0, cwd_i, cwd_a, cwd_n, cwd_l, cwd_d, cwd_f, cwd_r, rf_s, rf_n, swi_0, swi_s, zR_b0, zR_b1, zN_b0, zN_b1, entV_i, entV_a, entV_n, entV_r, entV_f, entV_l, entV_d, entV_s, entV_0, List.length_cons, List.length_nil, List.nil_append, List.cons_append, true_and, and_true, Nat.reduceAdd, Nat.reduceLT, Nat.reduceEqDiff, Nat.reduceLeDiff, Nat.reduceSub, Nat.zero_add, Classical.not_not, ex_i, ex_l, ex_d, ex_r, ex_rs, ex_rn, ex_sm, Nat.sub_zero, eq_self, wn_sI, wn_sL, wn_sP, wsh_sI, wsh_sL, wsh_sP, wI_sL, wI_sP, wL_sI, wL_sP, wP_sI, wP_sL, wI_sI, wL_sL, Int32.reduceLT, Int32.reduceLE, true_implies, not_true_eq_false, false_implies, not_false_eq_true, i_10]
    refine X12_within_ok _ _ _ ?_
    by_cases hb : 0 ≤ b ∧ b ≤ 8
    · simp only [b2i_t hb, pI_c, pL_c, pF_c, pD_c, pA_n, pA_c, pA_rf, pR_c, pR_rf, pV_i, pV_a, pV_n, pV_rf, ldI_c, ldL_c, ldF_c, ldD_c, ldA_c, ldA_n, ldA_rf, dup2_l, dup2_ia, dup2_ir, popA_0, popA_s, getL_z, getL_s, setL_z, setL_1, setL_s, setL2_z, setL2_1, setL2_s, drop2_i, drop2_a, drop2_0, drop2_n, drop2_l, drop2_d, drop2_r, cwd_0, cwd_i, cwd_a, cwd_n, cwd_l, cwd_d, cwd_f, cwd_r, rf_s, rf_n, swi_0, swi_s, zR_b0, zR_b1, zN_b0, zN_b1, entV_i, entV_a, entV_n, entV_r, entV_f, entV_l, entV_d, entV_s, entV_0, List.length_cons, List.length_nil, List.nil_append, List.cons_append, true_and, and_true, Nat.reduceAdd, Nat.reduceLT, Nat.reduceEqDiff, Nat.reduceLeDiff, Nat.reduceSub, Nat.zero_add, Classical.not_not, ex_i, ex_l, ex_d, ex_r, ex_rs, ex_rn, ex_sm, Nat.sub_zero, eq_self, wn_sI, wn_sL, wn_sP, wsh_sI, wsh_sL, wsh_sP, wI_sL, wI_sP, wL_sI, wL_sP, wP_sI, wP_sL, wI_sI, wL_sL, Int32.reduceLT, Int32.reduceLE, true_implies, not_true_eq_false, false_implies, not_false_eq_true, i_10]
      refine ⟨fun hc => ?_, fun hc => ?_⟩
      · by_cases hc0 : c < 0
        · refine ⟨fun q => absurd hc0 (Int32.not_lt.mpr q), fun _ => h _ _ Fr.rf ?_⟩
          unfold SpMake
          rw [if_neg (not_not_intro ha), if_neg (fun q => q.elim (fun z => z hb) (fun z => Int32.not_lt.mpr hc z)), if_pos hc0]
          exact ⟨rfl, Bt.rf⟩
        · refine ⟨fun _ => ?_, fun q => absurd (Int32.not_lt.mp hc0) q⟩
          obtain ⟨s, hs, rfl⟩ := i_slot ha
          obtain ⟨z, hz, rfl⟩ := i_nat (c := 16) (by decide) (Int32.not_lt.mp hc0) hc
          simp (disch := omega) only [ms_o hm, ms_b hm, ms_0 hm, mp_slot hm, ms_slot hm, na_1, nb_1, nm_1, ns_1, nr_1, na_2, nb_2, nm_2, ns_2, nr_2, na_3, nb_3, nm_3, ns_3, nr_3, na_4, nb_4, nm_4, ns_4, nr_4, na_5, nb_5, nm_5, ns_5, nr_5, na_6, nb_6, nm_6, ns_6, nr_6, na_7, nb_7, nm_7, ns_7, nr_7, na_8, nb_8, nm_8, ns_8, nr_8, na_10, nb_10, nm_10, ns_10, nr_10, na_16, nb_16, nm_16, ns_16, nr_16, nl_m1, ni_add, ni_mul, ni_sub, ni_cl, ni_in, vp_0, vp_1, vp_2, vp_3, vp_4, vp_5, Int32.reduceToNatClampNeg, pI_c, pL_c, pF_c, pD_c, pA_n, pA_c, pA_rf, pR_c, pR_rf, pV_i, pV_a, pV_n, pV_rf, ldI_c, ldL_c, ldF_c, ldD_c, ldA_c, ldA_n, ldA_rf, dup2_l, dup2_ia, dup2_ir, popA_0, popA_s, getL_z, getL_s, setL_z, setL_1, setL_s, setL2_z, setL2_1, setL2_s, drop2_i, drop2_a, drop2_0, drop2_n, drop2_l, drop2_d, drop2_r, cwd_0, cwd_i, cwd_a, cwd_n, cwd_l, cwd_d, cwd_f, cwd_r, rf_s, rf_n, swi_0, swi_s, zR_b0, zR_b1, zN_b0, zN_b1, entV_i, entV_a, entV_n, entV_r, entV_f, entV_l, entV_d, entV_s, entV_0, List.length_cons, List.length_nil, List.nil_append, List.cons_append, true_and, and_true, Nat.reduceAdd, Nat.reduceLT, Nat.reduceEqDiff, Nat.reduceLeDiff, Nat.reduceSub, Nat.zero_add, Classical.not_not, ex_i, ex_l, ex_d, ex_r, ex_rs, ex_rn, ex_sm, Nat.sub_zero, eq_self, wn_sI, wn_sL, wn_sP, wsh_sI, wsh_sL, wsh_sP, wI_sL, wI_sP, wL_sI, wL_sP, wP_sI, wP_sL, wI_sI, wL_sL, Int32.reduceLT, Int32.reduceLE, true_implies, not_true_eq_false, false_implies, not_false_eq_true, i_10]
          have hm1 : MS g m (sI w (m + 1) s (-1)) := hm
          refine X12_free_ok hm1 hs (wI_at.trans (if_pos rfl)) fun r hr hfree => ?_
          simp (disch := omega) only [ms_o hm, ms_b hm, ms_0 hm, mp_slot hm, ms_slot hm, mp_rowKind hm, ms_rowKind hm, mp_rowSize hm, ms_rowSize hm, na_1, nb_1, nm_1, ns_1, nr_1, na_2, nb_2, nm_2, ns_2, nr_2, na_3, nb_3, nm_3, ns_3, nr_3, na_4, nb_4, nm_4, ns_4, nr_4, na_5, nb_5, nm_5, ns_5, nr_5, na_6, nb_6, nm_6, ns_6, nr_6, na_7, nb_7, nm_7, ns_7, nr_7, na_8, nb_8, nm_8, ns_8, nr_8, na_10, nb_10, nm_10, ns_10, nr_10, na_16, nb_16, nm_16, ns_16, nr_16, nl_m1, ni_add, ni_mul, ni_sub, ni_cl, ni_in, vp_0, vp_1, vp_2, vp_3, vp_4, vp_5, Int32.reduceToNatClampNeg, pI_c, pL_c, pF_c, pD_c, pA_n, pA_c, pA_rf, pR_c, pR_rf, pV_i, pV_a, pV_n, pV_rf, ldI_c, ldL_c, ldF_c, ldD_c, ldA_c, ldA_n, ldA_rf, dup2_l, dup2_ia, dup2_ir, popA_0, popA_s, getL_z, getL_s, setL_z, setL_1, setL_s, setL2_z, setL2_1, setL2_s, drop2_i, drop2_a, drop2_0, drop2_n, drop2_l, drop2_d, drop2_r, cwd_0, cwd_i, cwd_a, cwd_n, cwd_l, cwd_d, cwd_f, cwd_r, rf_s, rf_n, swi_0, swi_s, zR_b0, zR_b1, zN_b0, zN_b1, entV_i, entV_a, entV_n, entV_r, entV_f, entV_l, entV_d, entV_s, entV_0, List.length_cons, List.length_nil, List.nil_append, List.cons_append, true_and, and_true, Nat.reduceAdd, Nat.reduceLT, Nat.reduceEqDiff, Nat.reduceLeDiff, Nat.reduceSub, Nat.zero_add, Classical.not_not, ex_i, ex_l, ex_d, ex_r, ex_rs, ex_rn, ex_sm, Nat.sub_zero, eq_self, wn_sI, wn_sL, wn_sP, wsh_sI, wsh_sL, wsh_sP, wI_sL, wI_sP, wL_sI, wL_sP, wP_sI, wP_sL, wI_sI, wL_sL, Int32.reduceLT, Int32.reduceLE, true_implies, not_true_eq_false, false_implies, not_false_eq_true, i_10]
          refine X12_make_loop (c := z) hr hs 16 0 _ rfl hm1 fun w' hf hv => ?_
          simp only [pI_c, pL_c, pF_c, pD_c, pA_n, pA_c, pA_rf, pR_c, pR_rf, pV_i, pV_a, pV_n, pV_rf, ldI_c, ldL_c, ldF_c, ldD_c, ldA_c, ldA_n, ldA_rf, dup2_l, dup2_ia, dup2_ir, popA_0, popA_s, getL_z, getL_s, setL_z, setL_1, setL_s, setL2_z, setL2_1, setL2_s, drop2_i, drop2_a, drop2_0, drop2_n, drop2_l, drop2_d, drop2_r, cwd_0, cwd_i, cwd_a, cwd_n, cwd_l, cwd_d, cwd_f, cwd_r, rf_s, rf_n, swi_0, swi_s, zR_b0, zR_b1, zN_b0, zN_b1, entV_i, entV_a, entV_n, entV_r, entV_f, entV_l, entV_d, entV_s, entV_0, List.length_cons, List.length_nil, List.nil_append, List.cons_append, true_and, and_true, Nat.reduceAdd, Nat.reduceLT, Nat.reduceEqDiff, Nat.reduceLeDiff, Nat.reduceSub, Nat.zero_add, Classical.not_not, ex_i, ex_l, ex_d, ex_r, ex_rs, ex_rn, ex_sm, Nat.sub_zero, eq_self, wn_sI, wn_sL, wn_sP, wsh_sI, wsh_sL, wsh_sP, wI_sL, wI_sP, wL_sI, wL_sP, wP_sI, wP_sL, wI_sI, wL_sL, Int32.reduceLT, Int32.reduceLE, true_implies, not_true_eq_false, false_implies, not_false_eq_true, i_10]
          have hF : Fr (fun p j => (p = m + 1 ∧ j = s) ∨ ((p = m + 2 ∨ p = m + 3) ∧ j = r) ∨ mkS m r p j) w (sI w' (m + 1) s (nI r)) := by
            refine Fr.i (Fr.tr (((Fr.rf.i _ ?_).i _ ?_).i _ ?_) (hf.mo fun p j q => Or.inr (Or.inr q))) _ ?_
            · exact Or.inl ⟨rfl, rfl⟩
            · exact Or.inr (Or.inl ⟨Or.inl rfl, rfl⟩)
            · exact Or.inr (Or.inl ⟨Or.inr rfl, rfl⟩)
            · exact Or.inl ⟨rfl, rfl⟩
          refine h _ _ (hF.mo fun p j q => ?_) ?_
          · unfold mkS at q
            unfold mS
            omega
          · unfold SpMake
            rw [if_neg (not_not_intro ha), if_neg (fun q => q.elim (fun z => z hb) (fun z => Int32.not_lt.mpr hc z)), if_neg hc0]
            rw [ni_cl (show s < 2147483648 by omega)]
            refine ⟨rfl, r, hr, fun t ht hts => ?_, ?_, Bt.of hF fun o j _ hn => ?_, ?_, ?_, fun i hi => ?_⟩
            · have := hfree t ht
              rw [wI_at, if_neg hts] at this
              exact this
            · exact wI_at.trans (if_pos rfl)
            · unfold mkS
              omega
            · show wI (sI w' (m + 1) s (nI r)) (m + 2) r = b
              rw [wI_ne (by omega), hf.I _ _ (by unfold mkS; omega), wI_ne (by omega), wI_at, if_pos rfl]
            · show wI (sI w' (m + 1) s (nI r)) (m + 3) r = nI z
              rw [wI_ne (by omega), hf.I _ _ (by unfold mkS; omega), wI_at, if_pos rfl]
            · refine ⟨?_, ?_⟩
              · show wI (sI w' (m + 1) s (nI r)) (m + 4) (16 * r + i) = b
                rw [wI_ne (by omega)]
                exact (hv i hi (Or.inl (by omega))).1
              · exact (hv i hi (Or.inl (by omega))).2
      · refine h _ _ Fr.rf ?_
        unfold SpMake
        rw [if_neg (not_not_intro ha), if_pos (Or.inr (Int32.not_le.mp hc))]
        exact ⟨rfl, Bt.rf⟩
    · simp only [b2i_f hb, pI_c, pL_c, pF_c, pD_c, pA_n, pA_c, pA_rf, pR_c, pR_rf, pV_i, pV_a, pV_n, pV_rf, ldI_c, ldL_c, ldF_c, ldD_c, ldA_c, ldA_n, ldA_rf, dup2_l, dup2_ia, dup2_ir, popA_0, popA_s, getL_z, getL_s, setL_z, setL_1, setL_s, setL2_z, setL2_1, setL2_s, drop2_i, drop2_a, drop2_0, drop2_n, drop2_l, drop2_d, drop2_r, cwd_0, cwd_i, cwd_a, cwd_n, cwd_l, cwd_d, cwd_f, cwd_r, rf_s, rf_n, swi_0, swi_s, zR_b0, zR_b1, zN_b0, zN_b1, entV_i, entV_a, entV_n, entV_r, entV_f, entV_l, entV_d, entV_s, entV_0, List.length_cons, List.length_nil, List.nil_append, List.cons_append, true_and, and_true, Nat.reduceAdd, Nat.reduceLT, Nat.reduceEqDiff, Nat.reduceLeDiff, Nat.reduceSub, Nat.zero_add, Classical.not_not, ex_i, ex_l, ex_d, ex_r, ex_rs, ex_rn, ex_sm, Nat.sub_zero, eq_self, wn_sI, wn_sL, wn_sP, wsh_sI, wsh_sL, wsh_sP, wI_sL, wI_sP, wL_sI, wL_sP, wP_sI, wP_sL, wI_sI, wL_sL, Int32.reduceLT, Int32.reduceLE, true_implies, not_true_eq_false, false_implies, not_false_eq_true, i_10]
      refine h _ _ Fr.rf ?_
      unfold SpMake
      rw [if_neg (not_not_intro ha), if_pos (Or.inl hb)]
      exact ⟨rfl, Bt.rf⟩
  · simp only [b2i_f ha, pI_c, pL_c, pF_c, pD_c, pA_n, pA_c, pA_rf, pR_c, pR_rf, pV_i, pV_a, pV_n, pV_rf, ldI_c, ldL_c, ldF_c, ldD_c, ldA_c, ldA_n, ldA_rf, dup2_l, dup2_ia, dup2_ir, popA_0, popA_s, getL_z, getL_s, setL_z, setL_1, setL_s, setL2_z, setL2_1, setL2_s, drop2_i, drop2_a, drop2_0, drop2_n, drop2_l, drop2_d, drop2_r, cwd_0, cwd_i, cwd_a, cwd_n, cwd_l, cwd_d, cwd_f, cwd_r, rf_s, rf_n, swi_0, swi_s, zR_b0, zR_b1, zN_b0, zN_b1, entV_i, entV_a, entV_n, entV_r, entV_f, entV_l, entV_d, entV_s, entV_0, List.length_cons, List.length_nil, List.nil_append, List.cons_append, true_and, and_true, Nat.reduceAdd, Nat.reduceLT, Nat.reduceEqDiff, Nat.reduceLeDiff, Nat.reduceSub, Nat.zero_add, Classical.not_not, ex_i, ex_l, ex_d, ex_r, ex_rs, ex_rn, ex_sm, Nat.sub_zero, eq_self, wn_sI, wn_sL, wn_sP, wsh_sI, wsh_sL, wsh_sP, wI_sL, wI_sP, wL_sI, wL_sP, wP_sI, wP_sL, wI_sI, wL_sL, Int32.reduceLT, Int32.reduceLE, true_implies, not_true_eq_false, false_implies, not_false_eq_true, i_10]
    refine h _ _ Fr.rf ?_
    unfold SpMake
    rw [if_pos ha]
    exact ⟨rfl, Bt.rf⟩
