/-! the reference: load, what it lays down -/
def ld2S (m : Nat) (a _j : Nat) : Prop := m + 1 ≤ a ∧ a ≤ m + 5
set_option maxRecDepth 100000 in
set_option maxHeartbeats 4000000 in
theorem X12_load_put {g : Ge} {m k0 n0 v n : Nat} {s : St} {qv : Int32} {D : List (Option (List (Int32 × Int64)))} {K : Option Value → Wd → Prop} (hv : v < 6) (hV : VerS s v n) (hdis : ∀ i j, i < n → j < n → s.1 7 (8 * v + i) = s.1 7 (8 * v + j) → i = j) (hD : D.length = n) : ∀ (d k : Nat) (w : Wd) (o4 o5 o6 : Option Value), k + d = n → MS g m w → Sv m w s → NewR m w 0 D → TknK s (mst m w) v n k D → (∀ w' o4 o5 o6, Fr (ld2S m) w w' → TknK s (mst m w') v n n D → R g mX12_load K 285 [some (.ref m), some (.int qv), some (.int (nI v)), some (.int (nI n)), o4, o5, o6] [] w' k0 n0) → R g mX12_load K 131 [some (.ref m), some (.int qv), some (.int (nI v)), some (.int (nI k)), o4, o5, o6] [] w k0 n0 := by
  obtain ⟨hn8, hmany, hfld⟩ := id hV
  intro d
  induction d with
  | zero =>
    intro k w o4 o5 o6 hk hm hS hN hT hK
    obtain rfl : k = n := by omega
    have e6 : wI w (m + 6) v = nI k := by rw [hS 6 v (by decide) (by decide)]; exact hmany
    simp (disch := omega) only [vX12_load_131, vX12_load_132, vX12_load_133, vX12_load_136, vX12_load_137, vX12_load_138, ms_o hm, ms_b hm, ms_0 hm, mp_many hm, ms_many hm, pI_c, pL_c, pF_c, pD_c, pA_n, pA_c, pA_rf, pR_c, pR_rf, pV_i, pV_a, pV_n, pV_rf, ldI_c, ldL_c, ldF_c, ldD_c, ldA_c, ldA_n, ldA_rf, dup2_l, dup2_ia, dup2_ir, popA_0, popA_s, getL_z, getL_s, setL_z, setL_1, setL_s, setL2_z, setL2_1, setL2_s, drop2_i, drop2_a, drop2_0, drop2_n, drop2_l, drop2_d, drop2_r, cwd_0, cwd_i, cwd_a, cwd_n, cwd_l, cwd_d, cwd_f, cwd_r, rf_s, rf_n, swi_0, swi_s, zR_b0, zR_b1, zN_b0, zN_b1, entV_i, entV_a, entV_n, entV_r, entV_f, entV_l, entV_d, entV_s, entV_0, List.length_cons, List.length_nil, List.nil_append, List.cons_append, true_and, and_true, Nat.reduceAdd, Nat.reduceLT, Nat.reduceEqDiff, Nat.reduceLeDiff, Nat.reduceSub, Nat.zero_add, Classical.not_not, ex_i, ex_l, ex_d, ex_r, ex_rs, ex_rn, ex_sm, Nat.sub_zero, eq_self, wn_sI, wn_sL, wn_sP, wsh_sI, wsh_sL, wsh_sP, wI_sL, wI_sP, wL_sI, wL_sP, wP_sI, wP_sL, wI_sI, wL_sL, Int32.reduceLT, Int32.reduceLE, true_implies, not_true_eq_false, false_implies, not_false_eq_true, i_10, na_1, nb_1, nm_1, ns_1, nr_1, na_2, nb_2, nm_2, ns_2, nr_2, na_3, nb_3, nm_3, ns_3, nr_3, na_4, nb_4, nm_4, ns_4, nr_4, na_5, nb_5, nm_5, ns_5, nr_5, na_6, nb_6, nm_6, ns_6, nr_6, na_7, nb_7, nm_7, ns_7, nr_7, na_8, nb_8, nm_8, ns_8, nr_8, na_10, nb_10, nm_10, ns_10, nr_10, na_16, nb_16, nm_16, ns_16, nr_16, nl_m1, ni_add, ni_mul, ni_sub, ni_cl, ni_in, vp_0, vp_1, vp_2, vp_3, vp_4, vp_5, Int32.reduceToNatClampNeg, ni_le, ni_lt, ni_eq, ni_le1, ni_le0, ni_eq0, ni_eq1, ni_eq2, ni_eq8, ni_eq9, Nat.le_refl, e6]
    exact hK w _ _ _ Fr.rf hT
  | succ d ih =>
    intro k w o4 o5 o6 hk hm hS hN hT hK
    have hlt : ¬ n ≤ k := by omega
    have e6 : wI w (m + 6) v = nI n := by rw [hS 6 v (by decide) (by decide)]; exact hmany
    obtain ⟨sl, kd, c, nd, td, hs8, hkd, hc, hnd, htd, f0, f1, -⟩ := hfld k (by omega)
    have g7 : s.1 7 (8 * v + k) = nI sl := f0
    have e7 : wI w (m + 7) (8 * v + k) = nI sl := by rw [hS 7 _ (by decide) (by decide)]; exact f0
    have e8 : wI w (m + 8) (8 * v + k) = s.1 8 (8 * v + k) := hS 8 _ (by decide) (by decide)
    have hsl0 : wI w (m + 1) sl = -1 := (hT.2 k sl (by omega) hs8 g7).1 (Nat.le_refl k)
    have hg := List.getElem?_eq_getElem (show k < D.length by omega)
    have hNk := hN k _ hg
    rw [Nat.zero_add] at hNk
    simp (disch := omega) only [vX12_load_131, vX12_load_132, vX12_load_133, vX12_load_136, vX12_load_137, vX12_load_138, ms_o hm, ms_b hm, ms_0 hm, mp_many hm, ms_many hm, pI_c, pL_c, pF_c, pD_c, pA_n, pA_c, pA_rf, pR_c, pR_rf, pV_i, pV_a, pV_n, pV_rf, ldI_c, ldL_c, ldF_c, ldD_c, ldA_c, ldA_n, ldA_rf, dup2_l, dup2_ia, dup2_ir, popA_0, popA_s, getL_z, getL_s, setL_z, setL_1, setL_s, setL2_z, setL2_1, setL2_s, drop2_i, drop2_a, drop2_0, drop2_n, drop2_l, drop2_d, drop2_r, cwd_0, cwd_i, cwd_a, cwd_n, cwd_l, cwd_d, cwd_f, cwd_r, rf_s, rf_n, swi_0, swi_s, zR_b0, zR_b1, zN_b0, zN_b1, entV_i, entV_a, entV_n, entV_r, entV_f, entV_l, entV_d, entV_s, entV_0, List.length_cons, List.length_nil, List.nil_append, List.cons_append, true_and, and_true, Nat.reduceAdd, Nat.reduceLT, Nat.reduceEqDiff, Nat.reduceLeDiff, Nat.reduceSub, Nat.zero_add, Classical.not_not, ex_i, ex_l, ex_d, ex_r, ex_rs, ex_rn, ex_sm, Nat.sub_zero, eq_self, wn_sI, wn_sL, wn_sP, wsh_sI, wsh_sL, wsh_sP, wI_sL, wI_sP, wL_sI, wL_sP, wP_sI, wP_sL, wI_sI, wL_sL, Int32.reduceLT, Int32.reduceLE, true_implies, not_true_eq_false, false_implies, not_false_eq_true, i_10, na_1, nb_1, nm_1, ns_1, nr_1, na_2, nb_2, nm_2, ns_2, nr_2, na_3, nb_3, nm_3, ns_3, nr_3, na_4, nb_4, nm_4, ns_4, nr_4, na_5, nb_5, nm_5, ns_5, nr_5, na_6, nb_6, nm_6, ns_6, nr_6, na_7, nb_7, nm_7, ns_7, nr_7, na_8, nb_8, nm_8, ns_8, nr_8, na_10, nb_10, nm_10, ns_10, nr_10, na_16, nb_16, nm_16, ns_16, nr_16, nl_m1, ni_add, ni_mul, ni_sub, ni_cl, ni_in, vp_0, vp_1, vp_2, vp_3, vp_4, vp_5, Int32.reduceToNatClampNeg, ni_le, ni_lt, ni_eq, ni_le1, ni_le0, ni_eq0, ni_eq1, ni_eq2, ni_eq8, ni_eq9, hlt, e6]
    simp (disch := omega) only [vX12_load_141, vX12_load_142, vX12_load_145, vX12_load_146, vX12_load_147, vX12_load_148, ms_o hm, ms_b hm, ms_0 hm, mp_newSize hm, ms_newSize hm, pI_c, pL_c, pF_c, pD_c, pA_n, pA_c, pA_rf, pR_c, pR_rf, pV_i, pV_a, pV_n, pV_rf, ldI_c, ldL_c, ldF_c, ldD_c, ldA_c, ldA_n, ldA_rf, dup2_l, dup2_ia, dup2_ir, popA_0, popA_s, getL_z, getL_s, setL_z, setL_1, setL_s, setL2_z, setL2_1, setL2_s, drop2_i, drop2_a, drop2_0, drop2_n, drop2_l, drop2_d, drop2_r, cwd_0, cwd_i, cwd_a, cwd_n, cwd_l, cwd_d, cwd_f, cwd_r, rf_s, rf_n, swi_0, swi_s, zR_b0, zR_b1, zN_b0, zN_b1, entV_i, entV_a, entV_n, entV_r, entV_f, entV_l, entV_d, entV_s, entV_0, List.length_cons, List.length_nil, List.nil_append, List.cons_append, true_and, and_true, Nat.reduceAdd, Nat.reduceLT, Nat.reduceEqDiff, Nat.reduceLeDiff, Nat.reduceSub, Nat.zero_add, Classical.not_not, ex_i, ex_l, ex_d, ex_r, ex_rs, ex_rn, ex_sm, Nat.sub_zero, eq_self, wn_sI, wn_sL, wn_sP, wsh_sI, wsh_sL, wsh_sP, wI_sL, wI_sP, wL_sI, wL_sP, wP_sI, wP_sL, wI_sI, wL_sL, Int32.reduceLT, Int32.reduceLE, true_implies, not_true_eq_false, false_implies, not_false_eq_true, i_10, na_1, nb_1, nm_1, ns_1, nr_1, na_2, nb_2, nm_2, ns_2, nr_2, na_3, nb_3, nm_3, ns_3, nr_3, na_4, nb_4, nm_4, ns_4, nr_4, na_5, nb_5, nm_5, ns_5, nr_5, na_6, nb_6, nm_6, ns_6, nr_6, na_7, nb_7, nm_7, ns_7, nr_7, na_8, nb_8, nm_8, ns_8, nr_8, na_10, nb_10, nm_10, ns_10, nr_10, na_16, nb_16, nm_16, ns_16, nr_16, nl_m1, ni_add, ni_mul, ni_sub, ni_cl, ni_in, vp_0, vp_1, vp_2, vp_3, vp_4, vp_5, Int32.reduceToNatClampNeg]
    have nxt : ∀ (w2 : Wd) (o4 o5 o6 : Option Value), Fr (ld2S m) w w2 → TknK s (mst m w2) v n (k + 1) D → R g mX12_load K 279 [some (.ref m), some (.int qv), some (.int (nI v)), some (.int (nI k)), o4, o5, o6] [] w2 k0 n0 := by
      intro w2 o4 o5 o6 hf2 hT2
      simp (disch := omega) only [vX12_load_279, vX12_load_282, pI_c, pL_c, pF_c, pD_c, pA_n, pA_c, pA_rf, pR_c, pR_rf, pV_i, pV_a, pV_n, pV_rf, ldI_c, ldL_c, ldF_c, ldD_c, ldA_c, ldA_n, ldA_rf, dup2_l, dup2_ia, dup2_ir, popA_0, popA_s, getL_z, getL_s, setL_z, setL_1, setL_s, setL2_z, setL2_1, setL2_s, drop2_i, drop2_a, drop2_0, drop2_n, drop2_l, drop2_d, drop2_r, cwd_0, cwd_i, cwd_a, cwd_n, cwd_l, cwd_d, cwd_f, cwd_r, rf_s, rf_n, swi_0, swi_s, zR_b0, zR_b1, zN_b0, zN_b1, entV_i, entV_a, entV_n, entV_r, entV_f, entV_l, entV_d, entV_s, entV_0, List.length_cons, List.length_nil, List.nil_append, List.cons_append, true_and, and_true, Nat.reduceAdd, Nat.reduceLT, Nat.reduceEqDiff, Nat.reduceLeDiff, Nat.reduceSub, Nat.zero_add, Classical.not_not, ex_i, ex_l, ex_d, ex_r, ex_rs, ex_rn, ex_sm, Nat.sub_zero, eq_self, wn_sI, wn_sL, wn_sP, wsh_sI, wsh_sL, wsh_sP, wI_sL, wI_sP, wL_sI, wL_sP, wP_sI, wP_sL, wI_sI, wL_sL, Int32.reduceLT, Int32.reduceLE, true_implies, not_true_eq_false, false_implies, not_false_eq_true, i_10, na_1, nb_1, nm_1, ns_1, nr_1, na_2, nb_2, nm_2, ns_2, nr_2, na_3, nb_3, nm_3, ns_3, nr_3, na_4, nb_4, nm_4, ns_4, nr_4, na_5, nb_5, nm_5, ns_5, nr_5, na_6, nb_6, nm_6, ns_6, nr_6, na_7, nb_7, nm_7, ns_7, nr_7, na_8, nb_8, nm_8, ns_8, nr_8, na_10, nb_10, nm_10, ns_10, nr_10, na_16, nb_16, nm_16, ns_16, nr_16, nl_m1, ni_add, ni_mul, ni_sub, ni_cl, ni_in, vp_0, vp_1, vp_2, vp_3, vp_4, vp_5, Int32.reduceToNatClampNeg]
      refine ih (k + 1) w2 _ _ _ (by omega) (hm.fr hf2) (hS.fr hf2 (by unfold ld2S; omega)) (fun j x hj => (hN j x hj).fr hf2 (by unfold ld2S; omega) (fun i _ _ => ⟨by unfold ld2S; omega, by unfold ld2S; omega⟩)) hT2 fun w' p4 p5 p6 h1 h2 => hK w' p4 p5 p6 (hf2.tr h1) h2
    cases hDk : D[k] with
    | none =>
      rw [hDk] at hNk hg
      have hns : wI w (m + 37) k = -1 := hNk
      refine ⟨fun q => absurd hns q, fun _ => ?_⟩
      simp (disch := omega) only [vX12_load_151, pI_c, pL_c, pF_c, pD_c, pA_n, pA_c, pA_rf, pR_c, pR_rf, pV_i, pV_a, pV_n, pV_rf, ldI_c, ldL_c, ldF_c, ldD_c, ldA_c, ldA_n, ldA_rf, dup2_l, dup2_ia, dup2_ir, popA_0, popA_s, getL_z, getL_s, setL_z, setL_1, setL_s, setL2_z, setL2_1, setL2_s, drop2_i, drop2_a, drop2_0, drop2_n, drop2_l, drop2_d, drop2_r, cwd_0, cwd_i, cwd_a, cwd_n, cwd_l, cwd_d, cwd_f, cwd_r, rf_s, rf_n, swi_0, swi_s, zR_b0, zR_b1, zN_b0, zN_b1, entV_i, entV_a, entV_n, entV_r, entV_f, entV_l, entV_d, entV_s, entV_0, List.length_cons, List.length_nil, List.nil_append, List.cons_append, true_and, and_true, Nat.reduceAdd, Nat.reduceLT, Nat.reduceEqDiff, Nat.reduceLeDiff, Nat.reduceSub, Nat.zero_add, Classical.not_not, ex_i, ex_l, ex_d, ex_r, ex_rs, ex_rn, ex_sm, Nat.sub_zero, eq_self, wn_sI, wn_sL, wn_sP, wsh_sI, wsh_sL, wsh_sP, wI_sL, wI_sP, wL_sI, wL_sP, wP_sI, wP_sL, wI_sI, wL_sL, Int32.reduceLT, Int32.reduceLE, true_implies, not_true_eq_false, false_implies, not_false_eq_true, i_10]
      refine nxt w _ _ _ Fr.rf ⟨hT.1, fun j t hj ht ej => ⟨fun h => (hT.2 j t hj ht ej).1 (by omega), fun h => ?_⟩⟩
      rcases Nat.lt_or_ge j k with h2 | h2
      · exact (hT.2 j t hj ht ej).2 h2
      · obtain rfl : j = k := by omega
        have : t = sl := by rw [g7, ni_eq (by omega) (by omega)] at ej; exact ej.symm
        subst this
        exact ⟨fun _ => hsl0, fun C hC => by rw [hg] at hC; cases hC⟩
    | some C =>
      rw [hDk] at hNk hg
      obtain ⟨hC16, hns, hCel⟩ := hNk
      have hns1 : ¬ wI w (m + 37) k = -1 := by rw [hns]; exact ni_nem (by omega)
      refine ⟨fun _ => ?_, fun q => absurd q hns1⟩
      simp (disch := omega) only [vX12_load_154, vX12_load_156, vX12_load_157, vX12_load_158, vX12_load_159, vX12_load_160, vX12_load_162, vX12_load_163, ms_o hm, ms_b hm, ms_0 hm, pI_c, pL_c, pF_c, pD_c, pA_n, pA_c, pA_rf, pR_c, pR_rf, pV_i, pV_a, pV_n, pV_rf, ldI_c, ldL_c, ldF_c, ldD_c, ldA_c, ldA_n, ldA_rf, dup2_l, dup2_ia, dup2_ir, popA_0, popA_s, getL_z, getL_s, setL_z, setL_1, setL_s, setL2_z, setL2_1, setL2_s, drop2_i, drop2_a, drop2_0, drop2_n, drop2_l, drop2_d, drop2_r, cwd_0, cwd_i, cwd_a, cwd_n, cwd_l, cwd_d, cwd_f, cwd_r, rf_s, rf_n, swi_0, swi_s, zR_b0, zR_b1, zN_b0, zN_b1, entV_i, entV_a, entV_n, entV_r, entV_f, entV_l, entV_d, entV_s, entV_0, List.length_cons, List.length_nil, List.nil_append, List.cons_append, true_and, and_true, Nat.reduceAdd, Nat.reduceLT, Nat.reduceEqDiff, Nat.reduceLeDiff, Nat.reduceSub, Nat.zero_add, Classical.not_not, ex_i, ex_l, ex_d, ex_r, ex_rs, ex_rn, ex_sm, Nat.sub_zero, eq_self, wn_sI, wn_sL, wn_sP, wsh_sI, wsh_sL, wsh_sP, wI_sL, wI_sP, wL_sI, wL_sP, wP_sI, wP_sL, wI_sI, wL_sL, Int32.reduceLT, Int32.reduceLE, true_implies, not_true_eq_false, false_implies, not_false_eq_true, i_10, na_1, nb_1, nm_1, ns_1, nr_1, na_2, nb_2, nm_2, ns_2, nr_2, na_3, nb_3, nm_3, ns_3, nr_3, na_4, nb_4, nm_4, ns_4, nr_4, na_5, nb_5, nm_5, ns_5, nr_5, na_6, nb_6, nm_6, ns_6, nr_6, na_7, nb_7, nm_7, ns_7, nr_7, na_8, nb_8, nm_8, ns_8, nr_8, na_10, nb_10, nm_10, ns_10, nr_10, na_16, nb_16, nm_16, ns_16, nr_16, nl_m1, ni_add, ni_mul, ni_sub, ni_cl, ni_in, vp_0, vp_1, vp_2, vp_3, vp_4, vp_5, Int32.reduceToNatClampNeg]
      refine X12_free_ok hm hs8 hsl0 fun r hr hfree => ?_
      simp (disch := omega) only [vX12_load_166, vX12_load_168, vX12_load_169, vX12_load_172, vX12_load_173, vX12_load_176, vX12_load_178, vX12_load_179, vX12_load_181, vX12_load_182, vX12_load_183, vX12_load_186, vX12_load_188, vX12_load_189, vX12_load_192, vX12_load_194, vX12_load_195, vX12_load_196, vX12_load_197, vX12_load_200, vX12_load_202, vX12_load_203, vX12_load_206, vX12_load_207, vX12_load_208, vX12_load_209, vX12_load_210, ms_o hm, ms_b hm, ms_0 hm, mp_slot hm, ms_slot hm, mp_slotOf hm, ms_slotOf hm, mp_rowKind hm, ms_rowKind hm, mp_kindOf hm, ms_kindOf hm, mp_rowSize hm, ms_rowSize hm, mp_newSize hm, ms_newSize hm, pI_c, pL_c, pF_c, pD_c, pA_n, pA_c, pA_rf, pR_c, pR_rf, pV_i, pV_a, pV_n, pV_rf, ldI_c, ldL_c, ldF_c, ldD_c, ldA_c, ldA_n, ldA_rf, dup2_l, dup2_ia, dup2_ir, popA_0, popA_s, getL_z, getL_s, setL_z, setL_1, setL_s, setL2_z, setL2_1, setL2_s, drop2_i, drop2_a, drop2_0, drop2_n, drop2_l, drop2_d, drop2_r, cwd_0, cwd_i, cwd_a, cwd_n, cwd_l, cwd_d, cwd_f, cwd_r, rf_s, rf_n, swi_0, swi_s, zR_b0, zR_b1, zN_b0, zN_b1, entV_i, entV_a, entV_n, entV_r, entV_f, entV_l, entV_d, entV_s, entV_0, List.length_cons, List.length_nil, List.nil_append, List.cons_append, true_and, and_true, Nat.reduceAdd, Nat.reduceLT, Nat.reduceEqDiff, Nat.reduceLeDiff, Nat.reduceSub, Nat.zero_add, Classical.not_not, ex_i, ex_l, ex_d, ex_r, ex_rs, ex_rn, ex_sm, Nat.sub_zero, eq_self, wn_sI, wn_sL, wn_sP, wsh_sI, wsh_sL, wsh_sP, wI_sL, wI_sP, wL_sI, wL_sP, wP_sI, wP_sL, wI_sI, wL_sL, Int32.reduceLT, Int32.reduceLE, true_implies, not_true_eq_false, false_implies, not_false_eq_true, i_10, na_1, nb_1, nm_1, ns_1, nr_1, na_2, nb_2, nm_2, ns_2, nr_2, na_3, nb_3, nm_3, ns_3, nr_3, na_4, nb_4, nm_4, ns_4, nr_4, na_5, nb_5, nm_5, ns_5, nr_5, na_6, nb_6, nm_6, ns_6, nr_6, na_7, nb_7, nm_7, ns_7, nr_7, na_8, nb_8, nm_8, ns_8, nr_8, na_10, nb_10, nm_10, ns_10, nr_10, na_16, nb_16, nm_16, ns_16, nr_16, nl_m1, ni_add, ni_mul, ni_sub, ni_cl, ni_in, vp_0, vp_1, vp_2, vp_3, vp_4, vp_5, Int32.reduceToNatClampNeg, up2_n1, up2_at, if_true, if_false, Nat.reduceEqDiff, eq_self, e7, e8, hns]
      generalize hw1 : sI (sI (sI w (m + 1) sl (nI r)) (m + 2) r (s.1 8 (8 * v + k))) (m + 3) r (nI C.length) = w1
      have hf1 : Fr (fun a j => (a = m + 1 ∧ j = sl) ∨ ((a = m + 2 ∨ a = m + 3) ∧ j = r)) w w1 := by
        rw [← hw1]
        exact ((Fr.rf.i _ (Or.inl ⟨rfl, rfl⟩)).i _ (Or.inr ⟨Or.inl rfl, rfl⟩)).i _ (Or.inr ⟨Or.inr rfl, rfl⟩)
      have q1 : wI w1 (m + 1) sl = nI r := by rw [← hw1, wI_ne (by omega), wI_ne (by omega), wI_at, if_pos rfl]
      have q2 : wI w1 (m + 2) r = s.1 8 (8 * v + k) := by rw [← hw1, wI_ne (by omega), wI_at, if_pos rfl]
      have q3 : wI w1 (m + 3) r = nI C.length := by rw [← hw1, wI_at, if_pos rfl]
      refine X12_load_cells (C := C) (by omega) hr rfl hC16 C.length 0 w1 (by omega) (hm.fr hf1) ((hf1.I _ _ (by omega)).trans hns) (fun j hj => ?_) (fun j hj => absurd hj (Nat.not_lt_zero j)) fun w2 p6 hf2 hcel => ?_
      · rw [hf1.I _ _ (by omega), hf1.L _ _ (by omega)]
        exact hCel j hj
      · have hF : Fr (fun a j => (a = m + 1 ∧ j = sl) ∨ ((a = m + 2 ∨ a = m + 3) ∧ j = r) ∨ ((a = m + 4 ∨ a = m + 5) ∧ 16 * r ≤ j ∧ j < 16 * r + 16)) w w2 := (hf1.mo fun a j q => by omega).tr (hf2.mo fun a j q => by omega)
        have hslo : ∀ t, t < 8 → t ≠ sl → wI w2 (m + 1) t = wI w (m + 1) t := fun t _ ht => hF.I _ _ (by omega)
        have hsln : wI w2 (m + 1) sl = nI r := by rw [hf2.I _ _ (by omega)]; exact q1
        have hrow : ∀ r', r' < 8 → r' ≠ r → wI w2 (m + 2) r' = wI w (m + 2) r' ∧ wI w2 (m + 3) r' = wI w (m + 3) r' ∧ ∀ i, i < 16 → wI w2 (m + 4) (16 * r' + i) = wI w (m + 4) (16 * r' + i) ∧ wL w2 (m + 5) (16 * r' + i) = wL w (m + 5) (16 * r' + i) := fun r' _ hr' => ⟨hF.I _ _ (by omega), hF.I _ _ (by omega), fun i hi => ⟨hF.I _ _ (by omega), hF.L _ _ (by omega)⟩⟩
        refine nxt w2 _ _ _ (hF.mo fun a j q => by unfold ld2S; omega) ⟨fun t ht hall => ?_, fun j t hj ht ej => ⟨fun h => ?_, fun h => ?_⟩⟩
        · obtain ⟨c1, c2⟩ := hT.1 t ht hall
          have hne : t ≠ sl := fun q => hall k (by omega) (by rw [g7, q])
          have c1' : wI w (m + 1) t = s.1 1 t := c1
          refine ⟨(hslo t ht hne).trans c1, fun r' hr' er => ?_⟩
          have hrr : r' ≠ r := fun q => hfree t ht (by rw [c1', er, q])
          obtain ⟨d1, d2, d3⟩ := hrow r' hr' hrr
          obtain ⟨c3, c4, c5⟩ := c2 r' hr' er
          exact ⟨d1.trans c3, d2.trans c4, fun i hi => ⟨(d3 i hi).1.trans (c5 i hi).1, (d3 i hi).2.trans (c5 i hi).2⟩⟩
        · have hjk : j ≠ k := by omega
          have hne : t ≠ sl := fun q => hjk (hdis j k hj (by omega) (by rw [g7, ej, q]))
          exact (hslo t ht hne).trans ((hT.2 j t hj ht ej).1 (by omega))
        · by_cases hjk : j = k
          · subst hjk
            have : t = sl := by rw [g7, ni_eq (by omega) (by omega)] at ej; exact ej.symm
            subst this
            refine ⟨fun hn => (by rw [hg] at hn; cases hn), fun C' hC' => ?_⟩
            rw [hg] at hC'
            cases hC'
            refine ⟨r, hr, hsln, fun t' ht' hne => ?_, ?_, ?_, hC16, fun i hi => ?_⟩
            · show ¬ wI w2 (m + 1) t' = nI r
              rw [hslo t' ht' hne]
              exact hfree t' ht'
            · show wI w2 (m + 2) r = _
              rw [hf2.I _ _ (by omega)]; exact q2
            · show wI w2 (m + 3) r = _
              rw [hf2.I _ _ (by omega)]; exact q3
            · exact hcel i hi
          · have hne : t ≠ sl := fun q => hjk (hdis j k hj (by omega) (by rw [g7, ej, q]))
            obtain ⟨b1, b2⟩ := (hT.2 j t hj ht ej).2 (by omega)
            refine ⟨fun hn => (hslo t ht hne).trans (b1 hn), fun C' hC' => ?_⟩
            obtain ⟨r', hr', u1, u2, u3, u4, u5, u6⟩ := b2 C' hC'
            have u1' : wI w (m + 1) t = nI r' := u1
            have hrr : r' ≠ r := fun q => hfree t ht (by rw [u1', q])
            obtain ⟨d1, d2, d3⟩ := hrow r' hr' hrr
            refine ⟨r', hr', (hslo t ht hne).trans u1, fun t' ht' hne' => ?_, d1.trans u3, d2.trans u4, u5, fun i hi => ?_⟩
            · show ¬ wI w2 (m + 1) t' = nI r'
              by_cases et : t' = sl
              · rw [et, hsln, ni_eq (by omega) (by omega)]
                exact fun q => hrr q.symm
              · rw [hslo t' ht' et]
                exact u2 t' ht' hne'
            · rw [u6 i hi]
              show some (wI w (m + 4) (16 * r' + i), wL w (m + 5) (16 * r' + i)) = some (wI w2 (m + 4) (16 * r' + i), wL w2 (m + 5) (16 * r' + i))
              rw [(d3 i (by omega)).1, (d3 i (by omega)).2]
theorem Tkn.cg {s s' s2 : St} {v n : Nat} {D : List (Option (List (Int32 × Int64)))} (h : Tkn s s' v n D) (e1 : s2.1 1 = s'.1 1) (e2 : s2.1 2 = s'.1 2) (e3 : s2.1 3 = s'.1 3) (e4 : s2.1 4 = s'.1 4) (e5 : s2.2 5 = s'.2 5) : Tkn s s2 v n D := by
  unfold Tkn at h ⊢
  rw [e1, e2, e3, e4, e5]
  exact h
/-- the wire of a state -/
def WW (s : St) : Prop := ∃ u, u ≤ 500 ∧ s.1 0 13 = nI u ∧ ∀ i, i < u → ∃ c, c ≤ 255 ∧ s.1 13 i = nI c
theorem WW.Wr {m : Nat} {w : Wd} {u : Nat} (hu : wI w m 13 = nI u) (hu5 : u ≤ 500) (h : ∀ i, i < u → ∃ c, c ≤ 255 ∧ wI w (m + 13) i = nI c) : Wr m w (fun i => (wI w (m + 13) i).toNatClampNeg) u := ⟨hu5, fun i hi => by
  obtain ⟨c, hc, e⟩ := h i hi
  refine ⟨?_, ?_⟩
  · show wI w (m + 13) i = nI (wI w (m + 13) i).toNatClampNeg
    rw [e, ni_cl (by omega)]
  · show (wI w (m + 13) i).toNatClampNeg ≤ 255
    rw [e, ni_cl (by omega)]
    exact hc⟩
theorem rdFrm_inr {b : Nat → Nat} {u : Nat} {mn : Nat → Int32} {F : Nat → Nat → Nat → Int32} {q vw p c : Nat} {L : List (Option (List (Int32 × Int64)))} (h : rdFrm b u mn F q = .inr (vw, p, L, c)) : vw ≤ 5 ∧ ¬ mn vw = 0 ∧ c = q + 4 + b (q + 1) ∧ c ≤ u ∧ rdBody b (q + 2 + b (q + 1)) (F vw) (mn vw).toNatClampNeg (q + 2) = .inr (p, L) := by
  unfold rdFrm at h
  split at h
  · cases h
  next h1 =>
    split at h
    · cases h
    next h2 =>
      split at h
      · split at h
        · cases h
        next h3 =>
          cases h
          exact ⟨by omega, fun z => h1 (Or.inr z), rfl, by omega, h3⟩
      · cases h
set_option maxRecDepth 100000 in
set_option maxHeartbeats 4000000 in
theorem M_load {g : Ge} {w : Wd} {k n : Nat} {K : Int32 → Wd → Nat → Nat → Prop} {m : Nat} (hm : MS g m w) (hR : RW (mst m w)) (hV : VW (mst m w)) (hW : WW (mst m w)) (q v : Int32) (h : ∀ ans w', Fr (mS m) w w' → SpLoad (mst m w) q v ans (mst m w') → K ans w' k n) : cI g mX12_load [.ref m, .int q, .int v] w k n K := by
  obtain ⟨u, hu5, hu, hby⟩ := hW
  change wI w m 13 = nI u at hu
  have hWr : Wr m w (fun i => (wI w (m + 13) i).toNatClampNeg) u := WW.Wr hu hu5 hby
  have hFA : ∀ q', frmAt (mst m w) q' = rdFrm (fun i => (wI w (m + 13) i).toNatClampNeg) u ((mst m w).1 6) (fun v j k => (mst m w).1 (7 + j) (8 * v + k)) q' := fun q' => by
    unfold frmAt
    rw [show (mst m w).1 0 13 = nI u from hu, ni_cl (by omega)]
    rfl
  refine cI_of 7 0 0 rfl (by decide +kernel) rfl (Nat.le_of_ble_eq_true rfl) (Nat.zero_le _) (Nat.zero_le _) ?_
  simp only [vX12_load_0, vX12_load_1, vX12_load_2, vX12_load_3, vX12_load_6, vX12_load_7, vX12_load_8, ms_o hm, ms_b hm, ms_0 hm, pI_c, pL_c, pF_c, pD_c, pA_n, pA_c, pA_rf, pR_c, pR_rf, pV_i, pV_a, pV_n, pV_rf, ldI_c, ldL_c, ldF_c, ldD_c, ldA_c, ldA_n, ldA_rf, dup2_l, dup2_ia, dup2_ir, popA_0, popA_s, getL_z, getL_s, setL_z, setL_1, setL_s, setL2_z, setL2_1, setL2_s, drop2_i, drop2_a, drop2_0, drop2_n, drop2_l, drop2_d, drop2_r, cwd_0, cwd_i, cwd_a, cwd_n, cwd_l, cwd_d, cwd_f, cwd_r, rf_s, rf_n, swi_0, swi_s, zR_b0, zR_b1, zN_b0, zN_b1, entV_i, entV_a, entV_n, entV_r, entV_f, entV_l, entV_d, entV_s, entV_0, List.length_cons, List.length_nil, List.nil_append, List.cons_append, true_and, and_true, Nat.reduceAdd, Nat.reduceLT, Nat.reduceEqDiff, Nat.reduceLeDiff, Nat.reduceSub, Nat.zero_add, Classical.not_not, ex_i, ex_l, ex_d, ex_r, ex_rs, ex_rn, ex_sm, Nat.sub_zero, eq_self, wn_sI, wn_sL, wn_sP, wsh_sI, wsh_sL, wsh_sP, wI_sL, wI_sP, wL_sI, wL_sP, wP_sI, wP_sL, wI_sI, wL_sL, Int32.reduceLT, Int32.reduceLE, true_implies, not_true_eq_false, false_implies, not_false_eq_true, i_10, hu]
  refine X12_within_ok _ _ _ ?_
  unfold SpLoad at h
  rw [show (mst m w).1 0 13 = nI u from hu] at h
  by_cases hq : 0 ≤ q ∧ q ≤ nI u - 1
  · simp only [b2i_t hq, vX12_load_11, vX12_load_14, vX12_load_15, pI_c, pL_c, pF_c, pD_c, pA_n, pA_c, pA_rf, pR_c, pR_rf, pV_i, pV_a, pV_n, pV_rf, ldI_c, ldL_c, ldF_c, ldD_c, ldA_c, ldA_n, ldA_rf, dup2_l, dup2_ia, dup2_ir, popA_0, popA_s, getL_z, getL_s, setL_z, setL_1, setL_s, setL2_z, setL2_1, setL2_s, drop2_i, drop2_a, drop2_0, drop2_n, drop2_l, drop2_d, drop2_r, cwd_0, cwd_i, cwd_a, cwd_n, cwd_l, cwd_d, cwd_f, cwd_r, rf_s, rf_n, swi_0, swi_s, zR_b0, zR_b1, zN_b0, zN_b1, entV_i, entV_a, entV_n, entV_r, entV_f, entV_l, entV_d, entV_s, entV_0, List.length_cons, List.length_nil, List.nil_append, List.cons_append, true_and, and_true, Nat.reduceAdd, Nat.reduceLT, Nat.reduceEqDiff, Nat.reduceLeDiff, Nat.reduceSub, Nat.zero_add, Classical.not_not, ex_i, ex_l, ex_d, ex_r, ex_rs, ex_rn, ex_sm, Nat.sub_zero, eq_self, wn_sI, wn_sL, wn_sP, wsh_sI, wsh_sL, wsh_sP, wI_sL, wI_sP, wL_sI, wL_sP, wP_sI, wP_sL, wI_sI, wL_sL, Int32.reduceLT, Int32.reduceLE, true_implies, not_true_eq_false, false_implies, not_false_eq_true, i_10]
    refine X12_isVersion_ok _ ?_
    by_cases hv : 0 ≤ v ∧ v ≤ 5
    · obtain ⟨j, hj, rfl⟩ := i_ltN (by omega) hq.1 hq.2
      obtain ⟨y, hy, rfl⟩ := i_nat (c := 5) (by decide) hv.1 hv.2
      have hy6 : y < 6 := by omega
      simp only [if_neg (not_not_intro (And.intro hq hv)), ni_cl (show y < 2147483648 by omega), ni_cl (show j < 2147483648 by omega), hFA] at h
      simp (disch := omega) only [b2i_t hv, vX12_load_18, vX12_load_21, vX12_load_22, vX12_load_23, vX12_load_24, vX12_load_27, vX12_load_28, vX12_load_29, ms_o hm, ms_b hm, ms_0 hm, mp_many hm, ms_many hm, pI_c, pL_c, pF_c, pD_c, pA_n, pA_c, pA_rf, pR_c, pR_rf, pV_i, pV_a, pV_n, pV_rf, ldI_c, ldL_c, ldF_c, ldD_c, ldA_c, ldA_n, ldA_rf, dup2_l, dup2_ia, dup2_ir, popA_0, popA_s, getL_z, getL_s, setL_z, setL_1, setL_s, setL2_z, setL2_1, setL2_s, drop2_i, drop2_a, drop2_0, drop2_n, drop2_l, drop2_d, drop2_r, cwd_0, cwd_i, cwd_a, cwd_n, cwd_l, cwd_d, cwd_f, cwd_r, rf_s, rf_n, swi_0, swi_s, zR_b0, zR_b1, zN_b0, zN_b1, entV_i, entV_a, entV_n, entV_r, entV_f, entV_l, entV_d, entV_s, entV_0, List.length_cons, List.length_nil, List.nil_append, List.cons_append, true_and, and_true, Nat.reduceAdd, Nat.reduceLT, Nat.reduceEqDiff, Nat.reduceLeDiff, Nat.reduceSub, Nat.zero_add, Classical.not_not, ex_i, ex_l, ex_d, ex_r, ex_rs, ex_rn, ex_sm, Nat.sub_zero, eq_self, wn_sI, wn_sL, wn_sP, wsh_sI, wsh_sL, wsh_sP, wI_sL, wI_sP, wL_sI, wL_sP, wP_sI, wP_sL, wI_sI, wL_sL, Int32.reduceLT, Int32.reduceLE, true_implies, not_true_eq_false, false_implies, not_false_eq_true, i_10, na_1, nb_1, nm_1, ns_1, nr_1, na_2, nb_2, nm_2, ns_2, nr_2, na_3, nb_3, nm_3, ns_3, nr_3, na_4, nb_4, nm_4, ns_4, nr_4, na_5, nb_5, nm_5, ns_5, nr_5, na_6, nb_6, nm_6, ns_6, nr_6, na_7, nb_7, nm_7, ns_7, nr_7, na_8, nb_8, nm_8, ns_8, nr_8, na_10, nb_10, nm_10, ns_10, nr_10, na_16, nb_16, nm_16, ns_16, nr_16, nl_m1, ni_add, ni_mul, ni_sub, ni_cl, ni_in, vp_0, vp_1, vp_2, vp_3, vp_4, vp_5, Int32.reduceToNatClampNeg]
      rcases hV y hy6 with e0 | ⟨n1, hn0, hn1, hVW⟩
      · simp only [e0, if_true] at h
        have e0' : wI w (m + 6) y = 0 := e0
        simp only [e0', vX12_load_32, vX12_load_34, pI_c, pL_c, pF_c, pD_c, pA_n, pA_c, pA_rf, pR_c, pR_rf, pV_i, pV_a, pV_n, pV_rf, ldI_c, ldL_c, ldF_c, ldD_c, ldA_c, ldA_n, ldA_rf, dup2_l, dup2_ia, dup2_ir, popA_0, popA_s, getL_z, getL_s, setL_z, setL_1, setL_s, setL2_z, setL2_1, setL2_s, drop2_i, drop2_a, drop2_0, drop2_n, drop2_l, drop2_d, drop2_r, cwd_0, cwd_i, cwd_a, cwd_n, cwd_l, cwd_d, cwd_f, cwd_r, rf_s, rf_n, swi_0, swi_s, zR_b0, zR_b1, zN_b0, zN_b1, entV_i, entV_a, entV_n, entV_r, entV_f, entV_l, entV_d, entV_s, entV_0, List.length_cons, List.length_nil, List.nil_append, List.cons_append, true_and, and_true, Nat.reduceAdd, Nat.reduceLT, Nat.reduceEqDiff, Nat.reduceLeDiff, Nat.reduceSub, Nat.zero_add, Classical.not_not, ex_i, ex_l, ex_d, ex_r, ex_rs, ex_rn, ex_sm, Nat.sub_zero, eq_self, wn_sI, wn_sL, wn_sP, wsh_sI, wsh_sL, wsh_sP, wI_sL, wI_sP, wL_sI, wL_sP, wP_sI, wP_sL, wI_sI, wL_sL, Int32.reduceLT, Int32.reduceLE, true_implies, not_true_eq_false, false_implies, not_false_eq_true, i_10]
        exact h _ _ Fr.rf ⟨rfl, Bt.rf⟩
      · have hn8 := hVW.1
        have hne : ¬ nI n1 = 0 := nI_ne0 hn0 (by omega)
        have hn1' : wI w (m + 6) y = nI n1 := hn1
        simp only [hn1, if_neg hne] at h
        simp only [hn1', hne, pI_c, pL_c, pF_c, pD_c, pA_n, pA_c, pA_rf, pR_c, pR_rf, pV_i, pV_a, pV_n, pV_rf, ldI_c, ldL_c, ldF_c, ldD_c, ldA_c, ldA_n, ldA_rf, dup2_l, dup2_ia, dup2_ir, popA_0, popA_s, getL_z, getL_s, setL_z, setL_1, setL_s, setL2_z, setL2_1, setL2_s, drop2_i, drop2_a, drop2_0, drop2_n, drop2_l, drop2_d, drop2_r, cwd_0, cwd_i, cwd_a, cwd_n, cwd_l, cwd_d, cwd_f, cwd_r, rf_s, rf_n, swi_0, swi_s, zR_b0, zR_b1, zN_b0, zN_b1, entV_i, entV_a, entV_n, entV_r, entV_f, entV_l, entV_d, entV_s, entV_0, List.length_cons, List.length_nil, List.nil_append, List.cons_append, true_and, and_true, Nat.reduceAdd, Nat.reduceLT, Nat.reduceEqDiff, Nat.reduceLeDiff, Nat.reduceSub, Nat.zero_add, Classical.not_not, ex_i, ex_l, ex_d, ex_r, ex_rs, ex_rn, ex_sm, Nat.sub_zero, eq_self, wn_sI, wn_sL, wn_sP, wsh_sI, wsh_sL, wsh_sP, wI_sL, wI_sP, wL_sI, wL_sP, wP_sI, wP_sL, wI_sI, wL_sL, Int32.reduceLT, Int32.reduceLE, true_implies, not_true_eq_false, false_implies, not_false_eq_true, i_10]
        simp (disch := omega) only [vX12_load_35, vX12_load_36, vX12_load_37, ms_o hm, ms_b hm, ms_0 hm, pI_c, pL_c, pF_c, pD_c, pA_n, pA_c, pA_rf, pR_c, pR_rf, pV_i, pV_a, pV_n, pV_rf, ldI_c, ldL_c, ldF_c, ldD_c, ldA_c, ldA_n, ldA_rf, dup2_l, dup2_ia, dup2_ir, popA_0, popA_s, getL_z, getL_s, setL_z, setL_1, setL_s, setL2_z, setL2_1, setL2_s, drop2_i, drop2_a, drop2_0, drop2_n, drop2_l, drop2_d, drop2_r, cwd_0, cwd_i, cwd_a, cwd_n, cwd_l, cwd_d, cwd_f, cwd_r, rf_s, rf_n, swi_0, swi_s, zR_b0, zR_b1, zN_b0, zN_b1, entV_i, entV_a, entV_n, entV_r, entV_f, entV_l, entV_d, entV_s, entV_0, List.length_cons, List.length_nil, List.nil_append, List.cons_append, true_and, and_true, Nat.reduceAdd, Nat.reduceLT, Nat.reduceEqDiff, Nat.reduceLeDiff, Nat.reduceSub, Nat.zero_add, Classical.not_not, ex_i, ex_l, ex_d, ex_r, ex_rs, ex_rn, ex_sm, Nat.sub_zero, eq_self, wn_sI, wn_sL, wn_sP, wsh_sI, wsh_sL, wsh_sP, wI_sL, wI_sP, wL_sI, wL_sP, wP_sI, wP_sL, wI_sI, wL_sL, Int32.reduceLT, Int32.reduceLE, true_implies, not_true_eq_false, false_implies, not_false_eq_true, i_10]
        refine X12_isNoFrame_ok hm (Sm.self m w) hV hWr hu hj (fun x w1 i1 hf1 hl => ?_) (fun vw p L c w1 i1 hvw hcu hcq hf1 r52 r55 r57 r56 hG => ?_)
        · have e10 : ¬ (1 : Int32) = 0 := by decide
          have hm1 := hm.fr hf1
          obtain ⟨f, pl⟩ := x
          obtain ⟨l1, l2⟩ := hl
          simp only [i1] at h
          simp (disch := omega) only [vX12_load_40, vX12_load_43, vX12_load_44, vX12_load_47, vX12_load_48, vX12_load_49, vX12_load_50, vX12_load_51, vX12_load_52, vX12_load_53, vX12_load_54, vX12_load_55, vX12_load_56, vX12_load_59, vX12_load_60, vX12_load_63, vX12_load_64, vX12_load_67, ms_o hm1, ms_b hm1, ms_0 hm1, mp_counts hm1, ms_counts hm1, pI_c, pL_c, pF_c, pD_c, pA_n, pA_c, pA_rf, pR_c, pR_rf, pV_i, pV_a, pV_n, pV_rf, ldI_c, ldL_c, ldF_c, ldD_c, ldA_c, ldA_n, ldA_rf, dup2_l, dup2_ia, dup2_ir, popA_0, popA_s, getL_z, getL_s, setL_z, setL_1, setL_s, setL2_z, setL2_1, setL2_s, drop2_i, drop2_a, drop2_0, drop2_n, drop2_l, drop2_d, drop2_r, cwd_0, cwd_i, cwd_a, cwd_n, cwd_l, cwd_d, cwd_f, cwd_r, rf_s, rf_n, swi_0, swi_s, zR_b0, zR_b1, zN_b0, zN_b1, entV_i, entV_a, entV_n, entV_r, entV_f, entV_l, entV_d, entV_s, entV_0, List.length_cons, List.length_nil, List.nil_append, List.cons_append, true_and, and_true, Nat.reduceAdd, Nat.reduceLT, Nat.reduceEqDiff, Nat.reduceLeDiff, Nat.reduceSub, Nat.zero_add, Classical.not_not, ex_i, ex_l, ex_d, ex_r, ex_rs, ex_rn, ex_sm, Nat.sub_zero, eq_self, wn_sI, wn_sL, wn_sP, wsh_sI, wsh_sL, wsh_sP, wI_sL, wI_sP, wL_sI, wL_sP, wP_sI, wP_sL, wI_sI, wL_sL, Int32.reduceLT, Int32.reduceLE, true_implies, not_true_eq_false, false_implies, not_false_eq_true, i_10, na_1, nb_1, nm_1, ns_1, nr_1, na_2, nb_2, nm_2, ns_2, nr_2, na_3, nb_3, nm_3, ns_3, nr_3, na_4, nb_4, nm_4, ns_4, nr_4, na_5, nb_5, nm_5, ns_5, nr_5, na_6, nb_6, nm_6, ns_6, nr_6, na_7, nb_7, nm_7, ns_7, nr_7, na_8, nb_8, nm_8, ns_8, nr_8, na_10, nb_10, nm_10, ns_10, nr_10, na_16, nb_16, nm_16, ns_16, nr_16, nl_m1, ni_add, ni_mul, ni_sub, ni_cl, ni_in, vp_0, vp_1, vp_2, vp_3, vp_4, vp_5, Int32.reduceToNatClampNeg, up2_n1, up2_at, if_true, if_false, Nat.reduceEqDiff, eq_self, e10, l1, l2]
          have hm2 : MS g m (sI w1 (m + 17) 2 (wI w1 (m + 17) 2 + 1)) := hm1
          refine X12_stops_ok hm2 _ _ _ _ fun w' hf2 q1 q2 q3 q4 q5 => ?_
          rw [if_pos rfl]
          have hf12 : Fr (fun p j => frmS m p j ∨ (p = m + 17 ∧ j = 2)) w (sI w1 (m + 17) 2 (wI w1 (m + 17) 2 + 1)) := (hf1.mo fun _ _ z => Or.inl z).i _ (Or.inr ⟨rfl, rfl⟩)
          refine h _ _ ((hf12.mo fun p j z => by unfold frmS at z; unfold mS; omega).tr (hf2.mo fun p j z => by unfold mS; omega)) ⟨rfl, ?_, q1, q2, q3, q4, q5, ?_⟩
          · exact (Bt.of hf12 fun o j hp hn => by unfold pers at hp; unfold frmS; omega).tr (Bt.of hf2 fun o j hp hn => by omega)
          · show wI w' (m + 17) 2 = wI w (m + 17) 2 + 1
            rw [hf2.I _ _ (by omega), wI_at, if_pos rfl, hf1.I _ _ (by unfold frmS; omega)]
        · have hm1 := hm.fr hf1
          have hS1 : Sm m w1 (mst m w) := (Sm.self m w).fr hf1 (by unfold frmS; omega)
          simp only [i1] at h
          obtain ⟨nw, hnw0, hnw, hVWw⟩ : ∃ n, 0 < n ∧ (mst m w).1 6 vw = nI n ∧ VerW n (fun j k => (mst m w).1 (7 + j) (8 * vw + k)) := by
            rcases hV vw hvw with e | e
            · exact absurd e (rdFrm_inr i1).2.1
            · exact e
          have hnw8 := hVWw.1
          have hbody : rdBody (fun i => (wI w (m + 13) i).toNatClampNeg) (j + 2 + (wI w (m + 13) (j + 1)).toNatClampNeg) (fun j k => (mst m w).1 (7 + j) (8 * vw + k)) nw (j + 2) = .inr (p, L) := by
            have := (rdFrm_inr i1).2.2.2.2
            rw [hnw, ni_cl (by omega)] at this
            exact this
          have hcq' : c = j + 4 + (wI w (m + 13) (j + 1)).toNatClampNeg := hcq
          obtain ⟨o1, o2, o3⟩ := rdBody_ok hVWw.2.1 (fun i hi => (hWr.2 i (by omega)).2) hbody
          have htk : tkAt (mst m w) vw L y = tk (fun j k => (mst m w).1 (7 + j) (8 * vw + k)) nw L (wI w m 5) (fun j k => (mst m w).1 (7 + j) (8 * y + k)) n1 0 := by
            unfold tkAt
            rw [hnw, hn1, ni_cl (by omega), ni_cl (by omega)]
            rfl
          simp only [htk] at h
          have e00 : ¬ ¬ (0 : Int32) = 0 := not_not_intro rfl
          simp (disch := omega) only [vX12_load_40, vX12_load_68, vX12_load_69, vX12_load_70, ms_o hm1, ms_b hm1, ms_0 hm1, pI_c, pL_c, pF_c, pD_c, pA_n, pA_c, pA_rf, pR_c, pR_rf, pV_i, pV_a, pV_n, pV_rf, ldI_c, ldL_c, ldF_c, ldD_c, ldA_c, ldA_n, ldA_rf, dup2_l, dup2_ia, dup2_ir, popA_0, popA_s, getL_z, getL_s, setL_z, setL_1, setL_s, setL2_z, setL2_1, setL2_s, drop2_i, drop2_a, drop2_0, drop2_n, drop2_l, drop2_d, drop2_r, cwd_0, cwd_i, cwd_a, cwd_n, cwd_l, cwd_d, cwd_f, cwd_r, rf_s, rf_n, swi_0, swi_s, zR_b0, zR_b1, zN_b0, zN_b1, entV_i, entV_a, entV_n, entV_r, entV_f, entV_l, entV_d, entV_s, entV_0, List.length_cons, List.length_nil, List.nil_append, List.cons_append, true_and, and_true, Nat.reduceAdd, Nat.reduceLT, Nat.reduceEqDiff, Nat.reduceLeDiff, Nat.reduceSub, Nat.zero_add, Classical.not_not, ex_i, ex_l, ex_d, ex_r, ex_rs, ex_rn, ex_sm, Nat.sub_zero, eq_self, wn_sI, wn_sL, wn_sP, wsh_sI, wsh_sL, wsh_sP, wI_sL, wI_sP, wL_sI, wL_sP, wP_sI, wP_sL, wI_sI, wL_sL, Int32.reduceLT, Int32.reduceLE, true_implies, not_true_eq_false, false_implies, not_false_eq_true, i_10]
          refine X12_takes_ok hm1 hS1 hy6 (hVW.S hn1) hvw (hVWw.S hnw) r56 r57 ((hf1.I m 5 (by unfold frmS; omega))) hG o2 o3 o1 (fun f e y2 w2 i2 hf2 q1 q2 q3 => ?_) (fun D w2 i2 hf2 hN hDl => ?_)
          · have e20 : ¬ (0 : Int32) ≤ -20 := by decide
            have hf12 : Fr (fun a z => frmS m a z ∨ tkS m a z) w w2 := (hf1.mo fun _ _ z => Or.inl z).tr (hf2.mo fun _ _ z => Or.inr z)
            have hm2 := hm.fr hf12
            simp only [i2] at h
            simp (disch := omega) only [vX12_load_73, vX12_load_76, vX12_load_77, vX12_load_78, vX12_load_79, vX12_load_82, vX12_load_83, vX12_load_86, vX12_load_87, vX12_load_90, vX12_load_93, ms_o hm2, ms_b hm2, ms_0 hm2, pI_c, pL_c, pF_c, pD_c, pA_n, pA_c, pA_rf, pR_c, pR_rf, pV_i, pV_a, pV_n, pV_rf, ldI_c, ldL_c, ldF_c, ldD_c, ldA_c, ldA_n, ldA_rf, dup2_l, dup2_ia, dup2_ir, popA_0, popA_s, getL_z, getL_s, setL_z, setL_1, setL_s, setL2_z, setL2_1, setL2_s, drop2_i, drop2_a, drop2_0, drop2_n, drop2_l, drop2_d, drop2_r, cwd_0, cwd_i, cwd_a, cwd_n, cwd_l, cwd_d, cwd_f, cwd_r, rf_s, rf_n, swi_0, swi_s, zR_b0, zR_b1, zN_b0, zN_b1, entV_i, entV_a, entV_n, entV_r, entV_f, entV_l, entV_d, entV_s, entV_0, List.length_cons, List.length_nil, List.nil_append, List.cons_append, true_and, and_true, Nat.reduceAdd, Nat.reduceLT, Nat.reduceEqDiff, Nat.reduceLeDiff, Nat.reduceSub, Nat.zero_add, Classical.not_not, ex_i, ex_l, ex_d, ex_r, ex_rs, ex_rn, ex_sm, Nat.sub_zero, eq_self, wn_sI, wn_sL, wn_sP, wsh_sI, wsh_sL, wsh_sP, wI_sL, wI_sP, wL_sI, wL_sP, wP_sI, wP_sL, wI_sI, wL_sL, Int32.reduceLT, Int32.reduceLE, true_implies, not_true_eq_false, false_implies, not_false_eq_true, i_10, e20, q1, q2, q3]
            refine X12_stops_ok hm2 _ _ _ _ fun w' hf3 z1 z2 z3 z4 z5 => ?_
            rw [if_neg (by decide)]
            refine h _ _ ((hf12.mo fun a z y => by unfold frmS tkS at y; unfold mS; omega).tr (hf3.mo fun a z y => by unfold mS; omega)) ⟨rfl, ?_⟩
            exact SpStop.of hf12 (fun o z hp => by unfold pers at hp; unfold frmS tkS; omega) hf3 z1 z2 z3 z4 z5
          · have hf12 : Fr (fun a z => frmS m a z ∨ tkS m a z) w w2 := (hf1.mo fun _ _ z => Or.inl z).tr (hf2.mo fun _ _ z => Or.inr z)
            have hm2 := hm.fr hf12
            have hS2 : Sm m w2 (mst m w) := (Sm.self m w).fr hf12 (by unfold frmS tkS; omega)
            have e0 : (0 : Int32) ≤ 0 := by decide
            simp only [i2] at h
            simp (disch := omega) only [vX12_load_73, vX12_load_94, vX12_load_95, pI_c, pL_c, pF_c, pD_c, pA_n, pA_c, pA_rf, pR_c, pR_rf, pV_i, pV_a, pV_n, pV_rf, ldI_c, ldL_c, ldF_c, ldD_c, ldA_c, ldA_n, ldA_rf, dup2_l, dup2_ia, dup2_ir, popA_0, popA_s, getL_z, getL_s, setL_z, setL_1, setL_s, setL2_z, setL2_1, setL2_s, drop2_i, drop2_a, drop2_0, drop2_n, drop2_l, drop2_d, drop2_r, cwd_0, cwd_i, cwd_a, cwd_n, cwd_l, cwd_d, cwd_f, cwd_r, rf_s, rf_n, swi_0, swi_s, zR_b0, zR_b1, zN_b0, zN_b1, entV_i, entV_a, entV_n, entV_r, entV_f, entV_l, entV_d, entV_s, entV_0, List.length_cons, List.length_nil, List.nil_append, List.cons_append, true_and, and_true, Nat.reduceAdd, Nat.reduceLT, Nat.reduceEqDiff, Nat.reduceLeDiff, Nat.reduceSub, Nat.zero_add, Classical.not_not, ex_i, ex_l, ex_d, ex_r, ex_rs, ex_rn, ex_sm, Nat.sub_zero, eq_self, wn_sI, wn_sL, wn_sP, wsh_sI, wsh_sL, wsh_sP, wI_sL, wI_sP, wL_sI, wL_sP, wP_sI, wP_sL, wI_sI, wL_sL, Int32.reduceLT, Int32.reduceLE, true_implies, not_true_eq_false, false_implies, not_false_eq_true, i_10, e0]
            refine X12_load_clr hy6 (hVW.S hn1) n1 0 w2 _ _ _ (by omega) hm2 hS2.v (fun t ht => ⟨fun ⟨j, hj, _⟩ => absurd hj (Nat.not_lt_zero j), fun _ => (hS2 1 t (by decide) (by decide)).1⟩) fun w3 o4 o5 o6 hf3 hC => ?_
            simp (disch := omega) only [vX12_load_129, vX12_load_130, pI_c, pL_c, pF_c, pD_c, pA_n, pA_c, pA_rf, pR_c, pR_rf, pV_i, pV_a, pV_n, pV_rf, ldI_c, ldL_c, ldF_c, ldD_c, ldA_c, ldA_n, ldA_rf, dup2_l, dup2_ia, dup2_ir, popA_0, popA_s, getL_z, getL_s, setL_z, setL_1, setL_s, setL2_z, setL2_1, setL2_s, drop2_i, drop2_a, drop2_0, drop2_n, drop2_l, drop2_d, drop2_r, cwd_0, cwd_i, cwd_a, cwd_n, cwd_l, cwd_d, cwd_f, cwd_r, rf_s, rf_n, swi_0, swi_s, zR_b0, zR_b1, zN_b0, zN_b1, entV_i, entV_a, entV_n, entV_r, entV_f, entV_l, entV_d, entV_s, entV_0, List.length_cons, List.length_nil, List.nil_append, List.cons_append, true_and, and_true, Nat.reduceAdd, Nat.reduceLT, Nat.reduceEqDiff, Nat.reduceLeDiff, Nat.reduceSub, Nat.zero_add, Classical.not_not, ex_i, ex_l, ex_d, ex_r, ex_rs, ex_rn, ex_sm, Nat.sub_zero, eq_self, wn_sI, wn_sL, wn_sP, wsh_sI, wsh_sL, wsh_sP, wI_sL, wI_sP, wL_sI, wL_sP, wP_sI, wP_sL, wI_sI, wL_sL, Int32.reduceLT, Int32.reduceLE, true_implies, not_true_eq_false, false_implies, not_false_eq_true, i_10]
            have hm3 := hm2.fr hf3
            have hS3 : Sv m w3 (mst m w) := hS2.v.fr hf3 (by omega)
            have hf13 : Fr (fun a z => frmS m a z ∨ tkS m a z ∨ ld2S m a z) w w3 := (hf12.mo fun a z y => by rcases y with y | y; exact Or.inl y; exact Or.inr (Or.inl y)).tr (hf3.mo fun a z y => Or.inr (Or.inr (by unfold ld2S; omega)))
            refine X12_load_put (s := mst m w) hy6 (hVW.S hn1) hVW.2.2 hDl n1 0 w3 _ _ _ (by omega) hm3 hS3 (fun j2 x hj2 => (hN j2 x hj2).fr hf3 (by omega) (fun i _ _ => ⟨by omega, by omega⟩)) ⟨fun t ht hall => ⟨(hC t ht).2 hall, fun r hr er => ?_⟩, fun j2 t hj2 ht ej => ⟨fun _ => (hC t ht).1 ⟨j2, hj2, ej⟩, fun z => absurd z (Nat.not_lt_zero j2)⟩⟩ fun w4 p4 p5 p6 hf4 hT => ?_
            · refine ⟨?_, ?_, fun i hi => ⟨?_, ?_⟩⟩
              · exact (hf3.I (m + 2) r (by omega)).trans (hS2 2 r (by decide) (by decide)).1
              · exact (hf3.I (m + 3) r (by omega)).trans (hS2 3 r (by decide) (by decide)).1
              · exact (hf3.I (m + 4) _ (by omega)).trans (hS2 4 _ (by decide) (by decide)).1
              · exact (hf3.L (m + 5) _ (by omega)).trans (hS2 5 _ (by decide) (by decide)).2
            · have hf14 : Fr (fun a z => frmS m a z ∨ tkS m a z ∨ ld2S m a z) w w4 := hf13.tr (hf4.mo fun a z y => Or.inr (Or.inr y))
              have hm4 := hm.fr hf14
              have e55 : wI w4 m 55 = nI (j + 2 + (wI w (m + 13) (j + 1)).toNatClampNeg) := by
                rw [hf4.I _ _ (by unfold ld2S; omega), hf3.I _ _ (by omega), hf2.I _ _ (by unfold tkS; omega)]
                exact r55
              simp (disch := omega) only [vX12_load_285, vX12_load_286, vX12_load_289, vX12_load_290, vX12_load_291, vX12_load_292, vX12_load_293, vX12_load_294, vX12_load_295, vX12_load_296, vX12_load_299, vX12_load_300, vX12_load_301, ms_o hm4, ms_b hm4, ms_0 hm4, mp_counts hm4, ms_counts hm4, pI_c, pL_c, pF_c, pD_c, pA_n, pA_c, pA_rf, pR_c, pR_rf, pV_i, pV_a, pV_n, pV_rf, ldI_c, ldL_c, ldF_c, ldD_c, ldA_c, ldA_n, ldA_rf, dup2_l, dup2_ia, dup2_ir, popA_0, popA_s, getL_z, getL_s, setL_z, setL_1, setL_s, setL2_z, setL2_1, setL2_s, drop2_i, drop2_a, drop2_0, drop2_n, drop2_l, drop2_d, drop2_r, cwd_0, cwd_i, cwd_a, cwd_n, cwd_l, cwd_d, cwd_f, cwd_r, rf_s, rf_n, swi_0, swi_s, zR_b0, zR_b1, zN_b0, zN_b1, entV_i, entV_a, entV_n, entV_r, entV_f, entV_l, entV_d, entV_s, entV_0, List.length_cons, List.length_nil, List.nil_append, List.cons_append, true_and, and_true, Nat.reduceAdd, Nat.reduceLT, Nat.reduceEqDiff, Nat.reduceLeDiff, Nat.reduceSub, Nat.zero_add, Classical.not_not, ex_i, ex_l, ex_d, ex_r, ex_rs, ex_rn, ex_sm, Nat.sub_zero, eq_self, wn_sI, wn_sL, wn_sP, wsh_sI, wsh_sL, wsh_sP, wI_sL, wI_sP, wL_sI, wL_sP, wP_sI, wP_sL, wI_sI, wL_sL, Int32.reduceLT, Int32.reduceLE, true_implies, not_true_eq_false, false_implies, not_false_eq_true, i_10, na_1, nb_1, nm_1, ns_1, nr_1, na_2, nb_2, nm_2, ns_2, nr_2, na_3, nb_3, nm_3, ns_3, nr_3, na_4, nb_4, nm_4, ns_4, nr_4, na_5, nb_5, nm_5, ns_5, nr_5, na_6, nb_6, nm_6, ns_6, nr_6, na_7, nb_7, nm_7, ns_7, nr_7, na_8, nb_8, nm_8, ns_8, nr_8, na_10, nb_10, nm_10, ns_10, nr_10, na_16, nb_16, nm_16, ns_16, nr_16, nl_m1, ni_add, ni_mul, ni_sub, ni_cl, ni_in, vp_0, vp_1, vp_2, vp_3, vp_4, vp_5, Int32.reduceToNatClampNeg, up2_n1, up2_at, if_true, if_false, Nat.reduceEqDiff, eq_self, e55]
              have hfin := h (nI c) (sI w4 (m + 17) 1 (wI w4 (m + 17) 1 + 1)) ((hf14.mo fun a z y => by unfold frmS tkS ld2S at y; unfold mS; omega).i _ ⟨by omega, by omega⟩) ⟨rfl, ?_, ?_, ?_⟩
              · rw [show j + 2 + (wI w (m + 13) (j + 1)).toNatClampNeg + 2 = c by omega]
                exact hfin
              · refine (Bt.of hf14 fun o z hp hn => ?_).tr (bt_i (Or.inr ⟨rfl, rfl⟩))
                unfold pers at hp
                unfold frmS tkS ld2S
                omega
              · show wI (sI w4 (m + 17) 1 (wI w4 (m + 17) 1 + 1)) (m + 17) 1 = wI w (m + 17) 1 + 1
                rw [wI_at, if_pos rfl, hf14.I _ _ (by unfold frmS tkS ld2S; omega)]
              · rw [ni_cl (show n1 < 2147483648 by omega)]
                have hd := hT.done
                have hI : ∀ o, o < 6 → (mst m (sI w4 (m + 17) 1 (wI w4 (m + 17) 1 + 1))).1 o = (mst m w4).1 o := fun o ho => funext fun z => wI_ne (by omega)
                exact hd.cg (hI 1 (by decide)) (hI 2 (by decide)) (hI 3 (by decide)) (hI 4 (by decide)) rfl
    · simp only [b2i_f hv, vX12_load_18, vX12_load_21, vX12_load_22, pI_c, pL_c, pF_c, pD_c, pA_n, pA_c, pA_rf, pR_c, pR_rf, pV_i, pV_a, pV_n, pV_rf, ldI_c, ldL_c, ldF_c, ldD_c, ldA_c, ldA_n, ldA_rf, dup2_l, dup2_ia, dup2_ir, popA_0, popA_s, getL_z, getL_s, setL_z, setL_1, setL_s, setL2_z, setL2_1, setL2_s, drop2_i, drop2_a, drop2_0, drop2_n, drop2_l, drop2_d, drop2_r, cwd_0, cwd_i, cwd_a, cwd_n, cwd_l, cwd_d, cwd_f, cwd_r, rf_s, rf_n, swi_0, swi_s, zR_b0, zR_b1, zN_b0, zN_b1, entV_i, entV_a, entV_n, entV_r, entV_f, entV_l, entV_d, entV_s, entV_0, List.length_cons, List.length_nil, List.nil_append, List.cons_append, true_and, and_true, Nat.reduceAdd, Nat.reduceLT, Nat.reduceEqDiff, Nat.reduceLeDiff, Nat.reduceSub, Nat.zero_add, Classical.not_not, ex_i, ex_l, ex_d, ex_r, ex_rs, ex_rn, ex_sm, Nat.sub_zero, eq_self, wn_sI, wn_sL, wn_sP, wsh_sI, wsh_sL, wsh_sP, wI_sL, wI_sP, wL_sI, wL_sP, wP_sI, wP_sL, wI_sI, wL_sL, Int32.reduceLT, Int32.reduceLE, true_implies, not_true_eq_false, false_implies, not_false_eq_true, i_10]
      refine h _ _ Fr.rf ?_
      rw [if_pos (fun z => hv z.2)]
      exact ⟨rfl, Bt.rf⟩
  · simp only [b2i_f hq, vX12_load_11, vX12_load_14, vX12_load_15, vX12_load_18, vX12_load_21, vX12_load_22, pI_c, pL_c, pF_c, pD_c, pA_n, pA_c, pA_rf, pR_c, pR_rf, pV_i, pV_a, pV_n, pV_rf, ldI_c, ldL_c, ldF_c, ldD_c, ldA_c, ldA_n, ldA_rf, dup2_l, dup2_ia, dup2_ir, popA_0, popA_s, getL_z, getL_s, setL_z, setL_1, setL_s, setL2_z, setL2_1, setL2_s, drop2_i, drop2_a, drop2_0, drop2_n, drop2_l, drop2_d, drop2_r, cwd_0, cwd_i, cwd_a, cwd_n, cwd_l, cwd_d, cwd_f, cwd_r, rf_s, rf_n, swi_0, swi_s, zR_b0, zR_b1, zN_b0, zN_b1, entV_i, entV_a, entV_n, entV_r, entV_f, entV_l, entV_d, entV_s, entV_0, List.length_cons, List.length_nil, List.nil_append, List.cons_append, true_and, and_true, Nat.reduceAdd, Nat.reduceLT, Nat.reduceEqDiff, Nat.reduceLeDiff, Nat.reduceSub, Nat.zero_add, Classical.not_not, ex_i, ex_l, ex_d, ex_r, ex_rs, ex_rn, ex_sm, Nat.sub_zero, eq_self, wn_sI, wn_sL, wn_sP, wsh_sI, wsh_sL, wsh_sP, wI_sL, wI_sP, wL_sI, wL_sP, wP_sI, wP_sL, wI_sI, wL_sL, Int32.reduceLT, Int32.reduceLE, true_implies, not_true_eq_false, false_implies, not_false_eq_true, i_10]
    refine h _ _ Fr.rf ?_
    rw [if_pos (fun z => hq z.1)]
    exact ⟨rfl, Bt.rf⟩
