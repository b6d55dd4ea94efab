/-! packing: a field's cells -/
def vok (rk v : Int32) : Bool := decide (v = 8 ∨ (¬ rk = 8 ∧ wds rk v = true))
theorem barV_in {r n i : Nat} (hr : r < 8) (hn : n ≤ 16) (hi : i < n) (rk v : Int32) : barV (nI r) rk (nI n) (nI i) v = if vok rk v = true then 0 else -12 := by
  have e1 := ni_nem (show r < 2147483648 by omega)
  have e2 := ni_ne9 (show r < 9 by omega)
  have e3 : 0 ≤ nI i ∧ nI i ≤ nI n - 1 := by
    rw [show (1 : Int32) = nI 1 from rfl, ni_sub (by omega), ni_le (by omega) (by omega)]
    exact ⟨nI_pos' (by omega), by omega⟩
  unfold barV vok
  rw [if_neg e1, if_neg (not_not_intro e3)]
  by_cases h8 : v = 8
  · subst h8; simp [e2]
  · by_cases h9 : rk = 8
    · simp [h8, h9]
    · simp [h8, h9, e2]
/-- a cell as a view has it -/
def vwC (kd : Int32) (v : Int64) (view : Int32) : Int64 := if view = 8 then v else wdn kd v view
def rdCode (sl rk rs : Int32) (c view : Int32) : Int32 := if sl = 9 then -12 else if 0 < c ∧ ¬ c = rs then -16 else if 0 < rs ∧ ¬ vok rk view = true then -12 else 0
def rdCell (sl rs : Int32) (c : Int32) : Int32 := if sl = 9 then 0 else if 0 < c ∧ ¬ c = rs then rs else 0
theorem RW.fr {S : Nat → Nat → Prop} {m : Nat} {w w' : Wd} (hf : Fr S w w') (hs : ∀ a j, m + 1 ≤ a → a ≤ m + 5 → ¬ S a j) (h : RW (mst m w)) : RW (mst m w') := by
  have e : ∀ o, 1 ≤ o → o ≤ 5 → (mst m w').1 o = (mst m w).1 o ∧ (mst m w').2 o = (mst m w).2 o := fun o h1 h2 => ⟨funext fun j => hf.I _ _ (hs _ _ (by omega) (by omega)), funext fun j => hf.L _ _ (hs _ _ (by omega) (by omega))⟩
  unfold RW
  rw [(e 1 (by decide) (by decide)).1, (e 2 (by decide) (by decide)).1, (e 3 (by decide) (by decide)).1, (e 4 (by decide) (by decide)).1, (e 5 (by decide) (by decide)).2]
  exact h
def rdS (m : Nat) (a j : Nat) : Prop := (a = m ∧ j = 43) ∨ a = m + 33
set_option maxRecDepth 100000 in
set_option maxHeartbeats 4000000 in
theorem X12_reads_loop {g : Ge} {m k n f s r x z : Nat} {K : Option Value → Wd → Prop} {vw : Int32} (hf : f < 48) (hs : s < 8) (hr : r < 8) (hz : z ≤ 16) : ∀ (d i : Nat) (w : Wd) (o5 o6 : Option Value), i + d = z → MS g m w → RW (mst m w) → wI w (m + 8) f = vw → wI w (m + 1) s = nI r → wI w (m + 2) r = nI x → wI w (m + 3) r = nI z → (vok (nI x) vw = true ∨ i = 0) → (∀ j, j < i → wL w (m + 33) j = vwC (wI w (m + 4) (16 * r + j)) (wL w (m + 5) (16 * r + j)) vw) →
    (∀ w', Fr (rdS m) w w' → (vok (nI x) vw = true ∨ z = 0) → (∀ j, j < z → wL w' (m + 33) j = vwC (wI w (m + 4) (16 * r + j)) (wL w (m + 5) (16 * r + j)) vw) → K (some (.int 0)) w') → (∀ w', Fr (rdS m) w w' → ¬ vok (nI x) vw = true → 0 < z → wI w' m 43 = 0 → K (some (.int (-12))) w') →
    R g mX12_reads K 73 [some (.ref m), some (.int (nI f)), some (.int (nI s)), some (.int (nI r)), some (.int (nI i)), o5, o6] [] w k n := by
  intro d
  induction d with
  | zero =>
    intro i w o5 o6 hi hm hR e1 e2 e3 e4 hv hrow hK hB
    obtain rfl : i = z := by omega
    rw [vX12_reads_73]
    simp (disch := omega) only [vX12_reads_0, vX12_reads_1, vX12_reads_4, vX12_reads_5, vX12_reads_6, vX12_reads_7, vX12_reads_8, vX12_reads_9, vX12_reads_12, vX12_reads_13, vX12_reads_16, vX12_reads_17, vX12_reads_18, vX12_reads_20, vX12_reads_23, vX12_reads_25, vX12_reads_26, vX12_reads_27, vX12_reads_30, vX12_reads_31, vX12_reads_32, vX12_reads_33, vX12_reads_34, vX12_reads_35, vX12_reads_38, vX12_reads_39, vX12_reads_40, vX12_reads_43, vX12_reads_44, vX12_reads_47, vX12_reads_48, vX12_reads_49, vX12_reads_52, vX12_reads_53, vX12_reads_56, vX12_reads_57, vX12_reads_58, vX12_reads_59, vX12_reads_62, vX12_reads_63, vX12_reads_64, vX12_reads_67, vX12_reads_69, vX12_reads_70, vX12_reads_71, vX12_reads_75, vX12_reads_76, vX12_reads_79, vX12_reads_80, vX12_reads_81, vX12_reads_84, vX12_reads_85, vX12_reads_86, vX12_reads_88, vX12_reads_89, vX12_reads_92, vX12_reads_93, vX12_reads_94, vX12_reads_97, vX12_reads_99, vX12_reads_100, vX12_reads_102, vX12_reads_105, vX12_reads_107, vX12_reads_110, vX12_reads_112, vX12_reads_113, vX12_reads_115, vX12_reads_116, vX12_reads_117, vX12_reads_119, vX12_reads_120, vX12_reads_122, vX12_reads_123, vX12_reads_126, vX12_reads_128, vX12_reads_129, vX12_reads_132, vX12_reads_133, vX12_reads_134, vX12_reads_136, vX12_reads_139, vX12_reads_140, vX12_reads_143, vX12_reads_145, vX12_reads_146, vX12_reads_149, vX12_reads_150, vX12_reads_153, vX12_reads_155, vX12_reads_156, vX12_reads_157, vX12_reads_160, vX12_reads_162, vX12_reads_163, vX12_reads_164, vX12_reads_167, vX12_reads_168, vX12_reads_169, vX12_reads_172, vX12_reads_173, vX12_reads_176, vX12_reads_179, vX12_reads_180, ms_o hm, ms_b hm, ms_0 hm, mp_rowSize hm, ms_rowSize hm, pI_c, pL_c, pF_c, pD_c, pA_n, pA_c, pA_rf, pR_c, pR_rf, pV_i, pV_a, pV_n, pV_rf, ldI_c, ldL_c, ldF_c, ldD_c, ldA_c, ldA_n, ldA_rf, dup2_l, dup2_ia, dup2_ir, popA_0, popA_s, getL_z, getL_s, setL_z, setL_1, setL_s, setL2_z, setL2_1, setL2_s, drop2_i, drop2_a, drop2_0, drop2_n, drop2_l, drop2_d, drop2_r, cwd_0, cwd_i, cwd_a, cwd_n, cwd_l, cwd_d, cwd_f, cwd_r, rf_s, rf_n, swi_0, swi_s, zR_b0, zR_b1, zN_b0, zN_b1, entV_i, entV_a, entV_n, entV_r, entV_f, entV_l, entV_d, entV_s, entV_0, List.length_cons, List.length_nil, List.nil_append, List.cons_append, true_and, and_true, Nat.reduceAdd, Nat.reduceLT, Nat.reduceEqDiff, Nat.reduceLeDiff, Nat.reduceSub, Nat.zero_add, Classical.not_not, ex_i, ex_l, ex_d, ex_r, ex_rs, ex_rn, ex_sm, Nat.sub_zero, eq_self, wn_sI, wn_sL, wn_sP, wsh_sI, wsh_sL, wsh_sP, wI_sL, wI_sP, wL_sI, wL_sP, wP_sI, wP_sL, wI_sI, wL_sL, Int32.reduceLT, Int32.reduceLE, true_implies, not_true_eq_false, false_implies, not_false_eq_true, i_10, na_1, nb_1, nm_1, ns_1, nr_1, na_2, nb_2, nm_2, ns_2, nr_2, na_3, nb_3, nm_3, ns_3, nr_3, na_4, nb_4, nm_4, ns_4, nr_4, na_5, nb_5, nm_5, ns_5, nr_5, na_6, nb_6, nm_6, ns_6, nr_6, na_7, nb_7, nm_7, ns_7, nr_7, na_8, nb_8, nm_8, ns_8, nr_8, na_10, nb_10, nm_10, ns_10, nr_10, na_16, nb_16, nm_16, ns_16, nr_16, nl_m1, ni_add, ni_mul, ni_sub, ni_cl, ni_in, vp_0, vp_1, vp_2, vp_3, vp_4, vp_5, Int32.reduceToNatClampNeg, e4, ni_le, ni_lt, ni_eq, ni_le1, ni_le0, ni_eq0, ni_eq1, ni_eq2, ni_eq8, ni_eq9, Nat.le_refl]
    exact hK w Fr.rf (hv.imp id id) hrow
  | succ d ih =>
    intro i w o5 o6 hi hm hR e1 e2 e3 e4 hv hrow hK hB
    have hlt : ¬ z ≤ i := by omega
    rw [vX12_reads_73]
    simp (disch := omega) only [vX12_reads_0, vX12_reads_1, vX12_reads_4, vX12_reads_5, vX12_reads_6, vX12_reads_7, vX12_reads_8, vX12_reads_9, vX12_reads_12, vX12_reads_13, vX12_reads_16, vX12_reads_17, vX12_reads_18, vX12_reads_20, vX12_reads_23, vX12_reads_25, vX12_reads_26, vX12_reads_27, vX12_reads_30, vX12_reads_31, vX12_reads_32, vX12_reads_33, vX12_reads_34, vX12_reads_35, vX12_reads_38, vX12_reads_39, vX12_reads_40, vX12_reads_43, vX12_reads_44, vX12_reads_47, vX12_reads_48, vX12_reads_49, vX12_reads_52, vX12_reads_53, vX12_reads_56, vX12_reads_57, vX12_reads_58, vX12_reads_59, vX12_reads_62, vX12_reads_63, vX12_reads_64, vX12_reads_67, vX12_reads_69, vX12_reads_70, vX12_reads_71, vX12_reads_75, vX12_reads_76, vX12_reads_79, vX12_reads_80, vX12_reads_81, vX12_reads_84, vX12_reads_85, vX12_reads_86, vX12_reads_88, vX12_reads_89, vX12_reads_92, vX12_reads_93, vX12_reads_94, vX12_reads_97, vX12_reads_99, vX12_reads_100, vX12_reads_102, vX12_reads_105, vX12_reads_107, vX12_reads_110, vX12_reads_112, vX12_reads_113, vX12_reads_115, vX12_reads_116, vX12_reads_117, vX12_reads_119, vX12_reads_120, vX12_reads_122, vX12_reads_123, vX12_reads_126, vX12_reads_128, vX12_reads_129, vX12_reads_132, vX12_reads_133, vX12_reads_134, vX12_reads_136, vX12_reads_139, vX12_reads_140, vX12_reads_143, vX12_reads_145, vX12_reads_146, vX12_reads_149, vX12_reads_150, vX12_reads_153, vX12_reads_155, vX12_reads_156, vX12_reads_157, vX12_reads_160, vX12_reads_162, vX12_reads_163, vX12_reads_164, vX12_reads_167, vX12_reads_168, vX12_reads_169, vX12_reads_172, vX12_reads_173, vX12_reads_176, vX12_reads_179, vX12_reads_180, ms_o hm, ms_b hm, ms_0 hm, mp_rowSize hm, ms_rowSize hm, mp_kindOf hm, ms_kindOf hm, mp_kinds hm, ms_kinds hm, mp_values hm, ms_values hm, mp_row hm, ms_row hm, pI_c, pL_c, pF_c, pD_c, pA_n, pA_c, pA_rf, pR_c, pR_rf, pV_i, pV_a, pV_n, pV_rf, ldI_c, ldL_c, ldF_c, ldD_c, ldA_c, ldA_n, ldA_rf, dup2_l, dup2_ia, dup2_ir, popA_0, popA_s, getL_z, getL_s, setL_z, setL_1, setL_s, setL2_z, setL2_1, setL2_s, drop2_i, drop2_a, drop2_0, drop2_n, drop2_l, drop2_d, drop2_r, cwd_0, cwd_i, cwd_a, cwd_n, cwd_l, cwd_d, cwd_f, cwd_r, rf_s, rf_n, swi_0, swi_s, zR_b0, zR_b1, zN_b0, zN_b1, entV_i, entV_a, entV_n, entV_r, entV_f, entV_l, entV_d, entV_s, entV_0, List.length_cons, List.length_nil, List.nil_append, List.cons_append, true_and, and_true, Nat.reduceAdd, Nat.reduceLT, Nat.reduceEqDiff, Nat.reduceLeDiff, Nat.reduceSub, Nat.zero_add, Classical.not_not, ex_i, ex_l, ex_d, ex_r, ex_rs, ex_rn, ex_sm, Nat.sub_zero, eq_self, wn_sI, wn_sL, wn_sP, wsh_sI, wsh_sL, wsh_sP, wI_sL, wI_sP, wL_sI, wL_sP, wP_sI, wP_sL, wI_sI, wL_sL, Int32.reduceLT, Int32.reduceLE, true_implies, not_true_eq_false, false_implies, not_false_eq_true, i_10, na_1, nb_1, nm_1, ns_1, nr_1, na_2, nb_2, nm_2, ns_2, nr_2, na_3, nb_3, nm_3, ns_3, nr_3, na_4, nb_4, nm_4, ns_4, nr_4, na_5, nb_5, nm_5, ns_5, nr_5, na_6, nb_6, nm_6, ns_6, nr_6, na_7, nb_7, nm_7, ns_7, nr_7, na_8, nb_8, nm_8, ns_8, nr_8, na_10, nb_10, nm_10, ns_10, nr_10, na_16, nb_16, nm_16, ns_16, nr_16, nl_m1, ni_add, ni_mul, ni_sub, ni_cl, ni_in, vp_0, vp_1, vp_2, vp_3, vp_4, vp_5, Int32.reduceToNatClampNeg, e4, ni_le, ni_lt, ni_eq, ni_le1, ni_le0, ni_eq0, ni_eq1, ni_eq2, ni_eq8, ni_eq9, hlt, e1]
    refine X12_bars_ok hm s hs (nI i) vw (hR.ok hs) ?_
    rw [e2, ni_cl (show r < 2147483648 by omega), e3, e4, barV_in hr hz (by omega)]
    simp (disch := omega) only [ms_o hm, ms_b hm, ms_0 hm, mp_rowSize hm, ms_rowSize hm, mp_kindOf hm, ms_kindOf hm, mp_kinds hm, ms_kinds hm, mp_values hm, ms_values hm, mp_row hm, ms_row hm, pI_c, pL_c, pF_c, pD_c, pA_n, pA_c, pA_rf, pR_c, pR_rf, pV_i, pV_a, pV_n, pV_rf, ldI_c, ldL_c, ldF_c, ldD_c, ldA_c, ldA_n, ldA_rf, dup2_l, dup2_ia, dup2_ir, popA_0, popA_s, getL_z, getL_s, setL_z, setL_1, setL_s, setL2_z, setL2_1, setL2_s, drop2_i, drop2_a, drop2_0, drop2_n, drop2_l, drop2_d, drop2_r, cwd_0, cwd_i, cwd_a, cwd_n, cwd_l, cwd_d, cwd_f, cwd_r, rf_s, rf_n, swi_0, swi_s, zR_b0, zR_b1, zN_b0, zN_b1, entV_i, entV_a, entV_n, entV_r, entV_f, entV_l, entV_d, entV_s, entV_0, List.length_cons, List.length_nil, List.nil_append, List.cons_append, true_and, and_true, Nat.reduceAdd, Nat.reduceLT, Nat.reduceEqDiff, Nat.reduceLeDiff, Nat.reduceSub, Nat.zero_add, Classical.not_not, ex_i, ex_l, ex_d, ex_r, ex_rs, ex_rn, ex_sm, Nat.sub_zero, eq_self, wn_sI, wn_sL, wn_sP, wsh_sI, wsh_sL, wsh_sP, wI_sL, wI_sP, wL_sI, wL_sP, wP_sI, wP_sL, wI_sI, wL_sL, Int32.reduceLT, Int32.reduceLE, true_implies, not_true_eq_false, false_implies, not_false_eq_true, i_10, na_1, nb_1, nm_1, ns_1, nr_1, na_2, nb_2, nm_2, ns_2, nr_2, na_3, nb_3, nm_3, ns_3, nr_3, na_4, nb_4, nm_4, ns_4, nr_4, na_5, nb_5, nm_5, ns_5, nr_5, na_6, nb_6, nm_6, ns_6, nr_6, na_7, nb_7, nm_7, ns_7, nr_7, na_8, nb_8, nm_8, ns_8, nr_8, na_10, nb_10, nm_10, ns_10, nr_10, na_16, nb_16, nm_16, ns_16, nr_16, nl_m1, ni_add, ni_mul, ni_sub, ni_cl, ni_in, vp_0, vp_1, vp_2, vp_3, vp_4, vp_5, Int32.reduceToNatClampNeg, up2_n1, up2_at, if_true, if_false, Nat.reduceEqDiff, eq_self, e1, e2, e3, e4]
    by_cases hvk : vok (nI x) vw = true
    · rw [if_pos hvk]
      have e0 : (0 : Int32) ≤ 0 := by decide
      simp only [e0, pI_c, pL_c, pF_c, pD_c, pA_n, pA_c, pA_rf, pR_c, pR_rf, pV_i, pV_a, pV_n, pV_rf, ldI_c, ldL_c, ldF_c, ldD_c, ldA_c, ldA_n, ldA_rf, dup2_l, dup2_ia, dup2_ir, popA_0, popA_s, getL_z, getL_s, setL_z, setL_1, setL_s, setL2_z, setL2_1, setL2_s, drop2_i, drop2_a, drop2_0, drop2_n, drop2_l, drop2_d, drop2_r, cwd_0, cwd_i, cwd_a, cwd_n, cwd_l, cwd_d, cwd_f, cwd_r, rf_s, rf_n, swi_0, swi_s, zR_b0, zR_b1, zN_b0, zN_b1, entV_i, entV_a, entV_n, entV_r, entV_f, entV_l, entV_d, entV_s, entV_0, List.length_cons, List.length_nil, List.nil_append, List.cons_append, true_and, and_true, Nat.reduceAdd, Nat.reduceLT, Nat.reduceEqDiff, Nat.reduceLeDiff, Nat.reduceSub, Nat.zero_add, Classical.not_not, ex_i, ex_l, ex_d, ex_r, ex_rs, ex_rn, ex_sm, Nat.sub_zero, eq_self, wn_sI, wn_sL, wn_sP, wsh_sI, wsh_sL, wsh_sP, wI_sL, wI_sP, wL_sI, wL_sP, wP_sI, wP_sL, wI_sI, wL_sL, Int32.reduceLT, Int32.reduceLE, true_implies, not_true_eq_false, false_implies, not_false_eq_true, i_10]
      obtain ⟨a1, n1, hx1, hz1, hV⟩ : ∃ a n, wI w (m + 2) r = nI a ∧ wI w (m + 3) r = nI n ∧ RowV a n (fun i => wI w (m + 4) (16 * r + i)) (fun i => wL w (m + 5) (16 * r + i)) := by
        rcases hR s hs with e | e | ⟨r', hr', e, a1, n1, h1, h2, h3⟩
        · exact absurd (e.symm.trans e2) (fun q => ni_nem (show r < 2147483648 by omega) q.symm)
        · exact absurd (e.symm.trans e2) (fun q => ni_ne9 (show r < 9 by omega) q.symm)
        · have : r' = r := by
            have := e.symm.trans e2
            rwa [ni_eq (by omega) (by omega)] at this
          subst this
          exact ⟨a1, n1, h1, h2, h3⟩
      have hn1 : n1 = z := by
        have := hz1.symm.trans e4
        have h16 := hV.2.1
        rwa [ni_eq (by omega) (by omega)] at this
      have hcell := hV.2.2 i (by omega)
      have nxt : ∀ v, v = vwC (wI w (m + 4) (16 * r + i)) (wL w (m + 5) (16 * r + i)) vw → R g mX12_reads K 73 [some (.ref m), some (.int (nI f)), some (.int (nI s)), some (.int (nI r)), some (.int (nI (i + 1))), some (.int 0), some (.int (nI (16 * r + i)))] [] (sL (sI w m 43 (nI i)) (m + 33) i v) k n := by
        intro v hv1
        have hfr : Fr (rdS m) w (sL (sI w m 43 (nI i)) (m + 33) i v) := (Fr.rf.i _ (Or.inl ⟨rfl, rfl⟩)).l _ (Or.inr rfl)
        have hI : ∀ o j, 1 ≤ o → o < 33 → wI (sL (sI w m 43 (nI i)) (m + 33) i v) (m + o) j = wI w (m + o) j := fun o j h1 h2 => hfr.I _ _ (by unfold rdS; omega)
        have hL : ∀ o j, 1 ≤ o → o < 33 → wL (sL (sI w m 43 (nI i)) (m + 33) i v) (m + o) j = wL w (m + o) j := fun o j h1 h2 => hfr.L _ _ (by unfold rdS; omega)
        refine ih (i + 1) _ _ _ (by omega) (hm.fr hfr) (hR.fr hfr (by unfold rdS; omega)) ?_ ?_ ?_ ?_ (Or.inl hvk) ?_ ?_ ?_
        · rw [hI 8 _ (by decide) (by decide)]; exact e1
        · rw [hI 1 _ (by decide) (by decide)]; exact e2
        · rw [hI 2 _ (by decide) (by decide)]; exact e3
        · rw [hI 3 _ (by decide) (by decide)]; exact e4
        · intro j hj
          rw [hI 4 _ (by decide) (by decide), hL 5 _ (by decide) (by decide), wL_at]
          by_cases ej : j = i
          · subst ej
            rw [if_pos rfl]
            exact hv1
          · rw [if_neg ej]
            exact hrow j (by omega)
        · intro w' h1 h2 h3
          refine hK w' (hfr.tr h1) h2 fun j hj => ?_
          rw [h3 j hj, hI 4 _ (by decide) (by decide), hL 5 _ (by decide) (by decide)]
        · intro w' h1 h2 h3 h4
          exact hB w' (hfr.tr h1) h2 h3 h4
      refine ⟨fun q8 => ?_, fun q8 => ?_⟩
      · refine X12_widened_ok _ _ _ (fun z => cvl_f hcell.2 z) ?_
        simp (disch := omega) only [ms_o hm, ms_b hm, ms_0 hm, mp_row hm, ms_row hm, pI_c, pL_c, pF_c, pD_c, pA_n, pA_c, pA_rf, pR_c, pR_rf, pV_i, pV_a, pV_n, pV_rf, ldI_c, ldL_c, ldF_c, ldD_c, ldA_c, ldA_n, ldA_rf, dup2_l, dup2_ia, dup2_ir, popA_0, popA_s, getL_z, getL_s, setL_z, setL_1, setL_s, setL2_z, setL2_1, setL2_s, drop2_i, drop2_a, drop2_0, drop2_n, drop2_l, drop2_d, drop2_r, cwd_0, cwd_i, cwd_a, cwd_n, cwd_l, cwd_d, cwd_f, cwd_r, rf_s, rf_n, swi_0, swi_s, zR_b0, zR_b1, zN_b0, zN_b1, entV_i, entV_a, entV_n, entV_r, entV_f, entV_l, entV_d, entV_s, entV_0, List.length_cons, List.length_nil, List.nil_append, List.cons_append, true_and, and_true, Nat.reduceAdd, Nat.reduceLT, Nat.reduceEqDiff, Nat.reduceLeDiff, Nat.reduceSub, Nat.zero_add, Classical.not_not, ex_i, ex_l, ex_d, ex_r, ex_rs, ex_rn, ex_sm, Nat.sub_zero, eq_self, wn_sI, wn_sL, wn_sP, wsh_sI, wsh_sL, wsh_sP, wI_sL, wI_sP, wL_sI, wL_sP, wP_sI, wP_sL, wI_sI, wL_sL, Int32.reduceLT, Int32.reduceLE, true_implies, not_true_eq_false, false_implies, not_false_eq_true, i_10, na_1, nb_1, nm_1, ns_1, nr_1, na_2, nb_2, nm_2, ns_2, nr_2, na_3, nb_3, nm_3, ns_3, nr_3, na_4, nb_4, nm_4, ns_4, nr_4, na_5, nb_5, nm_5, ns_5, nr_5, na_6, nb_6, nm_6, ns_6, nr_6, na_7, nb_7, nm_7, ns_7, nr_7, na_8, nb_8, nm_8, ns_8, nr_8, na_10, nb_10, nm_10, ns_10, nr_10, na_16, nb_16, nm_16, ns_16, nr_16, nl_m1, ni_add, ni_mul, ni_sub, ni_cl, ni_in, vp_0, vp_1, vp_2, vp_3, vp_4, vp_5, Int32.reduceToNatClampNeg, up2_n1, up2_at, if_true, if_false, Nat.reduceEqDiff, eq_self]
        exact nxt _ (by unfold vwC; rw [if_neg q8])
      · exact nxt _ (by unfold vwC; rw [if_pos q8])
    · rw [if_neg hvk]
      have e0 : ¬ (0 : Int32) ≤ -12 := by decide
      simp only [e0, pI_c, pL_c, pF_c, pD_c, pA_n, pA_c, pA_rf, pR_c, pR_rf, pV_i, pV_a, pV_n, pV_rf, ldI_c, ldL_c, ldF_c, ldD_c, ldA_c, ldA_n, ldA_rf, dup2_l, dup2_ia, dup2_ir, popA_0, popA_s, getL_z, getL_s, setL_z, setL_1, setL_s, setL2_z, setL2_1, setL2_s, drop2_i, drop2_a, drop2_0, drop2_n, drop2_l, drop2_d, drop2_r, cwd_0, cwd_i, cwd_a, cwd_n, cwd_l, cwd_d, cwd_f, cwd_r, rf_s, rf_n, swi_0, swi_s, zR_b0, zR_b1, zN_b0, zN_b1, entV_i, entV_a, entV_n, entV_r, entV_f, entV_l, entV_d, entV_s, entV_0, List.length_cons, List.length_nil, List.nil_append, List.cons_append, true_and, and_true, Nat.reduceAdd, Nat.reduceLT, Nat.reduceEqDiff, Nat.reduceLeDiff, Nat.reduceSub, Nat.zero_add, Classical.not_not, ex_i, ex_l, ex_d, ex_r, ex_rs, ex_rn, ex_sm, Nat.sub_zero, eq_self, wn_sI, wn_sL, wn_sP, wsh_sI, wsh_sL, wsh_sP, wI_sL, wI_sP, wL_sI, wL_sP, wP_sI, wP_sL, wI_sI, wL_sL, Int32.reduceLT, Int32.reduceLE, true_implies, not_true_eq_false, false_implies, not_false_eq_true, i_10]
      have hi0 : i = 0 := hv.resolve_left hvk
      subst hi0
      exact hB _ (Fr.rf.i _ (Or.inl ⟨rfl, rfl⟩)) hvk (by omega) (wI_at.trans (if_pos rfl))
set_option maxRecDepth 100000 in
set_option maxHeartbeats 4000000 in
theorem X12_reads_ok {g : Ge} {w : Wd} {k n : Nat} {K : Int32 → Wd → Nat → Nat → Prop} {m : Nat} (hm : MS g m w) (hR : RW (mst m w)) {f s : Nat} (hf : f < 48) (hs : s < 8) (e0 : wI w (m + 7) f = nI s) (hne : ¬ wI w (m + 1) s = -1)
    (h : ∀ w', Fr (rdS m) w w' → (rdCode (wI w (m + 1) s) (wI w (m + 2) (wI w (m + 1) s).toNatClampNeg) (wI w (m + 3) (wI w (m + 1) s).toNatClampNeg) (wI w (m + 9) f) (wI w (m + 8) f) = 0 → ∀ r z, wI w (m + 1) s = nI r → r < 8 → wI w (m + 3) r = nI z → z ≤ 16 → ∀ j, j < z → wL w' (m + 33) j = vwC (wI w (m + 4) (16 * r + j)) (wL w (m + 5) (16 * r + j)) (wI w (m + 8) f)) →
      (¬ rdCode (wI w (m + 1) s) (wI w (m + 2) (wI w (m + 1) s).toNatClampNeg) (wI w (m + 3) (wI w (m + 1) s).toNatClampNeg) (wI w (m + 9) f) (wI w (m + 8) f) = 0 → wI w' m 43 = rdCell (wI w (m + 1) s) (wI w (m + 3) (wI w (m + 1) s).toNatClampNeg) (wI w (m + 9) f)) →
      K (rdCode (wI w (m + 1) s) (wI w (m + 2) (wI w (m + 1) s).toNatClampNeg) (wI w (m + 3) (wI w (m + 1) s).toNatClampNeg) (wI w (m + 9) f) (wI w (m + 8) f)) w' k n) : cI g mX12_reads [.ref m, .int (nI f)] w k n K := by
  refine cI_of 7 0 0 rfl (by decide +kernel) rfl (Nat.le_of_ble_eq_true rfl) (Nat.zero_le _) (Nat.zero_le _) ?_
  simp (disch := omega) only [vX12_reads_0, vX12_reads_1, vX12_reads_4, vX12_reads_5, vX12_reads_6, vX12_reads_7, vX12_reads_8, vX12_reads_9, vX12_reads_12, vX12_reads_13, vX12_reads_16, vX12_reads_17, vX12_reads_18, vX12_reads_20, vX12_reads_23, vX12_reads_25, vX12_reads_26, vX12_reads_27, vX12_reads_30, vX12_reads_31, vX12_reads_32, vX12_reads_33, vX12_reads_34, vX12_reads_35, vX12_reads_38, vX12_reads_39, vX12_reads_40, vX12_reads_43, vX12_reads_44, vX12_reads_47, vX12_reads_48, vX12_reads_49, vX12_reads_52, vX12_reads_53, vX12_reads_56, vX12_reads_57, vX12_reads_58, vX12_reads_59, vX12_reads_62, vX12_reads_63, vX12_reads_64, vX12_reads_67, vX12_reads_69, vX12_reads_70, vX12_reads_71, vX12_reads_75, vX12_reads_76, vX12_reads_79, vX12_reads_80, vX12_reads_81, vX12_reads_84, vX12_reads_85, vX12_reads_86, vX12_reads_88, vX12_reads_89, vX12_reads_92, vX12_reads_93, vX12_reads_94, vX12_reads_97, vX12_reads_99, vX12_reads_100, vX12_reads_102, vX12_reads_105, vX12_reads_107, vX12_reads_110, vX12_reads_112, vX12_reads_113, vX12_reads_115, vX12_reads_116, vX12_reads_117, vX12_reads_119, vX12_reads_120, vX12_reads_122, vX12_reads_123, vX12_reads_126, vX12_reads_128, vX12_reads_129, vX12_reads_132, vX12_reads_133, vX12_reads_134, vX12_reads_136, vX12_reads_139, vX12_reads_140, vX12_reads_143, vX12_reads_145, vX12_reads_146, vX12_reads_149, vX12_reads_150, vX12_reads_153, vX12_reads_155, vX12_reads_156, vX12_reads_157, vX12_reads_160, vX12_reads_162, vX12_reads_163, vX12_reads_164, vX12_reads_167, vX12_reads_168, vX12_reads_169, vX12_reads_172, vX12_reads_173, vX12_reads_176, vX12_reads_179, vX12_reads_180, ms_o hm, ms_b hm, ms_0 hm, mp_slot hm, ms_slot hm, mp_slotOf hm, ms_slotOf hm, mp_cellsOf hm, ms_cellsOf hm, mp_rowSize hm, ms_rowSize hm, pI_c, pL_c, pF_c, pD_c, pA_n, pA_c, pA_rf, pR_c, pR_rf, pV_i, pV_a, pV_n, pV_rf, ldI_c, ldL_c, ldF_c, ldD_c, ldA_c, ldA_n, ldA_rf, dup2_l, dup2_ia, dup2_ir, popA_0, popA_s, getL_z, getL_s, setL_z, setL_1, setL_s, setL2_z, setL2_1, setL2_s, drop2_i, drop2_a, drop2_0, drop2_n, drop2_l, drop2_d, drop2_r, cwd_0, cwd_i, cwd_a, cwd_n, cwd_l, cwd_d, cwd_f, cwd_r, rf_s, rf_n, swi_0, swi_s, zR_b0, zR_b1, zN_b0, zN_b1, entV_i, entV_a, entV_n, entV_r, entV_f, entV_l, entV_d, entV_s, entV_0, List.length_cons, List.length_nil, List.nil_append, List.cons_append, true_and, and_true, Nat.reduceAdd, Nat.reduceLT, Nat.reduceEqDiff, Nat.reduceLeDiff, Nat.reduceSub, Nat.zero_add, Classical.not_not, ex_i, ex_l, ex_d, ex_r, ex_rs, ex_rn, ex_sm, Nat.sub_zero, eq_self, wn_sI, wn_sL, wn_sP, wsh_sI, wsh_sL, wsh_sP, wI_sL, wI_sP, wL_sI, wL_sP, wP_sI, wP_sL, wI_sI, wL_sL, Int32.reduceLT, Int32.reduceLE, true_implies, not_true_eq_false, false_implies, not_false_eq_true, i_10, na_1, nb_1, nm_1, ns_1, nr_1, na_2, nb_2, nm_2, ns_2, nr_2, na_3, nb_3, nm_3, ns_3, nr_3, na_4, nb_4, nm_4, ns_4, nr_4, na_5, nb_5, nm_5, ns_5, nr_5, na_6, nb_6, nm_6, ns_6, nr_6, na_7, nb_7, nm_7, ns_7, nr_7, na_8, nb_8, nm_8, ns_8, nr_8, na_10, nb_10, nm_10, ns_10, nr_10, na_16, nb_16, nm_16, ns_16, nr_16, nl_m1, ni_add, ni_mul, ni_sub, ni_cl, ni_in, vp_0, vp_1, vp_2, vp_3, vp_4, vp_5, Int32.reduceToNatClampNeg, e0, up2_n1, up2_at, if_true, if_false, Nat.reduceEqDiff, eq_self]
  rcases hR s hs with e | e | ⟨r, hr, e, x, z, hx, hz, hV⟩
  · exact absurd e hne
  · change wI w (m + 1) s = 9 at e
    rw [e] at h ⊢
    refine ⟨fun q => absurd rfl q, fun _ => ?_⟩
    have hc : ∀ a b c d : Int32, rdCode 9 a b c d = -12 := fun a b c d => by unfold rdCode; rw [if_pos rfl]
    simp only [hc] at h
    refine h _ (Fr.rf.i _ (Or.inl ⟨rfl, rfl⟩)) (fun q => absurd q (by decide)) fun _ => ?_
    rw [wI_at, if_pos rfl]
    unfold rdCell
    rw [if_pos rfl]
  · change wI w (m + 1) s = nI r at e
    change wI w (m + 2) r = nI x at hx
    change wI w (m + 3) r = nI z at hz
    obtain ⟨v1, v2, v3⟩ := hV
    have e1 := ni_nem (show r < 2147483648 by omega)
    have e2 := ni_ne9 (show r < 9 by omega)
    simp only [e, ni_cl (show r < 2147483648 by omega), hx, hz] at h
    simp (disch := omega) only [e, e1, e2, hz, pI_c, pL_c, pF_c, pD_c, pA_n, pA_c, pA_rf, pR_c, pR_rf, pV_i, pV_a, pV_n, pV_rf, ldI_c, ldL_c, ldF_c, ldD_c, ldA_c, ldA_n, ldA_rf, dup2_l, dup2_ia, dup2_ir, popA_0, popA_s, getL_z, getL_s, setL_z, setL_1, setL_s, setL2_z, setL2_1, setL2_s, drop2_i, drop2_a, drop2_0, drop2_n, drop2_l, drop2_d, drop2_r, cwd_0, cwd_i, cwd_a, cwd_n, cwd_l, cwd_d, cwd_f, cwd_r, rf_s, rf_n, swi_0, swi_s, zR_b0, zR_b1, zN_b0, zN_b1, entV_i, entV_a, entV_n, entV_r, entV_f, entV_l, entV_d, entV_s, entV_0, List.length_cons, List.length_nil, List.nil_append, List.cons_append, true_and, and_true, Nat.reduceAdd, Nat.reduceLT, Nat.reduceEqDiff, Nat.reduceLeDiff, Nat.reduceSub, Nat.zero_add, Classical.not_not, ex_i, ex_l, ex_d, ex_r, ex_rs, ex_rn, ex_sm, Nat.sub_zero, eq_self, wn_sI, wn_sL, wn_sP, wsh_sI, wsh_sL, wsh_sP, wI_sL, wI_sP, wL_sI, wL_sP, wP_sI, wP_sL, wI_sI, wL_sL, Int32.reduceLT, Int32.reduceLE, true_implies, not_true_eq_false, false_implies, not_false_eq_true, i_10, na_1, nb_1, nm_1, ns_1, nr_1, na_2, nb_2, nm_2, ns_2, nr_2, na_3, nb_3, nm_3, ns_3, nr_3, na_4, nb_4, nm_4, ns_4, nr_4, na_5, nb_5, nm_5, ns_5, nr_5, na_6, nb_6, nm_6, ns_6, nr_6, na_7, nb_7, nm_7, ns_7, nr_7, na_8, nb_8, nm_8, ns_8, nr_8, na_10, nb_10, nm_10, ns_10, nr_10, na_16, nb_16, nm_16, ns_16, nr_16, nl_m1, ni_add, ni_mul, ni_sub, ni_cl, ni_in, vp_0, vp_1, vp_2, vp_3, vp_4, vp_5, Int32.reduceToNatClampNeg, up2_n1, up2_at, if_true, if_false, Nat.reduceEqDiff, eq_self]
    have hb : Fr (rdS m) w (sI (sI w m 43 0) m 43 (nI z)) := (Fr.rf.i _ (Or.inl ⟨rfl, rfl⟩)).i _ (Or.inl ⟨rfl, rfl⟩)
    have hI : ∀ o j, 1 ≤ o → o < 33 → wI (sI (sI w m 43 0) m 43 (nI z)) (m + o) j = wI w (m + o) j := fun o j h1 h2 => hb.I _ _ (by unfold rdS; omega)
    have hloop : (¬ (0 < wI w (m + 9) f ∧ ¬ wI w (m + 9) f = nI z)) → R g mX12_reads (fun r w' => ∃ x, r = some (.int x) ∧ K x w' k n) 73 [some (.ref m), some (.int (nI f)), some (.int (nI s)), some (.int (nI r)), some (.int 0), none, none] [] (sI (sI w m 43 0) m 43 (nI z)) 0 0 := by
      intro hcnt
      refine X12_reads_loop (vw := wI w (m + 8) f) hf hs hr v2 z 0 _ none none (by omega) (hm.fr hb) (hR.fr hb (by unfold rdS; omega)) (hI 8 _ (by decide) (by decide)) ((hI 1 _ (by decide) (by decide)).trans e) ((hI 2 _ (by decide) (by decide)).trans hx) ((hI 3 _ (by decide) (by decide)).trans hz) (Or.inr rfl) (fun j hj => absurd hj (Nat.not_lt_zero j)) ?_ ?_
      · intro w' h1 h2 h3
        have hc : rdCode (nI r) (nI x) (nI z) (wI w (m + 9) f) (wI w (m + 8) f) = 0 := by
          unfold rdCode
          rw [if_neg e2, if_neg hcnt, if_neg]
          rintro ⟨q1, q2⟩
          rcases h2 with q | q
          · exact q2 q
          · subst q
            exact absurd q1 (by decide)
        simp only [hc] at h
        refine ⟨0, rfl, h w' (hb.tr h1) (fun _ r' z' g1 g2 g3 g4 j hj => ?_) (fun q => absurd trivial q)⟩
        rw [ni_eq (by omega) (by omega)] at g1
        subst g1
        rw [hz, ni_eq (by omega) (by omega)] at g3
        subst g3
        rw [h3 j hj, hI 4 _ (by decide) (by decide)]
        rfl
      · intro w' h1 h2 h3 h4
        have hc : rdCode (nI r) (nI x) (nI z) (wI w (m + 9) f) (wI w (m + 8) f) = -12 := by
          unfold rdCode
          rw [if_neg e2, if_neg hcnt, if_pos]
          refine ⟨?_, h2⟩
          rw [show (0 : Int32) = nI 0 from rfl, ni_lt (by omega) (by omega)]
          exact h3
        simp only [hc] at h
        refine ⟨-12, rfl, h w' (hb.tr h1) (fun q => absurd q (by decide)) fun _ => ?_⟩
        rw [h4]
        unfold rdCell
        rw [if_neg e2, if_neg hcnt]
    refine ⟨fun q1 => hloop fun z => absurd z.1 (Int32.not_lt.mpr q1), fun q1 => ⟨fun q2 => hloop fun z => z.2 q2, fun q2 => ?_⟩⟩
    have hc : rdCode (nI r) (nI x) (nI z) (wI w (m + 9) f) (wI w (m + 8) f) = -16 := by
      unfold rdCode
      rw [if_neg e2, if_pos ⟨Int32.not_le.mp q1, q2⟩]
    simp only [hc] at h
    refine h _ hb (fun q => absurd q (by decide)) fun _ => ?_
    rw [wI_at, if_pos rfl]
    unfold rdCell
    rw [if_neg e2, if_pos ⟨Int32.not_le.mp q1, q2⟩]
