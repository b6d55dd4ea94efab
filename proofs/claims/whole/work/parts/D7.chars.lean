/-! the library: a number's signs -/
theorem staV_2 {g : Ge} {w : Wd} (h : Cn g w) : staV g (stQ 2) = .ref (gA g 1000 1) := by
  show (if gA g 1001 1 = 0 then Value.ref (gA g 1000 1) else Value.null) = _
  rw [if_pos h.2.2.1.1]
theorem staV_3 {g : Ge} {w : Wd} (h : Cn g w) : staV g (stQ 3) = .ref (gA g 1000 2) := by
  show (if gA g 1001 2 = 0 then Value.ref (gA g 1000 2) else Value.null) = _
  rw [if_pos h.2.2.2.1]
def bwS (b lo hi : Nat) (c j : Nat) : Prop := c = b ∧ lo ≤ j ∧ j < hi
set_option maxRecDepth 100000 in
set_option maxHeartbeats 4000000 in
theorem J6_gc_it {g : Ge} {k0 n0 a p e s b cap : Nat} {w : Wd} {K : Option Value → Wd → Prop} {o3 o4 : Option Value} (hC : Cn g w) (hgb : gB g ≤ b) (hb : wsh w b = (103, cap)) (hcap : cap ≤ 600) (ha : 100 ≤ a) (ha2 : a < 1000000) (hp : 2 ≤ p) (hpc : p ≤ cap) (h : ∀ w' o3 o4, drop2 o4 = o4 → Fr (bwS b (p - 2) p) w w' → wI w' b (p - 1) = nI (48 + a % 10) → wI w' b (p - 2) = nI (48 + a / 10 % 10) → R g mJ6_getChars_ba4f3 K 22 [some (.int (-nI (a / 100))), some (.int (nI e)), some (.ref b), o3, o4, some (.int (nI (p - 2))), some (.int (nI s))] [] w' k0 n0) : R g mJ6_getChars_ba4f3 K 22 [some (.int (-nI a)), some (.int (nI e)), some (.ref b), o3, o4, some (.int (nI p)), some (.int (nI s))] [] w k0 n0 := by
  obtain ⟨-, -, ⟨x1, x2, x3, x4⟩, ⟨y1, y2, y3, y4⟩⟩ := id hC
  have m1 : ¬ (-100 : Int32) < -nI a := by
    rw [show (-100 : Int32) = -nI 100 from rfl, ng_lt (by decide) (by omega)]
    omega
  have m2 : ¬ (100 : Int32) = 0 := by decide
  have p1 : nI p + -1 = nI (p - 1) := nl_m1 (by omega)
  have p2 : nI (p - 1) + -1 = nI (p - 2) := by rw [nl_m1 (by omega)]; rfl
  have r0 : a % 100 < 100 := Nat.mod_lt _ (by decide)
  have i1 : vp_in (nI (a % 100)) 100 := vp_in_nI (by omega) (by decide)
  have i2 : vp_in (nI (p - 1)) cap := vp_in_nI (by omega) (by omega)
  have i3 : vp_in (nI (p - 2)) cap := vp_in_nI (by omega) (by omega)
  have c1 : (nI (a % 100)).toNatClampNeg = a % 100 := ni_cl (by omega)
  have c2 : (nI (p - 1)).toNatClampNeg = p - 1 := ni_cl (by omega)
  have c3 : (nI (p - 2)).toNatClampNeg = p - 2 := ni_cl (by omega)
  have t102 : ((103 : Nat) = 102) = False := eq_false (by decide)
  have x4' := x4 (a % 100) (by omega)
  have y4' := y4 (a % 100) (by omega)
  have z2 : up2 (wI w) b (p - 1) (nI (48 + a % 100 % 10)) (gA g 1000 2) (a % 100) = nI (48 + a % 100 / 10) := (if_neg (fun z => by omega)).trans y4'
  simp only [vJ6_getChars_ba4f3_22, vJ6_getChars_ba4f3_23, vJ6_getChars_ba4f3_25, pI_c, pL_c, pF_c, pD_c, pA_n, pA_c, pA_rf, pR_c, pR_rf, pV_i, pV_a, pV_n, pV_rf, ldI_c, ldL_c, ldF_c, ldD_c, ldA_c, ldA_n, ldA_rf, dup2_l, dup2_ia, dup2_ir, popA_0, popA_s, getL_z, getL_s, setL_z, setL_1, setL_s, setL2_z, setL2_1, setL2_s, drop2_i, drop2_a, drop2_0, drop2_n, drop2_l, drop2_d, drop2_r, cwd_0, cwd_i, cwd_a, cwd_n, cwd_l, cwd_d, cwd_f, cwd_r, rf_s, rf_n, swi_0, swi_s, zR_b0, zR_b1, zN_b0, zN_b1, entV_i, entV_a, entV_n, entV_r, entV_f, entV_l, entV_d, entV_s, entV_0, List.length_cons, List.length_nil, List.nil_append, List.cons_append, true_and, and_true, Nat.reduceAdd, Nat.reduceLT, Nat.reduceEqDiff, Nat.reduceLeDiff, Nat.reduceSub, Nat.zero_add, Classical.not_not, ex_i, ex_l, ex_d, ex_r, ex_rs, ex_rn, ex_sm, Nat.sub_zero, eq_self, wn_sI, wn_sL, wn_sP, wsh_sI, wsh_sL, wsh_sP, wI_sL, wI_sP, wL_sI, wL_sP, wP_sI, wP_sL, wI_sI, wL_sL, Int32.reduceLT, Int32.reduceLE, true_implies, not_true_eq_false, false_implies, not_false_eq_true, i_10, m1]
  simp only [vJ6_getChars_ba4f3_28, vJ6_getChars_ba4f3_29, vJ6_getChars_ba4f3_31, vJ6_getChars_ba4f3_32, vJ6_getChars_ba4f3_33, vJ6_getChars_ba4f3_34, vJ6_getChars_ba4f3_36, vJ6_getChars_ba4f3_37, vJ6_getChars_ba4f3_38, vJ6_getChars_ba4f3_39, vJ6_getChars_ba4f3_41, vJ6_getChars_ba4f3_42, vJ6_getChars_ba4f3_43, vJ6_getChars_ba4f3_44, vJ6_getChars_ba4f3_47, vJ6_getChars_ba4f3_49, vJ6_getChars_ba4f3_52, vJ6_getChars_ba4f3_54, vJ6_getChars_ba4f3_55, pI_c, pL_c, pF_c, pD_c, pA_n, pA_c, pA_rf, pR_c, pR_rf, pV_i, pV_a, pV_n, pV_rf, ldI_c, ldL_c, ldF_c, ldD_c, ldA_c, ldA_n, ldA_rf, dup2_l, dup2_ia, dup2_ir, popA_0, popA_s, getL_z, getL_s, setL_z, setL_1, setL_s, setL2_z, setL2_1, setL2_s, drop2_i, drop2_a, drop2_0, drop2_n, drop2_l, drop2_d, drop2_r, cwd_0, cwd_i, cwd_a, cwd_n, cwd_l, cwd_d, cwd_f, cwd_r, rf_s, rf_n, swi_0, swi_s, zR_b0, zR_b1, zN_b0, zN_b1, entV_i, entV_a, entV_n, entV_r, entV_f, entV_l, entV_d, entV_s, entV_0, List.length_cons, List.length_nil, List.nil_append, List.cons_append, true_and, and_true, Nat.reduceAdd, Nat.reduceLT, Nat.reduceEqDiff, Nat.reduceLeDiff, Nat.reduceSub, Nat.zero_add, Classical.not_not, ex_i, ex_l, ex_d, ex_r, ex_rs, ex_rn, ex_sm, Nat.sub_zero, eq_self, wn_sI, wn_sL, wn_sP, wsh_sI, wsh_sL, wsh_sP, wI_sL, wI_sP, wL_sI, wL_sP, wP_sI, wP_sL, wI_sI, wL_sL, Int32.reduceLT, Int32.reduceLE, true_implies, not_true_eq_false, false_implies, not_false_eq_true, i_10, m2, ng_div ha2, ng_rem ha2, p1, staV_2 hC, x3, i1, c1, x4', hb, i2, c2, hgb, t102, false_and, false_or, or_true, nar_n (48 + a % 100 % 10) (by omega)]
  simp only [vJ6_getChars_ba4f3_56, vJ6_getChars_ba4f3_57, vJ6_getChars_ba4f3_60, vJ6_getChars_ba4f3_62, vJ6_getChars_ba4f3_65, vJ6_getChars_ba4f3_67, vJ6_getChars_ba4f3_68, vJ6_getChars_ba4f3_69, pI_c, pL_c, pF_c, pD_c, pA_n, pA_c, pA_rf, pR_c, pR_rf, pV_i, pV_a, pV_n, pV_rf, ldI_c, ldL_c, ldF_c, ldD_c, ldA_c, ldA_n, ldA_rf, dup2_l, dup2_ia, dup2_ir, popA_0, popA_s, getL_z, getL_s, setL_z, setL_1, setL_s, setL2_z, setL2_1, setL2_s, drop2_i, drop2_a, drop2_0, drop2_n, drop2_l, drop2_d, drop2_r, cwd_0, cwd_i, cwd_a, cwd_n, cwd_l, cwd_d, cwd_f, cwd_r, rf_s, rf_n, swi_0, swi_s, zR_b0, zR_b1, zN_b0, zN_b1, entV_i, entV_a, entV_n, entV_r, entV_f, entV_l, entV_d, entV_s, entV_0, List.length_cons, List.length_nil, List.nil_append, List.cons_append, true_and, and_true, Nat.reduceAdd, Nat.reduceLT, Nat.reduceEqDiff, Nat.reduceLeDiff, Nat.reduceSub, Nat.zero_add, Classical.not_not, ex_i, ex_l, ex_d, ex_r, ex_rs, ex_rn, ex_sm, Nat.sub_zero, eq_self, wn_sI, wn_sL, wn_sP, wsh_sI, wsh_sL, wsh_sP, wI_sL, wI_sP, wL_sI, wL_sP, wP_sI, wP_sL, wI_sI, wL_sL, Int32.reduceLT, Int32.reduceLE, true_implies, not_true_eq_false, false_implies, not_false_eq_true, i_10, p2, staV_3 hC, y3, i1, c1, z2, hb, i3, c3, hgb, t102, false_and, false_or, or_true, nar_n (48 + a % 100 / 10) (by omega)]
  refine h _ _ _ rfl ?_ ?_ ?_
  · exact ((Fr.rf : Fr (bwS b (p - 2) p) w w).i _ ⟨rfl, by omega, by omega⟩).i _ ⟨rfl, by omega, by omega⟩
  · rw [wI_at, if_neg (by omega), wI_at, if_pos rfl, show a % 100 % 10 = a % 10 by omega]
  · rw [wI_at, if_pos rfl, show a % 100 / 10 = a / 10 % 10 by omega]
set_option maxRecDepth 100000 in
set_option maxHeartbeats 4000000 in
theorem J6_gc_fin {g : Ge} {k0 n0 a p e s b cap : Nat} {w : Wd} {K : Option Value → Wd → Prop} {o3 o4 : Option Value} (hC : Cn g w) (hgb : gB g ≤ b) (hb : wsh w b = (103, cap)) (hcap : cap ≤ 600) (h4 : drop2 o4 = o4) (ha : a < 100) (hs : s ≤ 1) (hp : 1 + (if 9 < a then 1 else 0) + s ≤ p) (hpc : p ≤ cap) (h : ∀ w' q, q = p - 1 - (if 9 < a then 1 else 0) - s → Fr (bwS b q p) w w' → wI w' b (p - 1) = nI (48 + a % 10) → (9 < a → wI w' b (p - 2) = nI (48 + a / 10)) → (s = 1 → wI w' b q = 45) → K (some (.int (nI q))) w') : R g mJ6_getChars_ba4f3 K 22 [some (.int (-nI a)), some (.int (nI e)), some (.ref b), o3, o4, some (.int (nI p)), some (.int (nI s))] [] w k0 n0 := by
  obtain ⟨-, -, ⟨x1, x2, x3, x4⟩, ⟨y1, y2, y3, y4⟩⟩ := id hC
  have m1 : (-100 : Int32) < -nI a := by
    rw [show (-100 : Int32) = -nI 100 from rfl, ng_lt (by decide) (by omega)]
    exact ha
  have p1 : nI p + -1 = nI (p - 1) := nl_m1 (by omega)
  have i1 : vp_in (nI a) 100 := vp_in_nI ha (by decide)
  have i2 : vp_in (nI (p - 1)) cap := vp_in_nI (by omega) (by omega)
  have c1 : (nI a).toNatClampNeg = a := ni_cl (by omega)
  have c2 : (nI (p - 1)).toNatClampNeg = p - 1 := ni_cl (by omega)
  have t102 : ((103 : Nat) = 102) = False := eq_false (by decide)
  have x4' := x4 a ha
  have y4' := y4 a ha
  have m9 : ((-9 : Int32) ≤ -nI a) = (a ≤ 9) := by
    rw [show (-9 : Int32) = -nI 9 from rfl]
    exact ng_le (by decide) (by omega)
  have f1 : Fr (bwS b (p - 1) p) w (sI w b (p - 1) (nI (48 + a % 10))) := Fr.rf.i _ ⟨rfl, by omega, by omega⟩
  have v1 : wI (sI w b (p - 1) (nI (48 + a % 10))) b (p - 1) = nI (48 + a % 10) := wI_at.trans (if_pos rfl)
  have sgnp : ∀ (w1 : Wd) (q : Nat), s ≤ q → q ≤ cap → wsh w1 b = (103, cap) → (∀ w', Fr (bwS b (q - s) q) w1 w' → (s = 1 → wI w' b (q - s) = 45) → K (some (.int (nI (q - s)))) w') → R g mJ6_getChars_ba4f3 K 104 [some (.int (-nI a)), some (.int (nI e)), some (.ref b), o3, o4, some (.int (nI q)), some (.int (nI s))] [] w1 k0 n0 := by
    intro w1 q h1 h2 h3 h5
    rcases (show s = 0 ∨ s = 1 by omega) with rfl | rfl
    · have e0 : nI 0 = 0 := rfl
      simp only [vJ6_getChars_ba4f3_104, vJ6_getChars_ba4f3_106, vJ6_getChars_ba4f3_118, vJ6_getChars_ba4f3_120, pI_c, pL_c, pF_c, pD_c, pA_n, pA_c, pA_rf, pR_c, pR_rf, pV_i, pV_a, pV_n, pV_rf, ldI_c, ldL_c, ldF_c, ldD_c, ldA_c, ldA_n, ldA_rf, dup2_l, dup2_ia, dup2_ir, popA_0, popA_s, getL_z, getL_s, setL_z, setL_1, setL_s, setL2_z, setL2_1, setL2_s, drop2_i, drop2_a, drop2_0, drop2_n, drop2_l, drop2_d, drop2_r, cwd_0, cwd_i, cwd_a, cwd_n, cwd_l, cwd_d, cwd_f, cwd_r, rf_s, rf_n, swi_0, swi_s, zR_b0, zR_b1, zN_b0, zN_b1, entV_i, entV_a, entV_n, entV_r, entV_f, entV_l, entV_d, entV_s, entV_0, List.length_cons, List.length_nil, List.nil_append, List.cons_append, true_and, and_true, Nat.reduceAdd, Nat.reduceLT, Nat.reduceEqDiff, Nat.reduceLeDiff, Nat.reduceSub, Nat.zero_add, Classical.not_not, ex_i, ex_l, ex_d, ex_r, ex_rs, ex_rn, ex_sm, Nat.sub_zero, eq_self, wn_sI, wn_sL, wn_sP, wsh_sI, wsh_sL, wsh_sP, wI_sL, wI_sP, wL_sI, wL_sP, wP_sI, wP_sL, wI_sI, wL_sL, Int32.reduceLT, Int32.reduceLE, true_implies, not_true_eq_false, false_implies, not_false_eq_true, i_10, e0]
      exact h5 w1 Fr.rf fun z => absurd z (by decide)
    · have e0 : ¬ nI 1 = 0 := by decide
      have p3 : nI q + -1 = nI (q - 1) := nl_m1 (by omega)
      have i3 : vp_in (nI (q - 1)) cap := vp_in_nI (by omega) (by omega)
      have c3 : (nI (q - 1)).toNatClampNeg = q - 1 := ni_cl (by omega)
      simp only [vJ6_getChars_ba4f3_104, vJ6_getChars_ba4f3_106, vJ6_getChars_ba4f3_109, vJ6_getChars_ba4f3_110, vJ6_getChars_ba4f3_113, vJ6_getChars_ba4f3_115, vJ6_getChars_ba4f3_117, pI_c, pL_c, pF_c, pD_c, pA_n, pA_c, pA_rf, pR_c, pR_rf, pV_i, pV_a, pV_n, pV_rf, ldI_c, ldL_c, ldF_c, ldD_c, ldA_c, ldA_n, ldA_rf, dup2_l, dup2_ia, dup2_ir, popA_0, popA_s, getL_z, getL_s, setL_z, setL_1, setL_s, setL2_z, setL2_1, setL2_s, drop2_i, drop2_a, drop2_0, drop2_n, drop2_l, drop2_d, drop2_r, cwd_0, cwd_i, cwd_a, cwd_n, cwd_l, cwd_d, cwd_f, cwd_r, rf_s, rf_n, swi_0, swi_s, zR_b0, zR_b1, zN_b0, zN_b1, entV_i, entV_a, entV_n, entV_r, entV_f, entV_l, entV_d, entV_s, entV_0, List.length_cons, List.length_nil, List.nil_append, List.cons_append, true_and, and_true, Nat.reduceAdd, Nat.reduceLT, Nat.reduceEqDiff, Nat.reduceLeDiff, Nat.reduceSub, Nat.zero_add, Classical.not_not, ex_i, ex_l, ex_d, ex_r, ex_rs, ex_rn, ex_sm, Nat.sub_zero, eq_self, wn_sI, wn_sL, wn_sP, wsh_sI, wsh_sL, wsh_sP, wI_sL, wI_sP, wL_sI, wL_sP, wP_sI, wP_sL, wI_sI, wL_sL, Int32.reduceLT, Int32.reduceLE, true_implies, not_true_eq_false, false_implies, not_false_eq_true, i_10, e0, p3, h3, i3, c3, hgb, t102, false_and, false_or, or_true, h4, show vp_nar .byte (45 : Int32) = 45 from nar_n 45 (by decide)]
      simp only [vJ6_getChars_ba4f3_118, vJ6_getChars_ba4f3_120, pI_c, pL_c, pF_c, pD_c, pA_n, pA_c, pA_rf, pR_c, pR_rf, pV_i, pV_a, pV_n, pV_rf, ldI_c, ldL_c, ldF_c, ldD_c, ldA_c, ldA_n, ldA_rf, dup2_l, dup2_ia, dup2_ir, popA_0, popA_s, getL_z, getL_s, setL_z, setL_1, setL_s, setL2_z, setL2_1, setL2_s, drop2_i, drop2_a, drop2_0, drop2_n, drop2_l, drop2_d, drop2_r, cwd_0, cwd_i, cwd_a, cwd_n, cwd_l, cwd_d, cwd_f, cwd_r, rf_s, rf_n, swi_0, swi_s, zR_b0, zR_b1, zN_b0, zN_b1, entV_i, entV_a, entV_n, entV_r, entV_f, entV_l, entV_d, entV_s, entV_0, List.length_cons, List.length_nil, List.nil_append, List.cons_append, true_and, and_true, Nat.reduceAdd, Nat.reduceLT, Nat.reduceEqDiff, Nat.reduceLeDiff, Nat.reduceSub, Nat.zero_add, Classical.not_not, ex_i, ex_l, ex_d, ex_r, ex_rs, ex_rn, ex_sm, Nat.sub_zero, eq_self, wn_sI, wn_sL, wn_sP, wsh_sI, wsh_sL, wsh_sP, wI_sL, wI_sP, wL_sI, wL_sP, wP_sI, wP_sL, wI_sI, wL_sL, Int32.reduceLT, Int32.reduceLE, true_implies, not_true_eq_false, false_implies, not_false_eq_true, i_10]
      exact h5 _ (Fr.rf.i _ ⟨rfl, by omega, by omega⟩) fun _ => wI_at.trans (if_pos rfl)
  simp only [vJ6_getChars_ba4f3_22, vJ6_getChars_ba4f3_23, vJ6_getChars_ba4f3_25, pI_c, pL_c, pF_c, pD_c, pA_n, pA_c, pA_rf, pR_c, pR_rf, pV_i, pV_a, pV_n, pV_rf, ldI_c, ldL_c, ldF_c, ldD_c, ldA_c, ldA_n, ldA_rf, dup2_l, dup2_ia, dup2_ir, popA_0, popA_s, getL_z, getL_s, setL_z, setL_1, setL_s, setL2_z, setL2_1, setL2_s, drop2_i, drop2_a, drop2_0, drop2_n, drop2_l, drop2_d, drop2_r, cwd_0, cwd_i, cwd_a, cwd_n, cwd_l, cwd_d, cwd_f, cwd_r, rf_s, rf_n, swi_0, swi_s, zR_b0, zR_b1, zN_b0, zN_b1, entV_i, entV_a, entV_n, entV_r, entV_f, entV_l, entV_d, entV_s, entV_0, List.length_cons, List.length_nil, List.nil_append, List.cons_append, true_and, and_true, Nat.reduceAdd, Nat.reduceLT, Nat.reduceEqDiff, Nat.reduceLeDiff, Nat.reduceSub, Nat.zero_add, Classical.not_not, ex_i, ex_l, ex_d, ex_r, ex_rs, ex_rn, ex_sm, Nat.sub_zero, eq_self, wn_sI, wn_sL, wn_sP, wsh_sI, wsh_sL, wsh_sP, wI_sL, wI_sP, wL_sI, wL_sP, wP_sI, wP_sL, wI_sI, wL_sL, Int32.reduceLT, Int32.reduceLE, true_implies, not_true_eq_false, false_implies, not_false_eq_true, i_10, m1]
  simp only [vJ6_getChars_ba4f3_72, vJ6_getChars_ba4f3_73, vJ6_getChars_ba4f3_76, vJ6_getChars_ba4f3_78, vJ6_getChars_ba4f3_81, vJ6_getChars_ba4f3_82, vJ6_getChars_ba4f3_83, vJ6_getChars_ba4f3_84, vJ6_getChars_ba4f3_85, vJ6_getChars_ba4f3_86, vJ6_getChars_ba4f3_88, pI_c, pL_c, pF_c, pD_c, pA_n, pA_c, pA_rf, pR_c, pR_rf, pV_i, pV_a, pV_n, pV_rf, ldI_c, ldL_c, ldF_c, ldD_c, ldA_c, ldA_n, ldA_rf, dup2_l, dup2_ia, dup2_ir, popA_0, popA_s, getL_z, getL_s, setL_z, setL_1, setL_s, setL2_z, setL2_1, setL2_s, drop2_i, drop2_a, drop2_0, drop2_n, drop2_l, drop2_d, drop2_r, cwd_0, cwd_i, cwd_a, cwd_n, cwd_l, cwd_d, cwd_f, cwd_r, rf_s, rf_n, swi_0, swi_s, zR_b0, zR_b1, zN_b0, zN_b1, entV_i, entV_a, entV_n, entV_r, entV_f, entV_l, entV_d, entV_s, entV_0, List.length_cons, List.length_nil, List.nil_append, List.cons_append, true_and, and_true, Nat.reduceAdd, Nat.reduceLT, Nat.reduceEqDiff, Nat.reduceLeDiff, Nat.reduceSub, Nat.zero_add, Classical.not_not, ex_i, ex_l, ex_d, ex_r, ex_rs, ex_rn, ex_sm, Nat.sub_zero, eq_self, wn_sI, wn_sL, wn_sP, wsh_sI, wsh_sL, wsh_sP, wI_sL, wI_sP, wL_sI, wL_sP, wP_sI, wP_sL, wI_sI, wL_sL, Int32.reduceLT, Int32.reduceLE, true_implies, not_true_eq_false, false_implies, not_false_eq_true, i_10, ng_ng, p1, staV_2 hC, x3, i1, c1, x4', hb, i2, c2, hgb, m9, t102, false_and, false_or, or_true, h4, nar_n (48 + a % 10) (by omega)]
  by_cases q9 : a ≤ 9
  · have q9' : ¬ 9 < a := by omega
    rw [if_neg q9'] at hp
    simp only [if_neg q9', Nat.sub_zero] at h
    refine ⟨fun _ => ?_, fun z => absurd q9 z⟩
    refine sgnp _ (p - 1) (by omega) (by omega) hb fun w' g1 g2 => ?_
    refine h w' (p - 1 - s) rfl ((f1.mo fun c j z => show bwS b (p - 1 - s) p c j by unfold bwS at z ⊢; omega).tr (g1.mo fun c j z => by unfold bwS at z ⊢; omega)) ?_ (fun z => absurd z q9') g2
    rw [g1.I _ _ (by unfold bwS; omega)]
    exact v1
  · have q9' : 9 < a := by omega
    rw [if_pos q9'] at hp
    simp only [if_pos q9'] at h
    refine ⟨fun z => absurd z q9, fun _ => ?_⟩
    have p2 : nI (p - 1) + -1 = nI (p - 2) := by rw [nl_m1 (by omega)]; rfl
    have i3 : vp_in (nI (p - 2)) cap := vp_in_nI (by omega) (by omega)
    have c3 : (nI (p - 2)).toNatClampNeg = p - 2 := ni_cl (by omega)
    have z2 : up2 (wI w) b (p - 1) (nI (48 + a % 10)) (gA g 1000 2) a = nI (48 + a / 10) := (if_neg (fun z => by omega)).trans y4'
    simp only [vJ6_getChars_ba4f3_91, vJ6_getChars_ba4f3_92, vJ6_getChars_ba4f3_95, vJ6_getChars_ba4f3_97, vJ6_getChars_ba4f3_100, vJ6_getChars_ba4f3_101, vJ6_getChars_ba4f3_102, vJ6_getChars_ba4f3_103, pI_c, pL_c, pF_c, pD_c, pA_n, pA_c, pA_rf, pR_c, pR_rf, pV_i, pV_a, pV_n, pV_rf, ldI_c, ldL_c, ldF_c, ldD_c, ldA_c, ldA_n, ldA_rf, dup2_l, dup2_ia, dup2_ir, popA_0, popA_s, getL_z, getL_s, setL_z, setL_1, setL_s, setL2_z, setL2_1, setL2_s, drop2_i, drop2_a, drop2_0, drop2_n, drop2_l, drop2_d, drop2_r, cwd_0, cwd_i, cwd_a, cwd_n, cwd_l, cwd_d, cwd_f, cwd_r, rf_s, rf_n, swi_0, swi_s, zR_b0, zR_b1, zN_b0, zN_b1, entV_i, entV_a, entV_n, entV_r, entV_f, entV_l, entV_d, entV_s, entV_0, List.length_cons, List.length_nil, List.nil_append, List.cons_append, true_and, and_true, Nat.reduceAdd, Nat.reduceLT, Nat.reduceEqDiff, Nat.reduceLeDiff, Nat.reduceSub, Nat.zero_add, Classical.not_not, ex_i, ex_l, ex_d, ex_r, ex_rs, ex_rn, ex_sm, Nat.sub_zero, eq_self, wn_sI, wn_sL, wn_sP, wsh_sI, wsh_sL, wsh_sP, wI_sL, wI_sP, wL_sI, wL_sP, wP_sI, wP_sL, wI_sI, wL_sL, Int32.reduceLT, Int32.reduceLE, true_implies, not_true_eq_false, false_implies, not_false_eq_true, i_10, ng_ng, p2, staV_3 hC, y3, i1, c1, z2, hb, i3, c3, hgb, t102, false_and, false_or, or_true, h4, nar_n (48 + a / 10) (by omega)]
    have f2 : Fr (bwS b (p - 2) p) w (sI (sI w b (p - 1) (nI (48 + a % 10))) b (p - 2) (nI (48 + a / 10))) := ((Fr.rf : Fr (bwS b (p - 2) p) w w).i _ ⟨rfl, by omega, by omega⟩).i _ ⟨rfl, by omega, by omega⟩
    refine sgnp _ (p - 2) (by omega) (by omega) hb fun w' g1 g2 => ?_
    have e2 : p - 1 - 1 - s = p - 2 - s := by omega
    refine h w' (p - 2 - s) e2.symm ((f2.mo fun c j z => show bwS b (p - 2 - s) p c j by unfold bwS at z ⊢; omega).tr (g1.mo fun c j z => by unfold bwS at z ⊢; omega)) ?_ (fun _ => ?_) g2
    · rw [g1.I _ _ (by unfold bwS; omega), wI_at, if_neg (by omega)]
      exact v1
    · rw [g1.I _ _ (by unfold bwS; omega), wI_at, if_pos rfl]
