/-! the reference: kinds and cells -/
theorem nan32 {x : UInt32} (h : vf_n32 x) : (Op.cmpValue (FP.fcmp x x) CmpOp.l = 0) := by
  sorry
set_option maxRecDepth 100000 in
set_option maxHeartbeats 4000000 in
theorem Jf_isNaN_ok {g : Ge} {w : Wd} {k n : Nat} {K : Int32 → Wd → Nat → Nat → Prop} (x : UInt32) (hx : vf_n32 x) (h : K 0 w k n) : cI g mJxf58ca_isNaN_12338 [.float x] w k n K := by
  refine cI_of 1 0 0 rfl (by decide +kernel) rfl (Nat.le_of_ble_eq_true rfl) (Nat.zero_le _) (Nat.zero_le _) ?_
  simp only [vJxf58ca_isNaN_12338_0, vJxf58ca_isNaN_12338_1, vJxf58ca_isNaN_12338_2, vJxf58ca_isNaN_12338_3, vJxf58ca_isNaN_12338_6, vJxf58ca_isNaN_12338_7, vJxf58ca_isNaN_12338_10, vJxf58ca_isNaN_12338_11, pI_c, pL_c, pF_c, pD_c, pA_n, pA_c, pA_rf, pR_c, pR_rf, pV_i, pV_a, pV_n, pV_rf, ldI_c, ldL_c, ldF_c, ldD_c, ldA_c, ldA_n, ldA_rf, dup2_l, dup2_ia, dup2_ir, popA_0, popA_s, getL_z, getL_s, setL_z, setL_1, setL_s, setL2_z, setL2_1, setL2_s, drop2_i, drop2_a, drop2_0, drop2_n, drop2_l, drop2_d, drop2_r, cwd_0, cwd_i, cwd_a, cwd_n, cwd_l, cwd_d, cwd_f, cwd_r, rf_s, rf_n, swi_0, swi_s, zR_b0, zR_b1, zN_b0, zN_b1, entV_i, entV_a, entV_n, entV_r, entV_f, entV_l, entV_d, entV_s, entV_0, List.length_cons, List.length_nil, List.nil_append, List.cons_append, true_and, and_true, Nat.reduceAdd, Nat.reduceLT, Nat.reduceEqDiff, Nat.reduceLeDiff, Nat.reduceSub, Nat.zero_add, Classical.not_not, ex_i, ex_l, ex_d, ex_r, ex_rs, ex_rn, ex_sm, Nat.sub_zero, eq_self, wn_sI, wn_sL, wn_sP, wsh_sI, wsh_sL, wsh_sP, wI_sL, wI_sP, wL_sI, wL_sP, wP_sI, wP_sL, wI_sI, wL_sL, Int32.reduceLT, Int32.reduceLE, true_implies, not_true_eq_false, false_implies, not_false_eq_true, i_10]
  exact ⟨fun _ => h, fun q => absurd (nan32 hx) q⟩
set_option maxRecDepth 100000 in
set_option maxHeartbeats 4000000 in
theorem Jf_bits_ok {g : Ge} {w : Wd} {k n : Nat} {K : Int32 → Wd → Nat → Nat → Prop} (x : UInt32) (hx : vf_n32 x) (h : K x.toInt32 w k n) : cI g mJxf58ca_floatToIntBits_5c35a [.float x] w k n K := by
  refine cI_of 1 0 0 rfl (by decide +kernel) rfl (Nat.le_of_ble_eq_true rfl) (Nat.zero_le _) (Nat.zero_le _) ?_
  simp only [vJxf58ca_floatToIntBits_5c35a_0, vJxf58ca_floatToIntBits_5c35a_1, vJxf58ca_floatToIntBits_5c35a_4, vJxf58ca_floatToIntBits_5c35a_7, vJxf58ca_floatToIntBits_5c35a_8, vJxf58ca_floatToIntBits_5c35a_11, vJxf58ca_floatToIntBits_5c35a_12, vJxf58ca_floatToIntBits_5c35a_14, pI_c, pL_c, pF_c, pD_c, pA_n, pA_c, pA_rf, pR_c, pR_rf, pV_i, pV_a, pV_n, pV_rf, ldI_c, ldL_c, ldF_c, ldD_c, ldA_c, ldA_n, ldA_rf, dup2_l, dup2_ia, dup2_ir, popA_0, popA_s, getL_z, getL_s, setL_z, setL_1, setL_s, setL2_z, setL2_1, setL2_s, drop2_i, drop2_a, drop2_0, drop2_n, drop2_l, drop2_d, drop2_r, cwd_0, cwd_i, cwd_a, cwd_n, cwd_l, cwd_d, cwd_f, cwd_r, rf_s, rf_n, swi_0, swi_s, zR_b0, zR_b1, zN_b0, zN_b1, entV_i, entV_a, entV_n, entV_r, entV_f, entV_l, entV_d, entV_s, entV_0, List.length_cons, List.length_nil, List.nil_append, List.cons_append, true_and, and_true, Nat.reduceAdd, Nat.reduceLT, Nat.reduceEqDiff, Nat.reduceLeDiff, Nat.reduceSub, Nat.zero_add, Classical.not_not, ex_i, ex_l, ex_d, ex_r, ex_rs, ex_rn, ex_sm, Nat.sub_zero, eq_self, wn_sI, wn_sL, wn_sP, wsh_sI, wsh_sL, wsh_sP, wI_sL, wI_sP, wL_sI, wL_sP, wP_sI, wP_sL, wI_sI, wL_sL, Int32.reduceLT, Int32.reduceLE, true_implies, not_true_eq_false, false_implies, not_false_eq_true, i_10]
  refine Jf_isNaN_ok x hx ?_
  refine ⟨fun q => absurd rfl q, fun _ => ?_⟩
  simp only [stNat, pI_c, pL_c, pF_c, pD_c, pA_n, pA_c, pA_rf, pR_c, pR_rf, pV_i, pV_a, pV_n, pV_rf, ldI_c, ldL_c, ldF_c, ldD_c, ldA_c, ldA_n, ldA_rf, dup2_l, dup2_ia, dup2_ir, popA_0, popA_s, getL_z, getL_s, setL_z, setL_1, setL_s, setL2_z, setL2_1, setL2_s, drop2_i, drop2_a, drop2_0, drop2_n, drop2_l, drop2_d, drop2_r, cwd_0, cwd_i, cwd_a, cwd_n, cwd_l, cwd_d, cwd_f, cwd_r, rf_s, rf_n, swi_0, swi_s, zR_b0, zR_b1, zN_b0, zN_b1, entV_i, entV_a, entV_n, entV_r, entV_f, entV_l, entV_d, entV_s, entV_0, List.length_cons, List.length_nil, List.nil_append, List.cons_append, true_and, and_true, Nat.reduceAdd, Nat.reduceLT, Nat.reduceEqDiff, Nat.reduceLeDiff, Nat.reduceSub, Nat.zero_add, Classical.not_not, ex_i, ex_l, ex_d, ex_r, ex_rs, ex_rn, ex_sm, Nat.sub_zero, eq_self, wn_sI, wn_sL, wn_sP, wsh_sI, wsh_sL, wsh_sP, wI_sL, wI_sP, wL_sI, wL_sP, wP_sI, wP_sL, wI_sI, wL_sL, Int32.reduceLT, Int32.reduceLE, true_implies, not_true_eq_false, false_implies, not_false_eq_true, i_10]
  refine ⟨⟨by decide, by decide⟩, ?_⟩
  simp only [vJxf58ca_floatToIntBits_5c35a_0, vJxf58ca_floatToIntBits_5c35a_1, vJxf58ca_floatToIntBits_5c35a_4, vJxf58ca_floatToIntBits_5c35a_7, vJxf58ca_floatToIntBits_5c35a_8, vJxf58ca_floatToIntBits_5c35a_11, vJxf58ca_floatToIntBits_5c35a_12, vJxf58ca_floatToIntBits_5c35a_14, pI_c, pL_c, pF_c, pD_c, pA_n, pA_c, pA_rf, pR_c, pR_rf, pV_i, pV_a, pV_n, pV_rf, ldI_c, ldL_c, ldF_c, ldD_c, ldA_c, ldA_n, ldA_rf, dup2_l, dup2_ia, dup2_ir, popA_0, popA_s, getL_z, getL_s, setL_z, setL_1, setL_s, setL2_z, setL2_1, setL2_s, drop2_i, drop2_a, drop2_0, drop2_n, drop2_l, drop2_d, drop2_r, cwd_0, cwd_i, cwd_a, cwd_n, cwd_l, cwd_d, cwd_f, cwd_r, rf_s, rf_n, swi_0, swi_s, zR_b0, zR_b1, zN_b0, zN_b1, entV_i, entV_a, entV_n, entV_r, entV_f, entV_l, entV_d, entV_s, entV_0, List.length_cons, List.length_nil, List.nil_append, List.cons_append, true_and, and_true, Nat.reduceAdd, Nat.reduceLT, Nat.reduceEqDiff, Nat.reduceLeDiff, Nat.reduceSub, Nat.zero_add, Classical.not_not, ex_i, ex_l, ex_d, ex_r, ex_rs, ex_rn, ex_sm, Nat.sub_zero, eq_self, wn_sI, wn_sL, wn_sP, wsh_sI, wsh_sL, wsh_sP, wI_sL, wI_sP, wL_sI, wL_sP, wP_sI, wP_sL, wI_sI, wL_sL, Int32.reduceLT, Int32.reduceLE, true_implies, not_true_eq_false, false_implies, not_false_eq_true, i_10]
  exact h
theorem n32_l2f (v : Int64) : vf_n32 (FP.l2f v) := by sorry
theorem n64_l2d (v : Int64) : vf_n64 (FP.l2d v) := by sorry
/-- finite -/
def fin32 (v : Int64) : Prop := isVal 6 v = true
def fin64 (v : Int64) : Prop := isVal 7 v = true
theorem n64_f2d {v : Int64} (h : fin32 v) : vf_n64 (FP.f2d v.toInt32.toUInt32) := by sorry
theorem sn_i2f {v : Int64} (h : fin32 v) : vn_sni2f v.toInt32 = false := by sorry
theorem sn_l2d {v : Int64} (h : fin64 v) : vn_snl2d v = false := by sorry
set_option maxRecDepth 100000 in
set_option maxHeartbeats 4000000 in
theorem X12_numberOf_ok {g : Ge} {w : Wd} {k n : Nat} {K : Int64 → Wd → Nat → Nat → Prop} (kd : Int32) (v : Int64) (h : K (numOf kd v) w k n) : cL g mX12_numberOf [.int kd, .long v] w k n K := by
  refine cL_of 3 0 0 rfl (by decide +kernel) rfl (Nat.le_of_ble_eq_true rfl) (Nat.zero_le _) (Nat.zero_le _) ?_
  simp only [vX12_numberOf_0, vX12_numberOf_1, vX12_numberOf_44, vX12_numberOf_45, vX12_numberOf_46, vX12_numberOf_47, vX12_numberOf_50, vX12_numberOf_51, vX12_numberOf_54, vX12_numberOf_55, vX12_numberOf_56, vX12_numberOf_57, vX12_numberOf_58, vX12_numberOf_59, vX12_numberOf_60, vX12_numberOf_61, vX12_numberOf_62, vX12_numberOf_63, vX12_numberOf_64, vX12_numberOf_65, vX12_numberOf_66, vX12_numberOf_67, vX12_numberOf_68, vX12_numberOf_69, vX12_numberOf_70, vX12_numberOf_71, vX12_numberOf_72, vX12_numberOf_73, vX12_numberOf_74, vX12_numberOf_75, vX12_numberOf_76, vX12_numberOf_77, vX12_numberOf_78, vX12_numberOf_79, vX12_numberOf_82, vX12_numberOf_83, vX12_numberOf_84, vX12_numberOf_85, vX12_numberOf_86, vX12_numberOf_89, pI_c, pL_c, pF_c, pD_c, pA_n, pA_c, pA_rf, pR_c, pR_rf, pV_i, pV_a, pV_n, pV_rf, ldI_c, ldL_c, ldF_c, ldD_c, ldA_c, ldA_n, ldA_rf, dup2_l, dup2_ia, dup2_ir, popA_0, popA_s, getL_z, getL_s, setL_z, setL_1, setL_s, setL2_z, setL2_1, setL2_s, drop2_i, drop2_a, drop2_0, drop2_n, drop2_l, drop2_d, drop2_r, cwd_0, cwd_i, cwd_a, cwd_n, cwd_l, cwd_d, cwd_f, cwd_r, rf_s, rf_n, swi_0, swi_s, zR_b0, zR_b1, zN_b0, zN_b1, entV_i, entV_a, entV_n, entV_r, entV_f, entV_l, entV_d, entV_s, entV_0, List.length_cons, List.length_nil, List.nil_append, List.cons_append, true_and, and_true, Nat.reduceAdd, Nat.reduceLT, Nat.reduceEqDiff, Nat.reduceLeDiff, Nat.reduceSub, Nat.zero_add, Classical.not_not, ex_i, ex_l, ex_d, ex_r, ex_rs, ex_rn, ex_sm, Nat.sub_zero, eq_self, wn_sI, wn_sL, wn_sP, wsh_sI, wsh_sL, wsh_sP, wI_sL, wI_sP, wL_sI, wL_sP, wP_sI, wP_sL, wI_sI, wL_sL, Int32.reduceLT, Int32.reduceLE, true_implies, not_true_eq_false, false_implies, not_false_eq_true, i_10, lgc0]
  unfold numOf at h
  refine ⟨fun q => ?_, fun q => ⟨fun q1 => ?_, fun q1 => ⟨fun q2 => ?_, fun q2 => ⟨fun q3 => ?_, fun q3 => ⟨fun q4 => ?_, fun q4 => ⟨fun q5 => ?_, fun q5 => ⟨fun q6 => ?_, fun q6 => ?_⟩⟩⟩⟩⟩⟩⟩
  · rw [if_pos q] at h
    refine ⟨fun z => ?_, fun z => ?_⟩
    · rw [if_pos z] at h; exact h
    · rw [if_neg z] at h; exact h
  · rw [if_neg q, if_pos q1] at h; exact h
  · rw [if_neg q, if_neg q1, if_pos q2] at h; exact h
  · rw [if_neg q, if_neg q1, if_neg q2, if_pos q3] at h; exact h
  · rw [if_neg q, if_neg q1, if_neg q2, if_neg q3, if_pos q4] at h; exact h
  · rw [if_neg q, if_neg q1, if_neg q2, if_neg q3, if_neg q4, if_pos q5] at h; exact h
  · rw [if_neg q, if_neg q1, if_neg q2, if_neg q3, if_neg q4, if_neg q5, if_pos q6] at h
    refine Jf_bits_ok _ (n32_l2f v) ?_
    exact h
  · rw [if_neg q, if_neg q1, if_neg q2, if_neg q3, if_neg q4, if_neg q5, if_neg q6] at h
    refine Jd_bits_ok _ (n64_l2d v) ?_
    exact h
set_option maxRecDepth 100000 in
set_option maxHeartbeats 4000000 in
theorem X12_widened_ok {g : Ge} {w : Wd} {k n : Nat} {K : Int64 → Wd → Nat → Nat → Prop} (a b : Int32) (v : Int64) (hv : a = 6 → fin32 v) (h : K (wdn a v b) w k n) : cL g mX12_widened [.int a, .long v, .int b] w k n K := by
  refine cL_of 4 0 0 rfl (by decide +kernel) rfl (Nat.le_of_ble_eq_true rfl) (Nat.zero_le _) (Nat.zero_le _) ?_
  simp only [vX12_widened_0, vX12_widened_1, vX12_widened_2, vX12_widened_5, vX12_widened_6, vX12_widened_7, vX12_widened_8, vX12_widened_10, vX12_widened_13, vX12_widened_14, vX12_widened_15, vX12_widened_18, vX12_widened_19, vX12_widened_22, vX12_widened_25, vX12_widened_26, vX12_widened_27, vX12_widened_30, pI_c, pL_c, pF_c, pD_c, pA_n, pA_c, pA_rf, pR_c, pR_rf, pV_i, pV_a, pV_n, pV_rf, ldI_c, ldL_c, ldF_c, ldD_c, ldA_c, ldA_n, ldA_rf, dup2_l, dup2_ia, dup2_ir, popA_0, popA_s, getL_z, getL_s, setL_z, setL_1, setL_s, setL2_z, setL2_1, setL2_s, drop2_i, drop2_a, drop2_0, drop2_n, drop2_l, drop2_d, drop2_r, cwd_0, cwd_i, cwd_a, cwd_n, cwd_l, cwd_d, cwd_f, cwd_r, rf_s, rf_n, swi_0, swi_s, zR_b0, zR_b1, zN_b0, zN_b1, entV_i, entV_a, entV_n, entV_r, entV_f, entV_l, entV_d, entV_s, entV_0, List.length_cons, List.length_nil, List.nil_append, List.cons_append, true_and, and_true, Nat.reduceAdd, Nat.reduceLT, Nat.reduceEqDiff, Nat.reduceLeDiff, Nat.reduceSub, Nat.zero_add, Classical.not_not, ex_i, ex_l, ex_d, ex_r, ex_rs, ex_rn, ex_sm, Nat.sub_zero, eq_self, wn_sI, wn_sL, wn_sP, wsh_sI, wsh_sL, wsh_sP, wI_sL, wI_sP, wL_sI, wL_sP, wP_sI, wP_sL, wI_sI, wL_sL, Int32.reduceLT, Int32.reduceLE, true_implies, not_true_eq_false, false_implies, not_false_eq_true, i_10]
  unfold wdn at h
  refine ⟨fun q => ⟨fun q1 => ?_, fun q1 => ?_⟩, fun q => ?_⟩
  · rw [if_neg q, if_neg q1] at h
    refine X12_numberOf_ok _ _ ?_
    exact h
  · rw [if_neg q, if_pos q1] at h
    simp only [stNat, pI_c, pL_c, pF_c, pD_c, pA_n, pA_c, pA_rf, pR_c, pR_rf, pV_i, pV_a, pV_n, pV_rf, ldI_c, ldL_c, ldF_c, ldD_c, ldA_c, ldA_n, ldA_rf, dup2_l, dup2_ia, dup2_ir, popA_0, popA_s, getL_z, getL_s, setL_z, setL_1, setL_s, setL2_z, setL2_1, setL2_s, drop2_i, drop2_a, drop2_0, drop2_n, drop2_l, drop2_d, drop2_r, cwd_0, cwd_i, cwd_a, cwd_n, cwd_l, cwd_d, cwd_f, cwd_r, rf_s, rf_n, swi_0, swi_s, zR_b0, zR_b1, zN_b0, zN_b1, entV_i, entV_a, entV_n, entV_r, entV_f, entV_l, entV_d, entV_s, entV_0, List.length_cons, List.length_nil, List.nil_append, List.cons_append, true_and, and_true, Nat.reduceAdd, Nat.reduceLT, Nat.reduceEqDiff, Nat.reduceLeDiff, Nat.reduceSub, Nat.zero_add, Classical.not_not, ex_i, ex_l, ex_d, ex_r, ex_rs, ex_rn, ex_sm, Nat.sub_zero, eq_self, wn_sI, wn_sL, wn_sP, wsh_sI, wsh_sL, wsh_sP, wI_sL, wI_sP, wL_sI, wL_sP, wP_sI, wP_sL, wI_sI, wL_sL, Int32.reduceLT, Int32.reduceLE, true_implies, not_true_eq_false, false_implies, not_false_eq_true, i_10]
    refine ⟨⟨by decide, by decide⟩, sn_i2f (hv q1), ?_⟩
    simp only [vX12_widened_0, vX12_widened_1, vX12_widened_2, vX12_widened_5, vX12_widened_6, vX12_widened_7, vX12_widened_8, vX12_widened_10, vX12_widened_13, vX12_widened_14, vX12_widened_15, vX12_widened_18, vX12_widened_19, vX12_widened_22, vX12_widened_25, vX12_widened_26, vX12_widened_27, vX12_widened_30, pI_c, pL_c, pF_c, pD_c, pA_n, pA_c, pA_rf, pR_c, pR_rf, pV_i, pV_a, pV_n, pV_rf, ldI_c, ldL_c, ldF_c, ldD_c, ldA_c, ldA_n, ldA_rf, dup2_l, dup2_ia, dup2_ir, popA_0, popA_s, getL_z, getL_s, setL_z, setL_1, setL_s, setL2_z, setL2_1, setL2_s, drop2_i, drop2_a, drop2_0, drop2_n, drop2_l, drop2_d, drop2_r, cwd_0, cwd_i, cwd_a, cwd_n, cwd_l, cwd_d, cwd_f, cwd_r, rf_s, rf_n, swi_0, swi_s, zR_b0, zR_b1, zN_b0, zN_b1, entV_i, entV_a, entV_n, entV_r, entV_f, entV_l, entV_d, entV_s, entV_0, List.length_cons, List.length_nil, List.nil_append, List.cons_append, true_and, and_true, Nat.reduceAdd, Nat.reduceLT, Nat.reduceEqDiff, Nat.reduceLeDiff, Nat.reduceSub, Nat.zero_add, Classical.not_not, ex_i, ex_l, ex_d, ex_r, ex_rs, ex_rn, ex_sm, Nat.sub_zero, eq_self, wn_sI, wn_sL, wn_sP, wsh_sI, wsh_sL, wsh_sP, wI_sL, wI_sP, wL_sI, wL_sP, wP_sI, wP_sL, wI_sI, wL_sL, Int32.reduceLT, Int32.reduceLE, true_implies, not_true_eq_false, false_implies, not_false_eq_true, i_10]
    refine ⟨n64_f2d (hv q1), ?_⟩
    refine Jd_bits_ok _ (n64_f2d (hv q1)) ?_
    exact h
  · rw [if_pos q] at h; exact h
set_option maxRecDepth 100000 in
set_option maxHeartbeats 4000000 in
theorem X12_isValue_ok {g : Ge} {w : Wd} {k n : Nat} {K : Int32 → Wd → Nat → Nat → Prop} (kd : Int32) (v : Int64) (h : K (bI (isVal kd v)) w k n) : cI g mX12_isValue [.int kd, .long v] w k n K := by
  refine cI_of 3 0 0 rfl (by decide +kernel) rfl (Nat.le_of_ble_eq_true rfl) (Nat.zero_le _) (Nat.zero_le _) ?_
  simp only [vX12_isValue_0, vX12_isValue_1, vX12_isValue_28, vX12_isValue_29, vX12_isValue_30, vX12_isValue_31, vX12_isValue_32, vX12_isValue_33, vX12_isValue_36, vX12_isValue_37, vX12_isValue_39, vX12_isValue_40, vX12_isValue_43, vX12_isValue_44, vX12_isValue_47, vX12_isValue_48, vX12_isValue_51, vX12_isValue_52, vX12_isValue_55, vX12_isValue_56, vX12_isValue_57, vX12_isValue_58, vX12_isValue_60, vX12_isValue_61, vX12_isValue_64, vX12_isValue_65, vX12_isValue_68, vX12_isValue_69, vX12_isValue_72, vX12_isValue_73, vX12_isValue_76, vX12_isValue_77, vX12_isValue_78, vX12_isValue_79, vX12_isValue_80, vX12_isValue_83, vX12_isValue_84, vX12_isValue_85, vX12_isValue_88, vX12_isValue_89, vX12_isValue_92, vX12_isValue_93, pI_c, pL_c, pF_c, pD_c, pA_n, pA_c, pA_rf, pR_c, pR_rf, pV_i, pV_a, pV_n, pV_rf, ldI_c, ldL_c, ldF_c, ldD_c, ldA_c, ldA_n, ldA_rf, dup2_l, dup2_ia, dup2_ir, popA_0, popA_s, getL_z, getL_s, setL_z, setL_1, setL_s, setL2_z, setL2_1, setL2_s, drop2_i, drop2_a, drop2_0, drop2_n, drop2_l, drop2_d, drop2_r, cwd_0, cwd_i, cwd_a, cwd_n, cwd_l, cwd_d, cwd_f, cwd_r, rf_s, rf_n, swi_0, swi_s, zR_b0, zR_b1, zN_b0, zN_b1, entV_i, entV_a, entV_n, entV_r, entV_f, entV_l, entV_d, entV_s, entV_0, List.length_cons, List.length_nil, List.nil_append, List.cons_append, true_and, and_true, Nat.reduceAdd, Nat.reduceLT, Nat.reduceEqDiff, Nat.reduceLeDiff, Nat.reduceSub, Nat.zero_add, Classical.not_not, ex_i, ex_l, ex_d, ex_r, ex_rs, ex_rn, ex_sm, Nat.sub_zero, eq_self, wn_sI, wn_sL, wn_sP, wsh_sI, wsh_sL, wsh_sP, wI_sL, wI_sP, wL_sI, wL_sP, wP_sI, wP_sL, wI_sI, wL_sL, Int32.reduceLT, Int32.reduceLE, true_implies, not_true_eq_false, false_implies, not_false_eq_true, i_10, lgc]
  unfold isVal at h
  refine ⟨fun q => ?_, fun q => ⟨fun q1 => ?_, fun q1 => ?_⟩⟩
  · rw [if_pos q] at h
    refine ⟨fun z => ?_, fun z => ⟨fun z1 => ?_, fun z1 => ?_⟩⟩
    · simpa [z, bI] using h
    · simpa [z, z1, bI] using h
    · simpa [z, z1, bI] using h
  · rw [if_neg q, if_pos q1] at h
    refine ⟨fun z => ?_, fun z => ?_⟩
    · simpa [z, bI] using h
    · simpa [z, bI] using h
  · rw [if_neg q, if_neg q1] at h
    refine X12_numberOf_ok _ _ ?_
    simp only [lgc]
    refine ⟨fun z => ?_, fun z => ?_⟩
    · simpa [z, bI] using h
    · simpa [z, bI] using h
set_option maxRecDepth 100000 in
set_option maxHeartbeats 4000000 in
theorem X12_isRow_ok {g : Ge} {w : Wd} {k n : Nat} {K : Int32 → Wd → Nat → Nat → Prop} {m : Nat} (hm : MS g m w) (s : Nat) (hs : s < 8) (h : K (b2i (0 ≤ wI w (m + 1) s ∧ wI w (m + 1) s ≤ 7)) w k n) : cI g mX12_isRow [.ref m, .int (nI s)] w k n K := by
  refine cI_of 2 0 0 rfl (by decide +kernel) rfl (Nat.le_of_ble_eq_true rfl) (Nat.zero_le _) (Nat.zero_le _) ?_
  simp only [vX12_isRow_0, vX12_isRow_1, vX12_isRow_4, vX12_isRow_5, vX12_isRow_6, vX12_isRow_7, vX12_isRow_9, vX12_isRow_12, ms_o hm, ms_b hm, ms_0 hm, mp_slot hm, ms_slot hm, pI_c, pL_c, pF_c, pD_c, pA_n, pA_c, pA_rf, pR_c, pR_rf, pV_i, pV_a, pV_n, pV_rf, ldI_c, ldL_c, ldF_c, ldD_c, ldA_c, ldA_n, ldA_rf, dup2_l, dup2_ia, dup2_ir, popA_0, popA_s, getL_z, getL_s, setL_z, setL_1, setL_s, setL2_z, setL2_1, setL2_s, drop2_i, drop2_a, drop2_0, drop2_n, drop2_l, drop2_d, drop2_r, cwd_0, cwd_i, cwd_a, cwd_n, cwd_l, cwd_d, cwd_f, cwd_r, rf_s, rf_n, swi_0, swi_s, zR_b0, zR_b1, zN_b0, zN_b1, entV_i, entV_a, entV_n, entV_r, entV_f, entV_l, entV_d, entV_s, entV_0, List.length_cons, List.length_nil, List.nil_append, List.cons_append, true_and, and_true, Nat.reduceAdd, Nat.reduceLT, Nat.reduceEqDiff, Nat.reduceLeDiff, Nat.reduceSub, Nat.zero_add, Classical.not_not, ex_i, ex_l, ex_d, ex_r, ex_rs, ex_rn, ex_sm, Nat.sub_zero, eq_self, wn_sI, wn_sL, wn_sP, wsh_sI, wsh_sL, wsh_sP, wI_sL, wI_sP, wL_sI, wL_sP, wP_sI, wP_sL, wI_sI, wL_sL, Int32.reduceLT, Int32.reduceLE, true_implies, not_true_eq_false, false_implies, not_false_eq_true, i_10]
  simp (disch := omega) only [ni_in, ni_cl, true_and]
  refine X12_within_ok _ _ _ ?_
  simp only [vX12_isRow_0, vX12_isRow_1, vX12_isRow_4, vX12_isRow_5, vX12_isRow_6, vX12_isRow_7, vX12_isRow_9, vX12_isRow_12, pI_c, pL_c, pF_c, pD_c, pA_n, pA_c, pA_rf, pR_c, pR_rf, pV_i, pV_a, pV_n, pV_rf, ldI_c, ldL_c, ldF_c, ldD_c, ldA_c, ldA_n, ldA_rf, dup2_l, dup2_ia, dup2_ir, popA_0, popA_s, getL_z, getL_s, setL_z, setL_1, setL_s, setL2_z, setL2_1, setL2_s, drop2_i, drop2_a, drop2_0, drop2_n, drop2_l, drop2_d, drop2_r, cwd_0, cwd_i, cwd_a, cwd_n, cwd_l, cwd_d, cwd_f, cwd_r, rf_s, rf_n, swi_0, swi_s, zR_b0, zR_b1, zN_b0, zN_b1, entV_i, entV_a, entV_n, entV_r, entV_f, entV_l, entV_d, entV_s, entV_0, List.length_cons, List.length_nil, List.nil_append, List.cons_append, true_and, and_true, Nat.reduceAdd, Nat.reduceLT, Nat.reduceEqDiff, Nat.reduceLeDiff, Nat.reduceSub, Nat.zero_add, Classical.not_not, ex_i, ex_l, ex_d, ex_r, ex_rs, ex_rn, ex_sm, Nat.sub_zero, eq_self, wn_sI, wn_sL, wn_sP, wsh_sI, wsh_sL, wsh_sP, wI_sL, wI_sP, wL_sI, wL_sP, wP_sI, wP_sL, wI_sI, wL_sL, Int32.reduceLT, Int32.reduceLE, true_implies, not_true_eq_false, false_implies, not_false_eq_true, i_10, zR_b2i]
  exact h
/-- what refuses a cell by a view -/
def barV (sl rk rs i v : Int32) : Int32 := if sl = -1 then -11 else if sl = 9 ∨ (¬ v = 8 ∧ rk = 8) then -12 else if ¬ (0 ≤ i ∧ i ≤ rs - 1) then -13 else if v = 8 ∨ wds rk v = true then 0 else -12
/-- what a slot may hold -/
def sl_ok (v : Int32) : Prop := v = -1 ∨ v = 9 ∨ ∃ r, r < 8 ∧ v = nI r
set_option maxRecDepth 100000 in
set_option maxHeartbeats 4000000 in
theorem X12_bars_ok {g : Ge} {w : Wd} {k n : Nat} {K : Int32 → Wd → Nat → Nat → Prop} {m : Nat} (hm : MS g m w) (s : Nat) (hs : s < 8) (i v : Int32) (hsl : sl_ok (wI w (m + 1) s)) (h : K (barV (wI w (m + 1) s) (wI w (m + 2) (wI w (m + 1) s).toNatClampNeg) (wI w (m + 3) (wI w (m + 1) s).toNatClampNeg) i v) w k n) : cI g mX12_bars [.ref m, .int (nI s), .int i, .int v] w k n K := by
  refine cI_of 5 0 0 rfl (by decide +kernel) rfl (Nat.le_of_ble_eq_true rfl) (Nat.zero_le _) (Nat.zero_le _) ?_
  simp only [vX12_bars_0, vX12_bars_1, vX12_bars_4, vX12_bars_5, vX12_bars_6, vX12_bars_8, vX12_bars_10, vX12_bars_11, vX12_bars_14, vX12_bars_16, vX12_bars_17, vX12_bars_19, vX12_bars_21, vX12_bars_24, vX12_bars_25, vX12_bars_27, vX12_bars_30, vX12_bars_31, vX12_bars_34, vX12_bars_36, vX12_bars_37, vX12_bars_39, vX12_bars_42, vX12_bars_44, vX12_bars_45, vX12_bars_46, vX12_bars_47, vX12_bars_48, vX12_bars_51, vX12_bars_53, vX12_bars_54, vX12_bars_55, vX12_bars_56, vX12_bars_59, vX12_bars_62, vX12_bars_64, vX12_bars_65, vX12_bars_66, vX12_bars_68, vX12_bars_71, vX12_bars_72, vX12_bars_75, vX12_bars_77, vX12_bars_78, vX12_bars_79, vX12_bars_82, vX12_bars_85, vX12_bars_86, vX12_bars_89, vX12_bars_91, ms_o hm, ms_b hm, ms_0 hm, mp_slot hm, ms_slot hm, mp_rowKind hm, ms_rowKind hm, mp_rowSize hm, ms_rowSize hm, pI_c, pL_c, pF_c, pD_c, pA_n, pA_c, pA_rf, pR_c, pR_rf, pV_i, pV_a, pV_n, pV_rf, ldI_c, ldL_c, ldF_c, ldD_c, ldA_c, ldA_n, ldA_rf, dup2_l, dup2_ia, dup2_ir, popA_0, popA_s, getL_z, getL_s, setL_z, setL_1, setL_s, setL2_z, setL2_1, setL2_s, drop2_i, drop2_a, drop2_0, drop2_n, drop2_l, drop2_d, drop2_r, cwd_0, cwd_i, cwd_a, cwd_n, cwd_l, cwd_d, cwd_f, cwd_r, rf_s, rf_n, swi_0, swi_s, zR_b0, zR_b1, zN_b0, zN_b1, entV_i, entV_a, entV_n, entV_r, entV_f, entV_l, entV_d, entV_s, entV_0, List.length_cons, List.length_nil, List.nil_append, List.cons_append, true_and, and_true, Nat.reduceAdd, Nat.reduceLT, Nat.reduceEqDiff, Nat.reduceLeDiff, Nat.reduceSub, Nat.zero_add, Classical.not_not, ex_i, ex_l, ex_d, ex_r, ex_rs, ex_rn, ex_sm, Nat.sub_zero, eq_self, wn_sI, wn_sL, wn_sP, wsh_sI, wsh_sL, wsh_sP, wI_sL, wI_sP, wL_sI, wL_sP, wP_sI, wP_sL, wI_sI, wL_sL, Int32.reduceLT, Int32.reduceLE, true_implies, not_true_eq_false, false_implies, not_false_eq_true, i_10]
  simp (disch := omega) only [ni_in, ni_cl, true_and]
  revert h hsl
  generalize wI w (m + 1) s = sl
  intro hsl h
  unfold barV at h
  trace_state
  sorry
