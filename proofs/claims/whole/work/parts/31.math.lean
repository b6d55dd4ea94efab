/-! numbers, as the reference has them -/
def wds (a b : Int32) : Bool := if a = b then true else if a = 1 then decide (3 ≤ b ∧ b ≤ 7) else if a = 2 then decide (4 ≤ b ∧ b ≤ 7) else if a = 3 then decide (4 ≤ b ∧ b ≤ 7) else if a = 4 then decide (5 ≤ b ∧ b ≤ 7) else if a = 5 then decide (6 ≤ b ∧ b ≤ 7) else if a = 6 then decide (b = 7) else false
def numOf (kd : Int32) (v : Int64) : Int64 := if kd = 0 then (if v = 0 then 0 else 1) else if kd = 1 then v.toInt32.toInt8.toInt32.toInt64 else if kd = 2 then (v.toInt32.toUInt32 % 65536).toInt32.toInt64 else if kd = 3 then v.toInt32.toInt16.toInt32.toInt64 else if kd = 4 then v.toInt32.toInt64 else if kd = 5 then v else if kd = 6 then (FP.l2f v).toInt32.toInt64 else (FP.l2d v).toInt64
def wdn (a : Int32) (v : Int64) (b : Int32) : Int64 := if a = b then v else if a = 6 then (FP.f2d v.toInt32.toUInt32).toInt64 else numOf b v
def isVal (kd : Int32) (v : Int64) : Bool := if kd = 6 then decide (v = v.toInt32.toInt64 ∧ ¬ (v >>> ((23 : Int32).toInt64 &&& 63)) &&& 255 = 255) else if kd = 7 then decide (¬ (v >>> ((52 : Int32).toInt64 &&& 63)) &&& 2047 = 2047) else decide (numOf kd v = v)
def bI (b : Bool) : Int32 := if b = true then 1 else 0
theorem bI_t : bI true = 1 := rfl
theorem bI_f : bI false = 0 := rfl
theorem bI_z (b : Bool) : (bI b = 0) = (b = false) := by cases b <;> decide
theorem zR_bI (b : Bool) : zR .boolean (bI b) = True := by cases b; exact zR_b0; exact zR_b1
theorem b2i_bI (p : Prop) [Decidable p] : b2i p = bI (decide p) := by
  unfold b2i bI
  by_cases h : p <;> simp [h]
theorem lgc0 (v : Int64) : (lg_cmp v 0 = 0) = (v = 0) := by
  unfold lg_cmp
  apply propext
  by_cases h1 : v > 0
  · simp only [h1, if_true]
    constructor
    · intro h; cases h
    · intro h; rw [h] at h1; exact absurd h1 (by decide)
  · by_cases h2 : v = 0
    · simp [h2]
    · simp only [h1, h2, if_false]
      constructor
      · intro h; cases h
      · intro h; cases h
theorem lgc (v u : Int64) : (lg_cmp v u = 0) = (v = u) := by
  unfold lg_cmp
  apply propext
  by_cases h2 : v = u
  · subst h2
    have : ¬ v > v := by simp [Int64.lt_iff_toInt_lt]
    simp [this]
  · by_cases h1 : v > u
    · simp only [h1, if_true, h2, iff_false]
      decide
    · simp only [h1, h2, if_false, iff_false]
      decide
set_option maxRecDepth 100000 in
set_option maxHeartbeats 4000000 in
theorem X12_isVersion_ok {g : Ge} {w : Wd} {k n : Nat} {K : Int32 → Wd → Nat → Nat → Prop} (v : Int32) (h : K (b2i (0 ≤ v ∧ v ≤ 5)) w k n) : cI g mX12_isVersion [.int v] w k n K := by
  refine cI_of 1 0 0 rfl (by decide +kernel) rfl (Nat.le_of_ble_eq_true rfl) (Nat.zero_le _) (Nat.zero_le _) ?_
  simp only [vX12_isVersion_0, vX12_isVersion_1, vX12_isVersion_2, vX12_isVersion_3, vX12_isVersion_6, pI_c, pL_c, pF_c, pD_c, pA_n, pA_c, pA_rf, pR_c, pR_rf, pV_i, pV_a, pV_n, pV_rf, ldI_c, ldL_c, ldF_c, ldD_c, ldA_c, ldA_n, ldA_rf, dup2_l, dup2_ia, dup2_ir, popA_0, popA_s, getL_z, getL_s, setL_z, setL_1, setL_s, setL2_z, setL2_1, setL2_s, drop2_i, drop2_a, drop2_0, drop2_n, drop2_l, drop2_d, drop2_r, cwd_0, cwd_i, cwd_a, cwd_n, cwd_l, cwd_d, cwd_f, cwd_r, rf_s, rf_n, swi_0, swi_s, zR_b0, zR_b1, zN_b0, zN_b1, entV_i, entV_a, entV_n, entV_r, entV_f, entV_l, entV_d, entV_s, entV_0, List.length_cons, List.length_nil, List.nil_append, List.cons_append, true_and, and_true, Nat.reduceAdd, Nat.reduceLT, Nat.reduceEqDiff, Nat.reduceLeDiff, Nat.reduceSub, Nat.zero_add, Classical.not_not, ex_i, ex_l, ex_d, ex_r, ex_rs, ex_rn, ex_sm, Nat.sub_zero, eq_self, wn_sI, wn_sL, wn_sP, wsh_sI, wsh_sL, wsh_sP, wI_sL, wI_sP, wL_sI, wL_sP, wP_sI, wP_sL, wI_sI, wL_sL, Int32.reduceLT, Int32.reduceLE, true_implies, not_true_eq_false, false_implies, not_false_eq_true, i_10]
  refine X12_within_ok _ _ _ ?_
  simp only [zR_b2i, pI_c, pL_c, pF_c, pD_c, pA_n, pA_c, pA_rf, pR_c, pR_rf, pV_i, pV_a, pV_n, pV_rf, ldI_c, ldL_c, ldF_c, ldD_c, ldA_c, ldA_n, ldA_rf, dup2_l, dup2_ia, dup2_ir, popA_0, popA_s, getL_z, getL_s, setL_z, setL_1, setL_s, setL2_z, setL2_1, setL2_s, drop2_i, drop2_a, drop2_0, drop2_n, drop2_l, drop2_d, drop2_r, cwd_0, cwd_i, cwd_a, cwd_n, cwd_l, cwd_d, cwd_f, cwd_r, rf_s, rf_n, swi_0, swi_s, zR_b0, zR_b1, zN_b0, zN_b1, entV_i, entV_a, entV_n, entV_r, entV_f, entV_l, entV_d, entV_s, entV_0, List.length_cons, List.length_nil, List.nil_append, List.cons_append, true_and, and_true, Nat.reduceAdd, Nat.reduceLT, Nat.reduceEqDiff, Nat.reduceLeDiff, Nat.reduceSub, Nat.zero_add, Classical.not_not, ex_i, ex_l, ex_d, ex_r, ex_rs, ex_rn, ex_sm, Nat.sub_zero, eq_self, wn_sI, wn_sL, wn_sP, wsh_sI, wsh_sL, wsh_sP, wI_sL, wI_sP, wL_sI, wL_sP, wP_sI, wP_sL, wI_sI, wL_sL, Int32.reduceLT, Int32.reduceLE, true_implies, not_true_eq_false, false_implies, not_false_eq_true, i_10]
  exact h
set_option maxRecDepth 100000 in
set_option maxHeartbeats 4000000 in
theorem X12_isWhole_ok {g : Ge} {w : Wd} {k n : Nat} {K : Int32 → Wd → Nat → Nat → Prop} (v : Int32) (h : K (b2i (1 ≤ v ∧ v ≤ 5)) w k n) : cI g mX12_isWhole [.int v] w k n K := by
  refine cI_of 1 0 0 rfl (by decide +kernel) rfl (Nat.le_of_ble_eq_true rfl) (Nat.zero_le _) (Nat.zero_le _) ?_
  simp only [vX12_isWhole_0, vX12_isWhole_1, vX12_isWhole_2, vX12_isWhole_3, vX12_isWhole_6, pI_c, pL_c, pF_c, pD_c, pA_n, pA_c, pA_rf, pR_c, pR_rf, pV_i, pV_a, pV_n, pV_rf, ldI_c, ldL_c, ldF_c, ldD_c, ldA_c, ldA_n, ldA_rf, dup2_l, dup2_ia, dup2_ir, popA_0, popA_s, getL_z, getL_s, setL_z, setL_1, setL_s, setL2_z, setL2_1, setL2_s, drop2_i, drop2_a, drop2_0, drop2_n, drop2_l, drop2_d, drop2_r, cwd_0, cwd_i, cwd_a, cwd_n, cwd_l, cwd_d, cwd_f, cwd_r, rf_s, rf_n, swi_0, swi_s, zR_b0, zR_b1, zN_b0, zN_b1, entV_i, entV_a, entV_n, entV_r, entV_f, entV_l, entV_d, entV_s, entV_0, List.length_cons, List.length_nil, List.nil_append, List.cons_append, true_and, and_true, Nat.reduceAdd, Nat.reduceLT, Nat.reduceEqDiff, Nat.reduceLeDiff, Nat.reduceSub, Nat.zero_add, Classical.not_not, ex_i, ex_l, ex_d, ex_r, ex_rs, ex_rn, ex_sm, Nat.sub_zero, eq_self, wn_sI, wn_sL, wn_sP, wsh_sI, wsh_sL, wsh_sP, wI_sL, wI_sP, wL_sI, wL_sP, wP_sI, wP_sL, wI_sI, wL_sL, Int32.reduceLT, Int32.reduceLE, true_implies, not_true_eq_false, false_implies, not_false_eq_true, i_10]
  refine X12_within_ok _ _ _ ?_
  simp only [zR_b2i, pI_c, pL_c, pF_c, pD_c, pA_n, pA_c, pA_rf, pR_c, pR_rf, pV_i, pV_a, pV_n, pV_rf, ldI_c, ldL_c, ldF_c, ldD_c, ldA_c, ldA_n, ldA_rf, dup2_l, dup2_ia, dup2_ir, popA_0, popA_s, getL_z, getL_s, setL_z, setL_1, setL_s, setL2_z, setL2_1, setL2_s, drop2_i, drop2_a, drop2_0, drop2_n, drop2_l, drop2_d, drop2_r, cwd_0, cwd_i, cwd_a, cwd_n, cwd_l, cwd_d, cwd_f, cwd_r, rf_s, rf_n, swi_0, swi_s, zR_b0, zR_b1, zN_b0, zN_b1, entV_i, entV_a, entV_n, entV_r, entV_f, entV_l, entV_d, entV_s, entV_0, List.length_cons, List.length_nil, List.nil_append, List.cons_append, true_and, and_true, Nat.reduceAdd, Nat.reduceLT, Nat.reduceEqDiff, Nat.reduceLeDiff, Nat.reduceSub, Nat.zero_add, Classical.not_not, ex_i, ex_l, ex_d, ex_r, ex_rs, ex_rn, ex_sm, Nat.sub_zero, eq_self, wn_sI, wn_sL, wn_sP, wsh_sI, wsh_sL, wsh_sP, wI_sL, wI_sP, wL_sI, wL_sP, wP_sI, wP_sL, wI_sI, wL_sL, Int32.reduceLT, Int32.reduceLE, true_implies, not_true_eq_false, false_implies, not_false_eq_true, i_10]
  exact h
set_option maxRecDepth 100000 in
set_option maxHeartbeats 4000000 in
theorem X12_widens_ok {g : Ge} {w : Wd} {k n : Nat} {K : Int32 → Wd → Nat → Nat → Prop} (a b : Int32) (h : K (bI (wds a b)) w k n) : cI g mX12_widens [.int a, .int b] w k n K := by
  refine cI_of 2 0 0 rfl (by decide +kernel) rfl (Nat.le_of_ble_eq_true rfl) (Nat.zero_le _) (Nat.zero_le _) ?_
  simp only [vX12_widens_0, vX12_widens_1, vX12_widens_2, vX12_widens_5, vX12_widens_6, vX12_widens_7, vX12_widens_8, vX12_widens_48, vX12_widens_49, vX12_widens_50, vX12_widens_52, vX12_widens_55, vX12_widens_56, vX12_widens_57, vX12_widens_58, vX12_widens_60, vX12_widens_63, vX12_widens_64, vX12_widens_65, vX12_widens_66, vX12_widens_68, vX12_widens_71, vX12_widens_72, vX12_widens_73, vX12_widens_75, vX12_widens_77, vX12_widens_80, vX12_widens_81, vX12_widens_82, vX12_widens_84, vX12_widens_87, vX12_widens_88, vX12_widens_91, vX12_widens_92, vX12_widens_93, vX12_widens_94, pI_c, pL_c, pF_c, pD_c, pA_n, pA_c, pA_rf, pR_c, pR_rf, pV_i, pV_a, pV_n, pV_rf, ldI_c, ldL_c, ldF_c, ldD_c, ldA_c, ldA_n, ldA_rf, dup2_l, dup2_ia, dup2_ir, popA_0, popA_s, getL_z, getL_s, setL_z, setL_1, setL_s, setL2_z, setL2_1, setL2_s, drop2_i, drop2_a, drop2_0, drop2_n, drop2_l, drop2_d, drop2_r, cwd_0, cwd_i, cwd_a, cwd_n, cwd_l, cwd_d, cwd_f, cwd_r, rf_s, rf_n, swi_0, swi_s, zR_b0, zR_b1, zN_b0, zN_b1, entV_i, entV_a, entV_n, entV_r, entV_f, entV_l, entV_d, entV_s, entV_0, List.length_cons, List.length_nil, List.nil_append, List.cons_append, true_and, and_true, Nat.reduceAdd, Nat.reduceLT, Nat.reduceEqDiff, Nat.reduceLeDiff, Nat.reduceSub, Nat.zero_add, Classical.not_not, ex_i, ex_l, ex_d, ex_r, ex_rs, ex_rn, ex_sm, Nat.sub_zero, eq_self, wn_sI, wn_sL, wn_sP, wsh_sI, wsh_sL, wsh_sP, wI_sL, wI_sP, wL_sI, wL_sP, wP_sI, wP_sL, wI_sI, wL_sL, Int32.reduceLT, Int32.reduceLE, true_implies, not_true_eq_false, false_implies, not_false_eq_true, i_10]
  refine ⟨fun h0 => ⟨fun h1 => ?_, fun h1 => ⟨fun h2 => ?_, fun h2 => ⟨fun h3 => ?_, fun h3 => ⟨fun h4 => ?_, fun h4 => ⟨fun h5 => ?_, fun h5 => ⟨fun h6 => ⟨fun h7 => ?_, fun h7 => ?_⟩, fun h6 => ?_⟩⟩⟩⟩⟩⟩, fun h0 => ?_⟩
  all_goals first | (refine X12_within_ok _ _ _ ?_; simp only [zR_b2i, pI_c, pL_c, pF_c, pD_c, pA_n, pA_c, pA_rf, pR_c, pR_rf, pV_i, pV_a, pV_n, pV_rf, ldI_c, ldL_c, ldF_c, ldD_c, ldA_c, ldA_n, ldA_rf, dup2_l, dup2_ia, dup2_ir, popA_0, popA_s, getL_z, getL_s, setL_z, setL_1, setL_s, setL2_z, setL2_1, setL2_s, drop2_i, drop2_a, drop2_0, drop2_n, drop2_l, drop2_d, drop2_r, cwd_0, cwd_i, cwd_a, cwd_n, cwd_l, cwd_d, cwd_f, cwd_r, rf_s, rf_n, swi_0, swi_s, zR_b0, zR_b1, zN_b0, zN_b1, entV_i, entV_a, entV_n, entV_r, entV_f, entV_l, entV_d, entV_s, entV_0, List.length_cons, List.length_nil, List.nil_append, List.cons_append, true_and, and_true, Nat.reduceAdd, Nat.reduceLT, Nat.reduceEqDiff, Nat.reduceLeDiff, Nat.reduceSub, Nat.zero_add, Classical.not_not, ex_i, ex_l, ex_d, ex_r, ex_rs, ex_rn, ex_sm, Nat.sub_zero, eq_self, wn_sI, wn_sL, wn_sP, wsh_sI, wsh_sL, wsh_sP, wI_sL, wI_sP, wL_sI, wL_sP, wP_sI, wP_sL, wI_sI, wL_sL, Int32.reduceLT, Int32.reduceLE, true_implies, not_true_eq_false, false_implies, not_false_eq_true, i_10]; simp only [b2i_bI]) | skip
  · rw [wds, if_neg h0, if_pos h1] at h; exact h
  · rw [wds, if_neg h0, if_neg h1, if_pos h2] at h; exact h
  · rw [wds, if_neg h0, if_neg h1, if_neg h2, if_pos h3] at h; exact h
  · rw [wds, if_neg h0, if_neg h1, if_neg h2, if_neg h3, if_pos h4] at h; exact h
  · rw [wds, if_neg h0, if_neg h1, if_neg h2, if_neg h3, if_neg h4, if_pos h5] at h; exact h
  · rw [wds, if_neg h0, if_neg h1, if_neg h2, if_neg h3, if_neg h4, if_neg h5, if_pos h6, decide_eq_false h7] at h; exact h
  · rw [wds, if_neg h0, if_neg h1, if_neg h2, if_neg h3, if_neg h4, if_neg h5, if_pos h6, decide_eq_true h7] at h; exact h
  · rw [wds, if_neg h0, if_neg h1, if_neg h2, if_neg h3, if_neg h4, if_neg h5, if_neg h6] at h; exact h
  · rw [wds, if_pos h0] at h; exact h
theorem iv7 (x : UInt64) : isVal 7 x.toInt64 = true ↔ FP.Core.DFin x := by
  rw [fin_e64]
  unfold isVal
  rw [if_neg (by decide), if_pos rfl, decide_eq_true_iff]
theorem iv6 {v : Int64} (h : isVal 6 v = true) : FP.Core.FFin v.toInt32.toUInt32 := by
  unfold isVal at h
  rw [if_pos rfl, decide_eq_true_iff] at h
  rw [fin_e32, show v.toInt32.toUInt32.toInt32 = v.toInt32 from rfl, ← h.1]
  exact h.2
theorem iv6' (r : UInt32) : isVal 6 r.toInt32.toInt64 = true ↔ FP.Core.FFin r := by
  rw [fin_e32]
  unfold isVal
  rw [if_pos rfl, decide_eq_true_iff, Int32.toInt32_toInt64]
  exact ⟨fun h => h.2, fun h => ⟨rfl, h⟩⟩
theorem nan64 {x : UInt64} (h : vf_n64 x) : (Op.cmpValue (FP.dcmp x x) CmpOp.l = 0) := fz_nan64 h
set_option maxRecDepth 100000 in
set_option maxHeartbeats 4000000 in
theorem Jd_isNaN_ok {g : Ge} {w : Wd} {k n : Nat} {K : Int32 → Wd → Nat → Nat → Prop} (x : UInt64) (hx : vf_n64 x) (h : K 0 w k n) : cI g mJxe99ae_isNaN_b9ae7 [.double x] w k n K := by
  refine cI_of 2 0 0 rfl (by decide +kernel) rfl (Nat.le_of_ble_eq_true rfl) (Nat.zero_le _) (Nat.zero_le _) ?_
  simp only [vJxe99ae_isNaN_b9ae7_0, vJxe99ae_isNaN_b9ae7_1, vJxe99ae_isNaN_b9ae7_2, vJxe99ae_isNaN_b9ae7_3, vJxe99ae_isNaN_b9ae7_6, vJxe99ae_isNaN_b9ae7_7, vJxe99ae_isNaN_b9ae7_10, vJxe99ae_isNaN_b9ae7_11, pI_c, pL_c, pF_c, pD_c, pA_n, pA_c, pA_rf, pR_c, pR_rf, pV_i, pV_a, pV_n, pV_rf, ldI_c, ldL_c, ldF_c, ldD_c, ldA_c, ldA_n, ldA_rf, dup2_l, dup2_ia, dup2_ir, popA_0, popA_s, getL_z, getL_s, setL_z, setL_1, setL_s, setL2_z, setL2_1, setL2_s, drop2_i, drop2_a, drop2_0, drop2_n, drop2_l, drop2_d, drop2_r, cwd_0, cwd_i, cwd_a, cwd_n, cwd_l, cwd_d, cwd_f, cwd_r, rf_s, rf_n, swi_0, swi_s, zR_b0, zR_b1, zN_b0, zN_b1, entV_i, entV_a, entV_n, entV_r, entV_f, entV_l, entV_d, entV_s, entV_0, List.length_cons, List.length_nil, List.nil_append, List.cons_append, true_and, and_true, Nat.reduceAdd, Nat.reduceLT, Nat.reduceEqDiff, Nat.reduceLeDiff, Nat.reduceSub, Nat.zero_add, Classical.not_not, ex_i, ex_l, ex_d, ex_r, ex_rs, ex_rn, ex_sm, Nat.sub_zero, eq_self, wn_sI, wn_sL, wn_sP, wsh_sI, wsh_sL, wsh_sP, wI_sL, wI_sP, wL_sI, wL_sP, wP_sI, wP_sL, wI_sI, wL_sL, Int32.reduceLT, Int32.reduceLE, true_implies, not_true_eq_false, false_implies, not_false_eq_true, i_10]
  exact ⟨fun _ => h, fun q => absurd (nan64 hx) q⟩
set_option maxRecDepth 100000 in
set_option maxHeartbeats 4000000 in
theorem Jd_bits_ok {g : Ge} {w : Wd} {k n : Nat} {K : Int64 → Wd → Nat → Nat → Prop} (x : UInt64) (hx : vf_n64 x) (h : K x.toInt64 w k n) : cL g mJxe99ae_doubleToLongBits_ccdee [.double x] w k n K := by
  refine cL_of 2 0 0 rfl (by decide +kernel) rfl (Nat.le_of_ble_eq_true rfl) (Nat.zero_le _) (Nat.zero_le _) ?_
  simp only [vJxe99ae_doubleToLongBits_ccdee_0, vJxe99ae_doubleToLongBits_ccdee_1, vJxe99ae_doubleToLongBits_ccdee_4, vJxe99ae_doubleToLongBits_ccdee_7, vJxe99ae_doubleToLongBits_ccdee_8, vJxe99ae_doubleToLongBits_ccdee_11, vJxe99ae_doubleToLongBits_ccdee_12, vJxe99ae_doubleToLongBits_ccdee_15, pI_c, pL_c, pF_c, pD_c, pA_n, pA_c, pA_rf, pR_c, pR_rf, pV_i, pV_a, pV_n, pV_rf, ldI_c, ldL_c, ldF_c, ldD_c, ldA_c, ldA_n, ldA_rf, dup2_l, dup2_ia, dup2_ir, popA_0, popA_s, getL_z, getL_s, setL_z, setL_1, setL_s, setL2_z, setL2_1, setL2_s, drop2_i, drop2_a, drop2_0, drop2_n, drop2_l, drop2_d, drop2_r, cwd_0, cwd_i, cwd_a, cwd_n, cwd_l, cwd_d, cwd_f, cwd_r, rf_s, rf_n, swi_0, swi_s, zR_b0, zR_b1, zN_b0, zN_b1, entV_i, entV_a, entV_n, entV_r, entV_f, entV_l, entV_d, entV_s, entV_0, List.length_cons, List.length_nil, List.nil_append, List.cons_append, true_and, and_true, Nat.reduceAdd, Nat.reduceLT, Nat.reduceEqDiff, Nat.reduceLeDiff, Nat.reduceSub, Nat.zero_add, Classical.not_not, ex_i, ex_l, ex_d, ex_r, ex_rs, ex_rn, ex_sm, Nat.sub_zero, eq_self, wn_sI, wn_sL, wn_sP, wsh_sI, wsh_sL, wsh_sP, wI_sL, wI_sP, wL_sI, wL_sP, wP_sI, wP_sL, wI_sI, wL_sL, Int32.reduceLT, Int32.reduceLE, true_implies, not_true_eq_false, false_implies, not_false_eq_true, i_10]
  refine Jd_isNaN_ok x hx ?_
  refine ⟨fun q => absurd rfl q, fun _ => ?_⟩
  simp only [stNat, pI_c, pL_c, pF_c, pD_c, pA_n, pA_c, pA_rf, pR_c, pR_rf, pV_i, pV_a, pV_n, pV_rf, ldI_c, ldL_c, ldF_c, ldD_c, ldA_c, ldA_n, ldA_rf, dup2_l, dup2_ia, dup2_ir, popA_0, popA_s, getL_z, getL_s, setL_z, setL_1, setL_s, setL2_z, setL2_1, setL2_s, drop2_i, drop2_a, drop2_0, drop2_n, drop2_l, drop2_d, drop2_r, cwd_0, cwd_i, cwd_a, cwd_n, cwd_l, cwd_d, cwd_f, cwd_r, rf_s, rf_n, swi_0, swi_s, zR_b0, zR_b1, zN_b0, zN_b1, entV_i, entV_a, entV_n, entV_r, entV_f, entV_l, entV_d, entV_s, entV_0, List.length_cons, List.length_nil, List.nil_append, List.cons_append, true_and, and_true, Nat.reduceAdd, Nat.reduceLT, Nat.reduceEqDiff, Nat.reduceLeDiff, Nat.reduceSub, Nat.zero_add, Classical.not_not, ex_i, ex_l, ex_d, ex_r, ex_rs, ex_rn, ex_sm, Nat.sub_zero, eq_self, wn_sI, wn_sL, wn_sP, wsh_sI, wsh_sL, wsh_sP, wI_sL, wI_sP, wL_sI, wL_sP, wP_sI, wP_sL, wI_sI, wL_sL, Int32.reduceLT, Int32.reduceLE, true_implies, not_true_eq_false, false_implies, not_false_eq_true, i_10]
  refine ⟨⟨by decide, by decide⟩, ?_⟩
  simp only [vJxe99ae_doubleToLongBits_ccdee_0, vJxe99ae_doubleToLongBits_ccdee_1, vJxe99ae_doubleToLongBits_ccdee_4, vJxe99ae_doubleToLongBits_ccdee_7, vJxe99ae_doubleToLongBits_ccdee_8, vJxe99ae_doubleToLongBits_ccdee_11, vJxe99ae_doubleToLongBits_ccdee_12, vJxe99ae_doubleToLongBits_ccdee_15, pI_c, pL_c, pF_c, pD_c, pA_n, pA_c, pA_rf, pR_c, pR_rf, pV_i, pV_a, pV_n, pV_rf, ldI_c, ldL_c, ldF_c, ldD_c, ldA_c, ldA_n, ldA_rf, dup2_l, dup2_ia, dup2_ir, popA_0, popA_s, getL_z, getL_s, setL_z, setL_1, setL_s, setL2_z, setL2_1, setL2_s, drop2_i, drop2_a, drop2_0, drop2_n, drop2_l, drop2_d, drop2_r, cwd_0, cwd_i, cwd_a, cwd_n, cwd_l, cwd_d, cwd_f, cwd_r, rf_s, rf_n, swi_0, swi_s, zR_b0, zR_b1, zN_b0, zN_b1, entV_i, entV_a, entV_n, entV_r, entV_f, entV_l, entV_d, entV_s, entV_0, List.length_cons, List.length_nil, List.nil_append, List.cons_append, true_and, and_true, Nat.reduceAdd, Nat.reduceLT, Nat.reduceEqDiff, Nat.reduceLeDiff, Nat.reduceSub, Nat.zero_add, Classical.not_not, ex_i, ex_l, ex_d, ex_r, ex_rs, ex_rn, ex_sm, Nat.sub_zero, eq_self, wn_sI, wn_sL, wn_sP, wsh_sI, wsh_sL, wsh_sP, wI_sL, wI_sP, wL_sI, wL_sP, wP_sI, wP_sL, wI_sI, wL_sL, Int32.reduceLT, Int32.reduceLE, true_implies, not_true_eq_false, false_implies, not_false_eq_true, i_10]
  exact h
