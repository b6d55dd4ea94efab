/-! the class's Numbers: bits of whole numbers -/
theorem lg_pos (x y : Int64) : (0 < lg_cmp x y) = (y < x) := by
  unfold lg_cmp
  apply propext
  by_cases h1 : y < x
  · rw [if_pos (show x > y from h1)]
    exact ⟨fun _ => h1, fun _ => by decide⟩
  · rw [if_neg (show ¬ x > y from h1)]
    refine ⟨fun h => ?_, fun h => absurd h h1⟩
    split at h <;> exact absurd h (by decide)
theorem lg_nn (x y : Int64) : (0 ≤ lg_cmp x y) = (y ≤ x) := propext (lg_cmp_ge x y)
theorem lN_eq64 {a b : Nat} (ha : a < 2 ^ 64) (hb : b < 2 ^ 64) : (lN a = lN b) = (a = b) := by
  apply propext
  constructor
  · intro h
    have := congrArg (fun x => x.toBitVec.toNat) h
    simpa only [wb_tn ha, wb_tn hb] using this
  · intro h; rw [h]
theorem lN_lt63 {a b : Nat} (ha : a < 2 ^ 63) (hb : b < 2 ^ 63) : (lN a < lN b) = (a < b) := propext (pk_lLT ha hb)
theorem div_ne {a b : Nat} : (¬ a / 2 ^ b = 0) ↔ 2 ^ b ≤ a := by
  have hp : 0 < 2 ^ b := Nat.pow_pos (by decide)
  constructor
  · intro h
    rcases Nat.lt_or_ge a (2 ^ b) with q | q
    · exact absurd (Nat.div_eq_of_lt q) h
    · exact q
  · intro h q
    have := (Nat.le_div_iff_mul_le hp).mpr (show 1 * 2 ^ b ≤ a by omega)
    omega
set_option maxRecDepth 100000 in
set_option maxHeartbeats 4000000 in
theorem X4_topBit_loop {g : Ge} {w : Wd} {k n : Nat} {K : Option Value → Wd → Prop} {a : Nat} (ha : a < 2 ^ 64) (hK : K (some (.int (nI a.log2))) w) : ∀ (b : Nat), b < 64 → a < 2 ^ (b + 1) → R g mX4_topBit K 3 [some (.long (lN a)), none, some (.int (nI b))] [] w k n := by
  intro b
  induction b with
  | zero =>
    intro _ hab
    rw [vX4_topBit_3]
    simp only [vX4_topBit_0, vX4_topBit_2, vX4_topBit_4, vX4_topBit_7, vX4_topBit_8, vX4_topBit_9, vX4_topBit_10, vX4_topBit_11, vX4_topBit_12, vX4_topBit_15, vX4_topBit_16, vX4_topBit_17, vX4_topBit_20, vX4_topBit_23, vX4_topBit_24, pI_c, pL_c, pF_c, pD_c, pA_n, pA_c, pA_rf, pR_c, pR_rf, pV_i, pV_a, pV_n, pV_rf, ldI_c, ldL_c, ldF_c, ldD_c, ldA_c, ldA_n, ldA_rf, dup2_l, dup2_ia, dup2_ir, popA_0, popA_s, getL_z, getL_s, setL_z, setL_1, setL_s, setL2_z, setL2_1, setL2_s, drop2_i, drop2_a, drop2_0, drop2_n, drop2_l, drop2_d, drop2_r, cwd_0, cwd_i, cwd_a, cwd_n, cwd_l, cwd_d, cwd_f, cwd_r, rf_s, rf_n, swi_0, swi_s, zR_b0, zR_b1, zN_b0, zN_b1, entV_i, entV_a, entV_n, entV_r, entV_f, entV_l, entV_d, entV_s, entV_0, List.length_cons, List.length_nil, List.nil_append, List.cons_append, true_and, and_true, Nat.reduceAdd, Nat.reduceLT, Nat.reduceEqDiff, Nat.reduceLeDiff, Nat.reduceSub, Nat.zero_add, Classical.not_not, ex_i, ex_l, ex_d, ex_r, ex_rs, ex_rn, ex_sm, Nat.sub_zero, eq_self, wn_sI, wn_sL, wn_sP, wsh_sI, wsh_sL, wsh_sP, wI_sL, wI_sP, wL_sI, wL_sP, wP_sI, wP_sL, wI_sI, wL_sL, Int32.reduceLT, Int32.reduceLE, true_implies, not_true_eq_false, false_implies, not_false_eq_true, i_10]
    simp (disch := omega) only [ni_lit, ni_le, Nat.le_refl, not_true_eq_false, false_implies, true_implies, and_true]
    have : a.log2 = 0 := by
      have h9 : a = 0 ∨ a = 1 := by omega
      rcases h9 with rfl | rfl <;> decide
    rw [this] at hK
    exact hK
  | succ b ih =>
    intro hb hab
    have h1 : ¬ b + 1 ≤ 0 := by omega
    rw [vX4_topBit_3]
    simp only [vX4_topBit_0, vX4_topBit_2, vX4_topBit_4, vX4_topBit_7, vX4_topBit_8, vX4_topBit_9, vX4_topBit_10, vX4_topBit_11, vX4_topBit_12, vX4_topBit_15, vX4_topBit_16, vX4_topBit_17, vX4_topBit_20, vX4_topBit_23, vX4_topBit_24, pI_c, pL_c, pF_c, pD_c, pA_n, pA_c, pA_rf, pR_c, pR_rf, pV_i, pV_a, pV_n, pV_rf, ldI_c, ldL_c, ldF_c, ldD_c, ldA_c, ldA_n, ldA_rf, dup2_l, dup2_ia, dup2_ir, popA_0, popA_s, getL_z, getL_s, setL_z, setL_1, setL_s, setL2_z, setL2_1, setL2_s, drop2_i, drop2_a, drop2_0, drop2_n, drop2_l, drop2_d, drop2_r, cwd_0, cwd_i, cwd_a, cwd_n, cwd_l, cwd_d, cwd_f, cwd_r, rf_s, rf_n, swi_0, swi_s, zR_b0, zR_b1, zN_b0, zN_b1, entV_i, entV_a, entV_n, entV_r, entV_f, entV_l, entV_d, entV_s, entV_0, List.length_cons, List.length_nil, List.nil_append, List.cons_append, true_and, and_true, Nat.reduceAdd, Nat.reduceLT, Nat.reduceEqDiff, Nat.reduceLeDiff, Nat.reduceSub, Nat.zero_add, Classical.not_not, ex_i, ex_l, ex_d, ex_r, ex_rs, ex_rn, ex_sm, Nat.sub_zero, eq_self, wn_sI, wn_sL, wn_sP, wsh_sI, wsh_sL, wsh_sP, wI_sL, wI_sP, wL_sI, wL_sP, wP_sI, wP_sL, wI_sI, wL_sL, Int32.reduceLT, Int32.reduceLE, true_implies, not_true_eq_false, false_implies, not_false_eq_true, i_10]
    rw [show (nI (b + 1) ≤ 0) = (b + 1 ≤ 0) from ni_le (by omega) (by decide)]
    simp only [h1, not_false_eq_true, false_implies, true_implies, true_and, lgc0]
    rw [wb_shr ha (by omega), show nI (b + 1) + -1 = nI b from pk_m1 b]
    have e0 : (lN (a / 2 ^ (b + 1)) = 0) = (a / 2 ^ (b + 1) = 0) := lN_eq64 (Nat.lt_of_le_of_lt (Nat.div_le_self _ _) ha) (by decide)
    rw [e0]
    refine ⟨fun q => ih (by omega) ?_, fun q => ?_⟩
    · exact Nat.lt_of_not_le fun z => absurd q (div_ne.mpr z)
    · have hl := div_ne.mp q
      have h0 : 0 < a := Nat.lt_of_lt_of_le (Nat.pow_pos (by decide)) hl
      have : a.log2 = b + 1 := by
        have e1 := (Nat.log2_lt (by omega)).mpr hab
        have e2 : ¬ a.log2 < b + 1 := fun z => absurd ((Nat.log2_lt (by omega)).mp z) (by omega)
        omega
      rw [this] at hK
      exact hK
set_option maxRecDepth 100000 in
set_option maxHeartbeats 4000000 in
theorem X4_topBit_ok {g : Ge} {w : Wd} {k n : Nat} {K : Int32 → Wd → Nat → Nat → Prop} {a : Nat} (ha : a < 2 ^ 64) (h : K (nI a.log2) w k n) : cI g mX4_topBit [.long (lN a)] w k n K := by
  refine cI_of 3 0 0 rfl (by decide +kernel) rfl (Nat.le_of_ble_eq_true rfl) (Nat.zero_le _) (Nat.zero_le _) ?_
  simp only [vX4_topBit_0, vX4_topBit_2, vX4_topBit_4, vX4_topBit_7, vX4_topBit_8, vX4_topBit_9, vX4_topBit_10, vX4_topBit_11, vX4_topBit_12, vX4_topBit_15, vX4_topBit_16, vX4_topBit_17, vX4_topBit_20, vX4_topBit_23, vX4_topBit_24, pI_c, pL_c, pF_c, pD_c, pA_n, pA_c, pA_rf, pR_c, pR_rf, pV_i, pV_a, pV_n, pV_rf, ldI_c, ldL_c, ldF_c, ldD_c, ldA_c, ldA_n, ldA_rf, dup2_l, dup2_ia, dup2_ir, popA_0, popA_s, getL_z, getL_s, setL_z, setL_1, setL_s, setL2_z, setL2_1, setL2_s, drop2_i, drop2_a, drop2_0, drop2_n, drop2_l, drop2_d, drop2_r, cwd_0, cwd_i, cwd_a, cwd_n, cwd_l, cwd_d, cwd_f, cwd_r, rf_s, rf_n, swi_0, swi_s, zR_b0, zR_b1, zN_b0, zN_b1, entV_i, entV_a, entV_n, entV_r, entV_f, entV_l, entV_d, entV_s, entV_0, List.length_cons, List.length_nil, List.nil_append, List.cons_append, true_and, and_true, Nat.reduceAdd, Nat.reduceLT, Nat.reduceEqDiff, Nat.reduceLeDiff, Nat.reduceSub, Nat.zero_add, Classical.not_not, ex_i, ex_l, ex_d, ex_r, ex_rs, ex_rn, ex_sm, Nat.sub_zero, eq_self, wn_sI, wn_sL, wn_sP, wsh_sI, wsh_sL, wsh_sP, wI_sL, wI_sP, wL_sI, wL_sP, wP_sI, wP_sL, wI_sI, wL_sL, Int32.reduceLT, Int32.reduceLE, true_implies, not_true_eq_false, false_implies, not_false_eq_true, i_10]
  refine X4_topBit_loop ha ?_ 63 (by decide) ha
  simp only [pI_c, pL_c, pF_c, pD_c, pA_n, pA_c, pA_rf, pR_c, pR_rf, pV_i, pV_a, pV_n, pV_rf, ldI_c, ldL_c, ldF_c, ldD_c, ldA_c, ldA_n, ldA_rf, dup2_l, dup2_ia, dup2_ir, popA_0, popA_s, getL_z, getL_s, setL_z, setL_1, setL_s, setL2_z, setL2_1, setL2_s, drop2_i, drop2_a, drop2_0, drop2_n, drop2_l, drop2_d, drop2_r, cwd_0, cwd_i, cwd_a, cwd_n, cwd_l, cwd_d, cwd_f, cwd_r, rf_s, rf_n, swi_0, swi_s, zR_b0, zR_b1, zN_b0, zN_b1, entV_i, entV_a, entV_n, entV_r, entV_f, entV_l, entV_d, entV_s, entV_0, List.length_cons, List.length_nil, List.nil_append, List.cons_append, true_and, and_true, Nat.reduceAdd, Nat.reduceLT, Nat.reduceEqDiff, Nat.reduceLeDiff, Nat.reduceSub, Nat.zero_add, Classical.not_not, ex_i, ex_l, ex_d, ex_r, ex_rs, ex_rn, ex_sm, Nat.sub_zero, eq_self, wn_sI, wn_sL, wn_sP, wsh_sI, wsh_sL, wsh_sP, wI_sL, wI_sP, wL_sI, wL_sP, wP_sI, wP_sL, wI_sI, wL_sL, Int32.reduceLT, Int32.reduceLE, true_implies, not_true_eq_false, false_implies, not_false_eq_true, i_10]
  exact h
set_option maxRecDepth 100000 in
set_option maxHeartbeats 4000000 in
theorem X4_digitsOf_ok {g : Ge} {w : Wd} {k n : Nat} {K : Int32 → Wd → Nat → Nat → Prop} (x : Int32) (h : K (if x = 6 then 24 else 53) w k n) : cI g mX4_digitsOf [.int x] w k n K := by
  refine cI_of 1 0 0 rfl (by decide +kernel) rfl (Nat.le_of_ble_eq_true rfl) (Nat.zero_le _) (Nat.zero_le _) ?_
  simp only [vX4_digitsOf_0, vX4_digitsOf_1, vX4_digitsOf_3, vX4_digitsOf_6, vX4_digitsOf_8, vX4_digitsOf_11, vX4_digitsOf_13, pI_c, pL_c, pF_c, pD_c, pA_n, pA_c, pA_rf, pR_c, pR_rf, pV_i, pV_a, pV_n, pV_rf, ldI_c, ldL_c, ldF_c, ldD_c, ldA_c, ldA_n, ldA_rf, dup2_l, dup2_ia, dup2_ir, popA_0, popA_s, getL_z, getL_s, setL_z, setL_1, setL_s, setL2_z, setL2_1, setL2_s, drop2_i, drop2_a, drop2_0, drop2_n, drop2_l, drop2_d, drop2_r, cwd_0, cwd_i, cwd_a, cwd_n, cwd_l, cwd_d, cwd_f, cwd_r, rf_s, rf_n, swi_0, swi_s, zR_b0, zR_b1, zN_b0, zN_b1, entV_i, entV_a, entV_n, entV_r, entV_f, entV_l, entV_d, entV_s, entV_0, List.length_cons, List.length_nil, List.nil_append, List.cons_append, true_and, and_true, Nat.reduceAdd, Nat.reduceLT, Nat.reduceEqDiff, Nat.reduceLeDiff, Nat.reduceSub, Nat.zero_add, Classical.not_not, ex_i, ex_l, ex_d, ex_r, ex_rs, ex_rn, ex_sm, Nat.sub_zero, eq_self, wn_sI, wn_sL, wn_sP, wsh_sI, wsh_sL, wsh_sP, wI_sL, wI_sP, wL_sI, wL_sP, wP_sI, wP_sL, wI_sI, wL_sL, Int32.reduceLT, Int32.reduceLE, true_implies, not_true_eq_false, false_implies, not_false_eq_true, i_10]
  refine ⟨fun q => ?_, fun q => ?_⟩
  · rw [if_neg q] at h; exact h
  · rw [if_pos q] at h; exact h
set_option maxRecDepth 100000 in
set_option maxHeartbeats 4000000 in
theorem X4_rounded_neg {g : Ge} {w : Wd} {k n : Nat} {K : Int64 → Wd → Nat → Nat → Prop} {a s : Nat} (hs : s < 64) (h : K (lN (a * 2 ^ s)) w k n) : cL g mX4_rounded [.long (lN a), .int (-(nI s))] w k n K := by
  refine cL_of 10 0 0 rfl (by decide +kernel) rfl (Nat.le_of_ble_eq_true rfl) (Nat.zero_le _) (Nat.zero_le _) ?_
  simp only [vX4_rounded_0, vX4_rounded_1, vX4_rounded_4, vX4_rounded_5, vX4_rounded_6, vX4_rounded_7, vX4_rounded_8, vX4_rounded_9, vX4_rounded_10, vX4_rounded_11, vX4_rounded_12, vX4_rounded_13, vX4_rounded_14, vX4_rounded_15, vX4_rounded_16, vX4_rounded_17, vX4_rounded_18, vX4_rounded_19, vX4_rounded_20, vX4_rounded_22, vX4_rounded_23, vX4_rounded_24, vX4_rounded_25, vX4_rounded_26, vX4_rounded_27, vX4_rounded_29, vX4_rounded_31, vX4_rounded_33, vX4_rounded_34, vX4_rounded_37, vX4_rounded_39, vX4_rounded_41, vX4_rounded_42, vX4_rounded_45, vX4_rounded_46, vX4_rounded_47, vX4_rounded_48, vX4_rounded_49, vX4_rounded_50, vX4_rounded_53, vX4_rounded_54, vX4_rounded_57, vX4_rounded_58, vX4_rounded_60, vX4_rounded_62, vX4_rounded_65, vX4_rounded_66, vX4_rounded_67, vX4_rounded_68, vX4_rounded_71, vX4_rounded_72, pI_c, pL_c, pF_c, pD_c, pA_n, pA_c, pA_rf, pR_c, pR_rf, pV_i, pV_a, pV_n, pV_rf, ldI_c, ldL_c, ldF_c, ldD_c, ldA_c, ldA_n, ldA_rf, dup2_l, dup2_ia, dup2_ir, popA_0, popA_s, getL_z, getL_s, setL_z, setL_1, setL_s, setL2_z, setL2_1, setL2_s, drop2_i, drop2_a, drop2_0, drop2_n, drop2_l, drop2_d, drop2_r, cwd_0, cwd_i, cwd_a, cwd_n, cwd_l, cwd_d, cwd_f, cwd_r, rf_s, rf_n, swi_0, swi_s, zR_b0, zR_b1, zN_b0, zN_b1, entV_i, entV_a, entV_n, entV_r, entV_f, entV_l, entV_d, entV_s, entV_0, List.length_cons, List.length_nil, List.nil_append, List.cons_append, true_and, and_true, Nat.reduceAdd, Nat.reduceLT, Nat.reduceEqDiff, Nat.reduceLeDiff, Nat.reduceSub, Nat.zero_add, Classical.not_not, ex_i, ex_l, ex_d, ex_r, ex_rs, ex_rn, ex_sm, Nat.sub_zero, eq_self, wn_sI, wn_sL, wn_sP, wsh_sI, wsh_sL, wsh_sP, wI_sL, wI_sP, wL_sI, wL_sP, wP_sI, wP_sL, wI_sI, wL_sL, Int32.reduceLT, Int32.reduceLE, true_implies, not_true_eq_false, false_implies, not_false_eq_true, i_10]
  have h0 : ¬ (0 : Int32) < -(nI s) := by
    rw [Int32.lt_iff_toInt_lt, sb_negT (by omega)]
    simp
  have e : -(-(nI s)) = nI s := Int32.neg_neg
  simp only [h0, not_false_eq_true, false_implies, true_implies, true_and, e]
  rw [wb_shl a hs]
  exact h
theorem pow_lt64 {d : Nat} (h : d < 64) : 2 ^ d < 2 ^ 64 := Nat.pow_lt_pow_right (by decide) h
theorem pow_le62 {d : Nat} (h : d ≤ 62) : 2 ^ d ≤ 2 ^ 62 := Nat.pow_le_pow_right (by decide) h
set_option maxRecDepth 100000 in
set_option maxHeartbeats 4000000 in
theorem X4_rounded_pos {g : Ge} {w : Wd} {k n : Nat} {K : Int64 → Wd → Nat → Nat → Prop} {a d : Nat} (ha : a < 2 ^ 64) (h0 : 0 < d) (hd : d ≤ 62) (h : K (lN (FP.Core.nearest a (2 ^ d))) w k n) : cL g mX4_rounded [.long (lN a), .int (nI d)] w k n K := by
  refine cL_of 10 0 0 rfl (by decide +kernel) rfl (Nat.le_of_ble_eq_true rfl) (Nat.zero_le _) (Nat.zero_le _) ?_
  simp only [vX4_rounded_0, vX4_rounded_1, vX4_rounded_4, vX4_rounded_5, vX4_rounded_6, vX4_rounded_7, vX4_rounded_8, vX4_rounded_9, vX4_rounded_10, vX4_rounded_11, vX4_rounded_12, vX4_rounded_13, vX4_rounded_14, vX4_rounded_15, vX4_rounded_16, vX4_rounded_17, vX4_rounded_18, vX4_rounded_19, vX4_rounded_20, vX4_rounded_22, vX4_rounded_23, vX4_rounded_24, vX4_rounded_25, vX4_rounded_26, vX4_rounded_27, vX4_rounded_29, vX4_rounded_31, vX4_rounded_33, vX4_rounded_34, vX4_rounded_37, vX4_rounded_39, vX4_rounded_41, vX4_rounded_42, vX4_rounded_45, vX4_rounded_46, vX4_rounded_47, vX4_rounded_48, vX4_rounded_49, vX4_rounded_50, vX4_rounded_53, vX4_rounded_54, vX4_rounded_57, vX4_rounded_58, vX4_rounded_60, vX4_rounded_62, vX4_rounded_65, vX4_rounded_66, vX4_rounded_67, vX4_rounded_68, vX4_rounded_71, vX4_rounded_72, pI_c, pL_c, pF_c, pD_c, pA_n, pA_c, pA_rf, pR_c, pR_rf, pV_i, pV_a, pV_n, pV_rf, ldI_c, ldL_c, ldF_c, ldD_c, ldA_c, ldA_n, ldA_rf, dup2_l, dup2_ia, dup2_ir, popA_0, popA_s, getL_z, getL_s, setL_z, setL_1, setL_s, setL2_z, setL2_1, setL2_s, drop2_i, drop2_a, drop2_0, drop2_n, drop2_l, drop2_d, drop2_r, cwd_0, cwd_i, cwd_a, cwd_n, cwd_l, cwd_d, cwd_f, cwd_r, rf_s, rf_n, swi_0, swi_s, zR_b0, zR_b1, zN_b0, zN_b1, entV_i, entV_a, entV_n, entV_r, entV_f, entV_l, entV_d, entV_s, entV_0, List.length_cons, List.length_nil, List.nil_append, List.cons_append, true_and, and_true, Nat.reduceAdd, Nat.reduceLT, Nat.reduceEqDiff, Nat.reduceLeDiff, Nat.reduceSub, Nat.zero_add, Classical.not_not, ex_i, ex_l, ex_d, ex_r, ex_rs, ex_rn, ex_sm, Nat.sub_zero, eq_self, wn_sI, wn_sL, wn_sP, wsh_sI, wsh_sL, wsh_sP, wI_sL, wI_sP, wL_sI, wL_sP, wP_sI, wP_sL, wI_sI, wL_sL, Int32.reduceLT, Int32.reduceLE, true_implies, not_true_eq_false, false_implies, not_false_eq_true, i_10]
  have e1 : (0 : Int32) < nI d := by
    have := ni_lt (a := 0) (b := d) (by omega) (by omega)
    exact this.mpr h0
  have hp := pow_le62 hd
  have hd0 : 0 < 2 ^ d := Nat.pow_pos (by decide)
  have e2 : (1 : Int64) <<< ((nI d).toInt64 &&& 63) = lN (2 ^ d) := by
    have := wb_shl 1 (k := d) (by omega)
    rw [Nat.one_mul] at this
    exact this
  have e3 : (1 : Int64) <<< ((nI d - 1).toInt64 &&& 63) = lN (2 ^ (d - 1)) := by
    have e9 : nI d - 1 = nI (d - 1) := by
      obtain ⟨z, rfl⟩ : ∃ z, d = z + 1 := ⟨d - 1, by omega⟩
      exact nI_pred z
    rw [e9]
    have := wb_shl 1 (k := d - 1) (by omega)
    rw [Nat.one_mul] at this
    exact this
  have e4 : lN (2 ^ d) - 1 = lN (2 ^ d - 1) := lN_sub (a := 2 ^ d) (b := 1) hd0
  simp only [e1, true_implies, not_true_eq_false, false_implies, and_true, e2, e3, e4, lg_pos, lgc]
  rw [wb_mask ha (by omega), wb_shr ha (by omega)]
  have hm : a % 2 ^ d < 2 ^ d := Nat.mod_lt _ hd0
  have hhalf : 2 * 2 ^ (d - 1) = 2 ^ d := (pow_pred (by omega)).symm
  have hq : a / 2 ^ d < 2 ^ 64 := Nat.lt_of_le_of_lt (Nat.div_le_self _ _) ha
  rw [lN_lt63 (by omega) (by omega), lN_eq64 (by omega) (by omega), wb_a1 hq]
  rw [show (lN (a / 2 ^ d % 2) = 1) = (a / 2 ^ d % 2 = 1) from lN_eq64 (by omega) (by decide)]
  unfold FP.Core.nearest at h
  refine ⟨fun q => ?_, fun q => ⟨fun q2 => ?_, fun q2 => ⟨fun q3 => ?_, fun q3 => ?_⟩⟩⟩
  · rw [if_neg (by omega), if_pos (by omega)] at h
    rw [lN_1]
    exact h
  · rw [if_pos (by omega)] at h
    exact h
  · rw [if_neg (by omega), if_neg (by omega)] at h
    have : a / 2 ^ d % 2 = 0 := by omega
    rw [this, Nat.add_zero] at h
    exact h
  · rw [if_neg (by omega), if_neg (by omega), q3] at h
    rw [lN_1]
    exact h
