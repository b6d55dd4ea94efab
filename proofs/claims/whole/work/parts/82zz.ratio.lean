/-! the class: doubles of floats, quotients -/
theorem q_sh8 (v : Int64) {t : Nat} (hv : v.toInt = if t < 2 ^ 31 then (t : Int) else (t : Int) - 2 ^ 32) (ht : t < 2 ^ 32) : (v >>> ((23 : Int32).toInt64 &&& 63)) &&& 255 = lN (t / 2 ^ 23 % 256) := by
  have h1 := shr_intz v (c := 23) (by decide)
  rw [show nI 23 = (23 : Int32) from rfl] at h1
  obtain ⟨m, hm, e⟩ := wb_of (v >>> ((23 : Int32).toInt64 &&& 63))
  rw [e] at h1 ⊢
  rw [show (255 : Int64) = lN (256 - 1) from rfl, g_mask (s := 8) (p := 256) rfl (by decide) hm]
  rw [hv, lN_ti hm] at h1
  congr 1
  simp only [Nat.reducePow] at h1 hm ht ⊢
  split at h1 <;> split at h1 <;> omega
theorem q_low (v : Int64) {t : Nat} (hv : v.toInt = if t < 2 ^ 31 then (t : Int) else (t : Int) - 2 ^ 32) (ht : t < 2 ^ 32) : v &&& 8388607 = lN (t % 2 ^ 23) := by
  obtain ⟨m, hm, e⟩ := wb_of v
  rw [e] at hv ⊢
  rw [show (8388607 : Int64) = lN (8388608 - 1) from rfl, g_mask (s := 23) (p := 8388608) rfl (by decide) hm]
  rw [lN_ti hm] at hv
  congr 1
  simp only [Nat.reducePow] at hv hm ht ⊢
  split at hv <;> split at hv <;> omega
theorem f2d_lt {E T : Nat} (hE : E < 255) (hT : T < 2 ^ 23) : f2dM E T < 2 ^ 63 := by
  unfold f2dM
  split
  · split
    · decide
    next h =>
      have hl := log2_lt (t := 23) (by omega) hT
      have h2 := lt_log2 T
      have e53 : 2 ^ (T.log2 + 1) * 2 ^ (52 - T.log2) = 2 ^ 53 := by rw [← Nat.pow_add]; congr 1; omega
      have hp : 0 < 2 ^ (52 - T.log2) := Nat.pow_pos (by decide)
      have c1 : T * 2 ^ (52 - T.log2) < 2 ^ 53 := by rw [← e53]; exact Nat.mul_lt_mul_of_pos_right h2 hp
      simp only [Nat.reducePow] at c1 ⊢
      generalize T * 2 ^ (52 - T.log2) = y at c1 ⊢
      omega
  · simp only [Nat.reducePow] at hT ⊢
    omega
theorem f2d_L {v : Int64} (hv : fin32 v) : (FP.f2d v.toInt32.toUInt32).toInt64 = lN (v.toInt32.toUInt32.toNat / 2 ^ 31 * 2 ^ 63 + f2dM (v.toInt32.toUInt32.toNat / 2 ^ 23 % 256) (v.toInt32.toUInt32.toNat % 2 ^ 23)) := by
  have hf := iv6 hv
  have hl := v.toInt32.toUInt32.toNat_lt
  rw [fz_f2d hf]
  show (UInt64.ofNat (FP.Core.convert FP.Core.b32 FP.Core.b64 v.toInt32.toUInt32.toNat)).toInt64 = _
  rw [f2d_bits hl ?_]
  · rfl
  · have h1 := (FP.Core.fin_bits32 _).mp hf
    simp only [Nat.reducePow] at h1 hl ⊢
    omega
set_option maxRecDepth 100000 in
set_option maxHeartbeats 4000000 in
theorem X4_dOf_ok {g : Ge} {w : Wd} {k n : Nat} {K : Int64 → Wd → Nat → Nat → Prop} (v : Int64) (hv : fin32 v) (h : K (FP.f2d v.toInt32.toUInt32).toInt64 w k n) : cL g mX4_doubleOfFloat [.long v] w k n K := by
  rw [f2d_L hv] at h
  have hv1 : v = v.toInt32.toInt64 := by
    have := hv
    unfold fin32 isVal at this
    rw [if_pos rfl, decide_eq_true_iff] at this
    exact this.1
  have hti : v.toInt = if v.toInt32.toUInt32.toNat < 2 ^ 31 then (v.toInt32.toUInt32.toNat : Int) else (v.toInt32.toUInt32.toNat : Int) - 2 ^ 32 := by
    rw [← u32_ti v.toInt32.toUInt32]
    exact congrArg Int64.toInt hv1
  have hl := v.toInt32.toUInt32.toNat_lt
  have hE : ¬ v.toInt32.toUInt32.toNat / 2 ^ 23 % 256 = 255 := by
    have h1 := (FP.Core.fin_bits32 _).mp (iv6 hv)
    simp only [Nat.reducePow] at h1 hl ⊢
    omega
  generalize v.toInt32.toUInt32.toNat = t at h hti hl hE
  refine cL_of 9 0 0 rfl (by decide +kernel) rfl (Nat.le_of_ble_eq_true rfl) (Nat.zero_le _) (Nat.zero_le _) ?_
  simp only [vX4_doubleOfFloat_0, vX4_doubleOfFloat_1, vX4_doubleOfFloat_2, vX4_doubleOfFloat_3, vX4_doubleOfFloat_6, vX4_doubleOfFloat_9, vX4_doubleOfFloat_12, vX4_doubleOfFloat_13, vX4_doubleOfFloat_14, vX4_doubleOfFloat_15, vX4_doubleOfFloat_17, vX4_doubleOfFloat_18, vX4_doubleOfFloat_21, vX4_doubleOfFloat_22, vX4_doubleOfFloat_24, vX4_doubleOfFloat_25, vX4_doubleOfFloat_28, vX4_doubleOfFloat_29, vX4_doubleOfFloat_31, vX4_doubleOfFloat_33, vX4_doubleOfFloat_34, vX4_doubleOfFloat_35, vX4_doubleOfFloat_38, vX4_doubleOfFloat_39, vX4_doubleOfFloat_41, vX4_doubleOfFloat_44, vX4_doubleOfFloat_45, vX4_doubleOfFloat_48, vX4_doubleOfFloat_49, vX4_doubleOfFloat_51, vX4_doubleOfFloat_52, vX4_doubleOfFloat_53, vX4_doubleOfFloat_55, vX4_doubleOfFloat_57, vX4_doubleOfFloat_58, vX4_doubleOfFloat_59, vX4_doubleOfFloat_60, vX4_doubleOfFloat_62, vX4_doubleOfFloat_63, vX4_doubleOfFloat_64, vX4_doubleOfFloat_67, vX4_doubleOfFloat_68, vX4_doubleOfFloat_69, vX4_doubleOfFloat_71, vX4_doubleOfFloat_74, vX4_doubleOfFloat_76, vX4_doubleOfFloat_77, vX4_doubleOfFloat_79, vX4_doubleOfFloat_81, vX4_doubleOfFloat_83, vX4_doubleOfFloat_85, vX4_doubleOfFloat_86, vX4_doubleOfFloat_87, vX4_doubleOfFloat_89, vX4_doubleOfFloat_92, vX4_doubleOfFloat_93, vX4_doubleOfFloat_96, vX4_doubleOfFloat_97, pI_c, pL_c, pF_c, pD_c, pA_n, pA_c, pA_rf, pR_c, pR_rf, pV_i, pV_a, pV_n, pV_rf, ldI_c, ldL_c, ldF_c, ldD_c, ldA_c, ldA_n, ldA_rf, dup2_l, dup2_ia, dup2_ir, popA_0, popA_s, getL_z, getL_s, setL_z, setL_1, setL_s, setL2_z, setL2_1, setL2_s, drop2_i, drop2_a, drop2_0, drop2_n, drop2_l, drop2_d, drop2_r, cwd_0, cwd_i, cwd_a, cwd_n, cwd_l, cwd_d, cwd_f, cwd_r, rf_s, rf_n, swi_0, swi_s, zR_b0, zR_b1, zN_b0, zN_b1, entV_i, entV_a, entV_n, entV_r, entV_f, entV_l, entV_d, entV_s, entV_0, List.length_cons, List.length_nil, List.nil_append, List.cons_append, true_and, and_true, Nat.reduceAdd, Nat.reduceLT, Nat.reduceEqDiff, Nat.reduceLeDiff, Nat.reduceSub, Nat.zero_add, Classical.not_not, ex_i, ex_l, ex_d, ex_r, ex_rs, ex_rn, ex_sm, Nat.sub_zero, eq_self, wn_sI, wn_sL, wn_sP, wsh_sI, wsh_sL, wsh_sP, wI_sL, wI_sP, wL_sI, wL_sP, wP_sI, wP_sL, wI_sI, wL_sL, Int32.reduceLT, Int32.reduceLE, true_implies, not_true_eq_false, false_implies, not_false_eq_true, i_10, lg_nn, lgc0, q_sh8 v hti hl, q_low v hti hl]
  have hEl : t / 2 ^ 23 % 256 < 255 := by have := Nat.mod_lt (t / 2 ^ 23) (show 0 < 256 by decide); omega
  have hTl : t % 2 ^ 23 < 2 ^ 23 := Nat.mod_lt _ (by decide)
  have hfl := f2d_lt hEl hTl
  generalize t / 2 ^ 23 % 256 = E at h hE hEl hfl ⊢
  generalize t % 2 ^ 23 = T at h hTl hfl ⊢
  have fin : ∀ sg : Int64, (∀ y, y < 2 ^ 63 → sg ||| lN y = lN (t / 2 ^ 31 * 2 ^ 63 + y)) → sg = lN (t / 2 ^ 31 * 2 ^ 63) → ((lN E = 0 → (¬ lN T = 0 → cI g mX4_topBit [.long (lN T)] w 0 0 fun x w' k' n' => cL g mX4_composed [.int 7, .long (lN T <<< ((52 - x).toInt64 &&& 63)), .int (x - 149)] w' k' n' fun x w' k' n' => K (sg ||| x) w' k n) ∧ (lN T = 0 → K sg w k n)) ∧ (¬ lN E = 0 → K (sg ||| (lN E - 127 + 1023) <<< ((52 : Int32).toInt64 &&& 63) ||| lN T <<< ((29 : Int32).toInt64 &&& 63)) w k n)) := by
    intro sg hsg hs0
    rw [show (lN E = 0) = (E = 0) from lN_eq64 (by omega) (by decide), show (lN T = 0) = (T = 0) from lN_eq64 (by simp only [Nat.reducePow] at hTl ⊢; omega) (by decide)]
    refine ⟨fun q => ⟨fun q2 => ?_, fun q2 => ?_⟩, fun q => ?_⟩
    · have y1 : f2dM E T = (T.log2 + 873) * 2 ^ 52 + T * 2 ^ (52 - T.log2) := by
        unfold f2dM
        rw [if_pos q, if_neg q2]
      refine X4_topBit_ok (by simp only [Nat.reducePow] at hTl ⊢; omega) ?_
      have hl2 := log2_lt (t := 23) (by omega) hTl
      refine X4_composed_ok _ _ _ ?_
      rw [show (52 : Int32) = nI 52 from rfl, ni_sub (by omega), wb_shl _ (by omega)]
      have et : (nI T.log2 - 149).toInt = (T.log2 : Int) - 149 := by
        rw [Int32.toInt_sub, ni_ti (by omega), show (2 : Nat) ^ 32 = 4294967296 from rfl, show (149 : Int32).toInt = 149 from rfl, Int.bmod_eq_of_le (by omega) (by omega)]
      rw [cmpd_7 (t := T.log2 + 873) (by omega) (by rw [et]; omega)]
      rw [← y1, hsg _ hfl]
      exact h
    · have y1 : f2dM E T = 0 := by
        unfold f2dM
        rw [if_pos q, if_pos q2]
      rw [y1, Nat.add_zero] at h
      rw [hs0]
      exact h
    · have y1 : f2dM E T = (E + 896) * 2 ^ 52 + T * 2 ^ 29 := by
        unfold f2dM
        rw [if_neg q]
      have e1 : lN E - 127 + 1023 = lN (E + 896) := by
        rw [← lN_add, Int64.sub_eq_add_neg, Int64.add_assoc]
        rfl
      rw [e1, show (52 : Int32) = nI 52 from rfl, show (29 : Int32) = nI 29 from rfl, wb_shl _ (by decide), wb_shl _ (by decide), Int64.or_assoc]
      have g1 : T * 2 ^ 29 < 2 ^ 52 := by
        rw [show 2 ^ 52 = 2 ^ 23 * 2 ^ 29 from Nat.pow_add 2 23 29]
        exact Nat.mul_lt_mul_of_pos_right hTl (by decide)
      rw [g_or (k := 52) (p := 2 ^ 52) (a := T * 2 ^ 29) (b := E + 896) rfl g1 (Nat.lt_trans (y1 ▸ hfl) (by decide)), ← y1, hsg _ hfl]
      exact h
  refine ⟨fun q => fin 0 (fun y hy => ?_) ?_, fun q => fin (-9223372036854775808) (fun y hy => ?_) ?_⟩
  · have ht0 : t / 2 ^ 31 = 0 := by
      rw [Int64.le_iff_toInt_le, show (0 : Int64).toInt = 0 from rfl, hti] at q
      simp only [Nat.reducePow] at q hl ⊢
      split at q <;> omega
    rw [ht0, Int64.zero_or, Nat.zero_mul, Nat.zero_add]
  · have ht0 : t / 2 ^ 31 = 0 := by
      rw [Int64.le_iff_toInt_le, show (0 : Int64).toInt = 0 from rfl, hti] at q
      simp only [Nat.reducePow] at q hl ⊢
      split at q <;> omega
    rw [ht0]
    rfl
  · have ht0 : t / 2 ^ 31 = 1 := by
      rw [Int64.le_iff_toInt_le, show (0 : Int64).toInt = 0 from rfl, hti] at q
      simp only [Nat.reducePow] at q hl ⊢
      split at q <;> omega
    rw [ht0, show (-9223372036854775808 : Int64) = lN (1 * 2 ^ 63) by decide, g_or (k := 63) rfl hy (by simp only [Nat.reducePow] at hy ⊢; omega)]
  · have ht0 : t / 2 ^ 31 = 1 := by
      rw [Int64.le_iff_toInt_le, show (0 : Int64).toInt = 0 from rfl, hti] at q
      simp only [Nat.reducePow] at q hl ⊢
      split at q <;> omega
    rw [ht0]
    decide
set_option maxRecDepth 100000 in
set_option maxHeartbeats 4000000 in
theorem J9_absL_ok {g : Ge} {w : Wd} {k n : Nat} {K : Int64 → Wd → Nat → Nat → Prop} (v : Int64) (h : K (lN v.toInt.natAbs) w k n) : cL g mJ9_abs_067f4 [.long v] w k n K := by
  refine cL_of 2 0 0 rfl (by decide +kernel) rfl (Nat.le_of_ble_eq_true rfl) (Nat.zero_le _) (Nat.zero_le _) ?_
  simp only [vJ9_abs_067f4_0, vJ9_abs_067f4_1, vJ9_abs_067f4_2, vJ9_abs_067f4_3, vJ9_abs_067f4_6, vJ9_abs_067f4_7, vJ9_abs_067f4_8, vJ9_abs_067f4_11, vJ9_abs_067f4_12, pI_c, pL_c, pF_c, pD_c, pA_n, pA_c, pA_rf, pR_c, pR_rf, pV_i, pV_a, pV_n, pV_rf, ldI_c, ldL_c, ldF_c, ldD_c, ldA_c, ldA_n, ldA_rf, dup2_l, dup2_ia, dup2_ir, popA_0, popA_s, getL_z, getL_s, setL_z, setL_1, setL_s, setL2_z, setL2_1, setL2_s, drop2_i, drop2_a, drop2_0, drop2_n, drop2_l, drop2_d, drop2_r, cwd_0, cwd_i, cwd_a, cwd_n, cwd_l, cwd_d, cwd_f, cwd_r, rf_s, rf_n, swi_0, swi_s, zR_b0, zR_b1, zN_b0, zN_b1, entV_i, entV_a, entV_n, entV_r, entV_f, entV_l, entV_d, entV_s, entV_0, List.length_cons, List.length_nil, List.nil_append, List.cons_append, true_and, and_true, Nat.reduceAdd, Nat.reduceLT, Nat.reduceEqDiff, Nat.reduceLeDiff, Nat.reduceSub, Nat.zero_add, Classical.not_not, ex_i, ex_l, ex_d, ex_r, ex_rs, ex_rn, ex_sm, Nat.sub_zero, eq_self, wn_sI, wn_sL, wn_sP, wsh_sI, wsh_sL, wsh_sP, wI_sL, wI_sP, wL_sI, wL_sP, wP_sI, wP_sL, wI_sI, wL_sL, Int32.reduceLT, Int32.reduceLE, true_implies, not_true_eq_false, false_implies, not_false_eq_true, i_10, lg_nn]
  have e0 : (0 : Int64).toInt = 0 := rfl
  refine ⟨fun q => ?_, fun q => ?_⟩
  · rw [Int64.le_iff_toInt_le] at q
    rw [← abs_p (by omega)] at h
    exact h
  · rw [Int64.le_iff_toInt_le] at q
    rw [← abs_n (by omega)] at h
    exact h
theorem drop_T : ∀ l, l < 32 → (¬ l < 24 ∨ ¬ (0 : Int32) < nI l - 24 + 1) ∧ (l < 24 ∨ (nI l - 24 + 1 = nI (l - 23) ∧ (0 : Int32) < nI (l - 23))) := by decide +kernel
set_option maxRecDepth 100000 in
set_option maxHeartbeats 4000000 in
theorem X4_asFloat_ok {g : Ge} {w : Wd} {k n : Nat} {K : Int64 → Wd → Nat → Nat → Prop} {a : Nat} (ha : a ≤ 2 ^ 31) (h : K (lN (fpA 24 a)) w k n) : cL g mX4_asFloat [.long (lN a)] w k n K := by
  have hl : a.log2 < 32 := by
    by_cases q : a = 0
    · subst q
      decide
    · exact log2_lt (t := 32) (by omega) (by simp only [Nat.reducePow] at ha ⊢; omega)
  refine cL_of 3 0 0 rfl (by decide +kernel) rfl (Nat.le_of_ble_eq_true rfl) (Nat.zero_le _) (Nat.zero_le _) ?_
  simp only [vX4_asFloat_0, vX4_asFloat_1, pI_c, pL_c, pF_c, pD_c, pA_n, pA_c, pA_rf, pR_c, pR_rf, pV_i, pV_a, pV_n, pV_rf, ldI_c, ldL_c, ldF_c, ldD_c, ldA_c, ldA_n, ldA_rf, dup2_l, dup2_ia, dup2_ir, popA_0, popA_s, getL_z, getL_s, setL_z, setL_1, setL_s, setL2_z, setL2_1, setL2_s, drop2_i, drop2_a, drop2_0, drop2_n, drop2_l, drop2_d, drop2_r, cwd_0, cwd_i, cwd_a, cwd_n, cwd_l, cwd_d, cwd_f, cwd_r, rf_s, rf_n, swi_0, swi_s, zR_b0, zR_b1, zN_b0, zN_b1, entV_i, entV_a, entV_n, entV_r, entV_f, entV_l, entV_d, entV_s, entV_0, List.length_cons, List.length_nil, List.nil_append, List.cons_append, true_and, and_true, Nat.reduceAdd, Nat.reduceLT, Nat.reduceEqDiff, Nat.reduceLeDiff, Nat.reduceSub, Nat.zero_add, Classical.not_not, ex_i, ex_l, ex_d, ex_r, ex_rs, ex_rn, ex_sm, Nat.sub_zero, eq_self, wn_sI, wn_sL, wn_sP, wsh_sI, wsh_sL, wsh_sP, wI_sL, wI_sP, wL_sI, wL_sP, wP_sI, wP_sL, wI_sI, wL_sL, Int32.reduceLT, Int32.reduceLE, true_implies, not_true_eq_false, false_implies, not_false_eq_true, i_10]
  refine X4_topBit_ok (by simp only [Nat.reducePow] at ha ⊢; omega) ?_
  obtain ⟨d1, d2⟩ := drop_T _ hl
  simp only [vX4_asFloat_4, vX4_asFloat_6, vX4_asFloat_7, vX4_asFloat_8, vX4_asFloat_9, vX4_asFloat_10, vX4_asFloat_11, vX4_asFloat_14, vX4_asFloat_15, vX4_asFloat_18, vX4_asFloat_19, vX4_asFloat_20, pI_c, pL_c, pF_c, pD_c, pA_n, pA_c, pA_rf, pR_c, pR_rf, pV_i, pV_a, pV_n, pV_rf, ldI_c, ldL_c, ldF_c, ldD_c, ldA_c, ldA_n, ldA_rf, dup2_l, dup2_ia, dup2_ir, popA_0, popA_s, getL_z, getL_s, setL_z, setL_1, setL_s, setL2_z, setL2_1, setL2_s, drop2_i, drop2_a, drop2_0, drop2_n, drop2_l, drop2_d, drop2_r, cwd_0, cwd_i, cwd_a, cwd_n, cwd_l, cwd_d, cwd_f, cwd_r, rf_s, rf_n, swi_0, swi_s, zR_b0, zR_b1, zN_b0, zN_b1, entV_i, entV_a, entV_n, entV_r, entV_f, entV_l, entV_d, entV_s, entV_0, List.length_cons, List.length_nil, List.nil_append, List.cons_append, true_and, and_true, Nat.reduceAdd, Nat.reduceLT, Nat.reduceEqDiff, Nat.reduceLeDiff, Nat.reduceSub, Nat.zero_add, Classical.not_not, ex_i, ex_l, ex_d, ex_r, ex_rs, ex_rn, ex_sm, Nat.sub_zero, eq_self, wn_sI, wn_sL, wn_sP, wsh_sI, wsh_sL, wsh_sP, wI_sL, wI_sP, wL_sI, wL_sP, wP_sI, wP_sL, wI_sI, wL_sL, Int32.reduceLT, Int32.reduceLE, true_implies, not_true_eq_false, false_implies, not_false_eq_true, i_10]
  unfold fpA at h
  by_cases q : a.log2 < 24
  · rw [if_pos q] at h
    refine ⟨fun z => absurd z (d1.resolve_left (not_not_intro q)), fun _ => ?_⟩
    simp only [vX4_asFloat_25, pI_c, pL_c, pF_c, pD_c, pA_n, pA_c, pA_rf, pR_c, pR_rf, pV_i, pV_a, pV_n, pV_rf, ldI_c, ldL_c, ldF_c, ldD_c, ldA_c, ldA_n, ldA_rf, dup2_l, dup2_ia, dup2_ir, popA_0, popA_s, getL_z, getL_s, setL_z, setL_1, setL_s, setL2_z, setL2_1, setL2_s, drop2_i, drop2_a, drop2_0, drop2_n, drop2_l, drop2_d, drop2_r, cwd_0, cwd_i, cwd_a, cwd_n, cwd_l, cwd_d, cwd_f, cwd_r, rf_s, rf_n, swi_0, swi_s, zR_b0, zR_b1, zN_b0, zN_b1, entV_i, entV_a, entV_n, entV_r, entV_f, entV_l, entV_d, entV_s, entV_0, List.length_cons, List.length_nil, List.nil_append, List.cons_append, true_and, and_true, Nat.reduceAdd, Nat.reduceLT, Nat.reduceEqDiff, Nat.reduceLeDiff, Nat.reduceSub, Nat.zero_add, Classical.not_not, ex_i, ex_l, ex_d, ex_r, ex_rs, ex_rn, ex_sm, Nat.sub_zero, eq_self, wn_sI, wn_sL, wn_sP, wsh_sI, wsh_sL, wsh_sP, wI_sL, wI_sP, wL_sI, wL_sP, wP_sI, wP_sL, wI_sI, wL_sL, Int32.reduceLT, Int32.reduceLE, true_implies, not_true_eq_false, false_implies, not_false_eq_true, i_10]
    exact h
  · rw [if_neg q] at h
    obtain ⟨d3, d4⟩ := d2.resolve_left q
    rw [d3]
    refine ⟨fun _ => ?_, fun z => absurd d4 z⟩
    refine X4_rounded_pos (a := a) (d := a.log2 - 23) (by simp only [Nat.reducePow] at ha ⊢; omega) (by omega) (by omega) ?_
    simp only [vX4_asFloat_23, vX4_asFloat_24, vX4_asFloat_25, pI_c, pL_c, pF_c, pD_c, pA_n, pA_c, pA_rf, pR_c, pR_rf, pV_i, pV_a, pV_n, pV_rf, ldI_c, ldL_c, ldF_c, ldD_c, ldA_c, ldA_n, ldA_rf, dup2_l, dup2_ia, dup2_ir, popA_0, popA_s, getL_z, getL_s, setL_z, setL_1, setL_s, setL2_z, setL2_1, setL2_s, drop2_i, drop2_a, drop2_0, drop2_n, drop2_l, drop2_d, drop2_r, cwd_0, cwd_i, cwd_a, cwd_n, cwd_l, cwd_d, cwd_f, cwd_r, rf_s, rf_n, swi_0, swi_s, zR_b0, zR_b1, zN_b0, zN_b1, entV_i, entV_a, entV_n, entV_r, entV_f, entV_l, entV_d, entV_s, entV_0, List.length_cons, List.length_nil, List.nil_append, List.cons_append, true_and, and_true, Nat.reduceAdd, Nat.reduceLT, Nat.reduceEqDiff, Nat.reduceLeDiff, Nat.reduceSub, Nat.zero_add, Classical.not_not, ex_i, ex_l, ex_d, ex_r, ex_rs, ex_rn, ex_sm, Nat.sub_zero, eq_self, wn_sI, wn_sL, wn_sP, wsh_sI, wsh_sL, wsh_sP, wI_sL, wI_sP, wL_sI, wL_sP, wP_sI, wP_sL, wI_sI, wL_sL, Int32.reduceLT, Int32.reduceLE, true_implies, not_true_eq_false, false_implies, not_false_eq_true, i_10]
    rw [wb_shl _ (by omega)]
    exact h
set_option maxRecDepth 100000 in
set_option maxHeartbeats 4000000 in
theorem X4_ratio_loop {g : Ge} {w : Wd} {k n : Nat} {K : Option Value → Wd → Prop} {kd ex : Int32} {z1 z2 : Int64} {O U p : Nat} (hp : (if kd = 6 then (24 : Int32) else 53) = nI p) (hp2 : p ≤ 53) (hU : 0 < U) (hU2 : U < 2 ^ 34) (hK : ∀ o u : Nat, o + 2 * u * U = 2 ^ p * O → o < 2 * U → u < 2 ^ p → R g mX4_ratio K 113 [some (.int kd), some (.long z1), none, some (.long z2), none, some (.int ex), some (.long (lN o)), none, some (.long (lN U)), none, some (.long (lN u)), none, some (.int (nI p))] [] w k n) :
    ∀ (d i o u : Nat), i + d = p → o + 2 * u * U = 2 ^ i * O → o < 2 * U → u < 2 ^ i → R g mX4_ratio K 65 [some (.int kd), some (.long z1), none, some (.long z2), none, some (.int ex), some (.long (lN o)), none, some (.long (lN U)), none, some (.long (lN u)), none, some (.int (nI i))] [] w k n := by
  intro d
  induction d with
  | zero =>
    intro i o u hi h1 h2 h3
    obtain rfl : i = p := by omega
    simp only [vX4_ratio_65, vX4_ratio_67, vX4_ratio_68, pI_c, pL_c, pF_c, pD_c, pA_n, pA_c, pA_rf, pR_c, pR_rf, pV_i, pV_a, pV_n, pV_rf, ldI_c, ldL_c, ldF_c, ldD_c, ldA_c, ldA_n, ldA_rf, dup2_l, dup2_ia, dup2_ir, popA_0, popA_s, getL_z, getL_s, setL_z, setL_1, setL_s, setL2_z, setL2_1, setL2_s, drop2_i, drop2_a, drop2_0, drop2_n, drop2_l, drop2_d, drop2_r, cwd_0, cwd_i, cwd_a, cwd_n, cwd_l, cwd_d, cwd_f, cwd_r, rf_s, rf_n, swi_0, swi_s, zR_b0, zR_b1, zN_b0, zN_b1, entV_i, entV_a, entV_n, entV_r, entV_f, entV_l, entV_d, entV_s, entV_0, List.length_cons, List.length_nil, List.nil_append, List.cons_append, true_and, and_true, Nat.reduceAdd, Nat.reduceLT, Nat.reduceEqDiff, Nat.reduceLeDiff, Nat.reduceSub, Nat.zero_add, Classical.not_not, ex_i, ex_l, ex_d, ex_r, ex_rs, ex_rn, ex_sm, Nat.sub_zero, eq_self, wn_sI, wn_sL, wn_sP, wsh_sI, wsh_sL, wsh_sP, wI_sL, wI_sP, wL_sI, wL_sP, wP_sI, wP_sL, wI_sI, wL_sL, Int32.reduceLT, Int32.reduceLE, true_implies, not_true_eq_false, false_implies, not_false_eq_true, i_10]
    refine X4_digitsOf_ok kd ?_
    rw [hp]
    simp (disch := omega) only [vX4_ratio_71, pI_c, pL_c, pF_c, pD_c, pA_n, pA_c, pA_rf, pR_c, pR_rf, pV_i, pV_a, pV_n, pV_rf, ldI_c, ldL_c, ldF_c, ldD_c, ldA_c, ldA_n, ldA_rf, dup2_l, dup2_ia, dup2_ir, popA_0, popA_s, getL_z, getL_s, setL_z, setL_1, setL_s, setL2_z, setL2_1, setL2_s, drop2_i, drop2_a, drop2_0, drop2_n, drop2_l, drop2_d, drop2_r, cwd_0, cwd_i, cwd_a, cwd_n, cwd_l, cwd_d, cwd_f, cwd_r, rf_s, rf_n, swi_0, swi_s, zR_b0, zR_b1, zN_b0, zN_b1, entV_i, entV_a, entV_n, entV_r, entV_f, entV_l, entV_d, entV_s, entV_0, List.length_cons, List.length_nil, List.nil_append, List.cons_append, true_and, and_true, Nat.reduceAdd, Nat.reduceLT, Nat.reduceEqDiff, Nat.reduceLeDiff, Nat.reduceSub, Nat.zero_add, Classical.not_not, ex_i, ex_l, ex_d, ex_r, ex_rs, ex_rn, ex_sm, Nat.sub_zero, eq_self, wn_sI, wn_sL, wn_sP, wsh_sI, wsh_sL, wsh_sP, wI_sL, wI_sP, wL_sI, wL_sP, wP_sI, wP_sL, wI_sI, wL_sL, Int32.reduceLT, Int32.reduceLE, true_implies, not_true_eq_false, false_implies, not_false_eq_true, i_10, ni_le, Nat.le_refl]
    exact hK o u h1 h2 h3
  | succ d ih =>
    intro i o u hi h1 h2 h3
    have q : ¬ p ≤ i := by omega
    have hu53 : u < 2 ^ 53 := Nat.lt_of_lt_of_le h3 (Nat.pow_le_pow_right (by decide) (by omega))
    simp only [Nat.reducePow] at hU2 hu53
    simp only [vX4_ratio_65, vX4_ratio_67, vX4_ratio_68, pI_c, pL_c, pF_c, pD_c, pA_n, pA_c, pA_rf, pR_c, pR_rf, pV_i, pV_a, pV_n, pV_rf, ldI_c, ldL_c, ldF_c, ldD_c, ldA_c, ldA_n, ldA_rf, dup2_l, dup2_ia, dup2_ir, popA_0, popA_s, getL_z, getL_s, setL_z, setL_1, setL_s, setL2_z, setL2_1, setL2_s, drop2_i, drop2_a, drop2_0, drop2_n, drop2_l, drop2_d, drop2_r, cwd_0, cwd_i, cwd_a, cwd_n, cwd_l, cwd_d, cwd_f, cwd_r, rf_s, rf_n, swi_0, swi_s, zR_b0, zR_b1, zN_b0, zN_b1, entV_i, entV_a, entV_n, entV_r, entV_f, entV_l, entV_d, entV_s, entV_0, List.length_cons, List.length_nil, List.nil_append, List.cons_append, true_and, and_true, Nat.reduceAdd, Nat.reduceLT, Nat.reduceEqDiff, Nat.reduceLeDiff, Nat.reduceSub, Nat.zero_add, Classical.not_not, ex_i, ex_l, ex_d, ex_r, ex_rs, ex_rn, ex_sm, Nat.sub_zero, eq_self, wn_sI, wn_sL, wn_sP, wsh_sI, wsh_sL, wsh_sP, wI_sL, wI_sP, wL_sI, wL_sP, wP_sI, wP_sL, wI_sI, wL_sL, Int32.reduceLT, Int32.reduceLE, true_implies, not_true_eq_false, false_implies, not_false_eq_true, i_10]
    refine X4_digitsOf_ok kd ?_
    rw [hp]
    simp (disch := omega) only [vX4_ratio_71, vX4_ratio_74, vX4_ratio_76, vX4_ratio_77, vX4_ratio_78, vX4_ratio_80, vX4_ratio_82, vX4_ratio_84, pI_c, pL_c, pF_c, pD_c, pA_n, pA_c, pA_rf, pR_c, pR_rf, pV_i, pV_a, pV_n, pV_rf, ldI_c, ldL_c, ldF_c, ldD_c, ldA_c, ldA_n, ldA_rf, dup2_l, dup2_ia, dup2_ir, popA_0, popA_s, getL_z, getL_s, setL_z, setL_1, setL_s, setL2_z, setL2_1, setL2_s, drop2_i, drop2_a, drop2_0, drop2_n, drop2_l, drop2_d, drop2_r, cwd_0, cwd_i, cwd_a, cwd_n, cwd_l, cwd_d, cwd_f, cwd_r, rf_s, rf_n, swi_0, swi_s, zR_b0, zR_b1, zN_b0, zN_b1, entV_i, entV_a, entV_n, entV_r, entV_f, entV_l, entV_d, entV_s, entV_0, List.length_cons, List.length_nil, List.nil_append, List.cons_append, true_and, and_true, Nat.reduceAdd, Nat.reduceLT, Nat.reduceEqDiff, Nat.reduceLeDiff, Nat.reduceSub, Nat.zero_add, Classical.not_not, ex_i, ex_l, ex_d, ex_r, ex_rs, ex_rn, ex_sm, Nat.sub_zero, eq_self, wn_sI, wn_sL, wn_sP, wsh_sI, wsh_sL, wsh_sP, wI_sL, wI_sP, wL_sI, wL_sP, wP_sI, wP_sL, wI_sI, wL_sL, Int32.reduceLT, Int32.reduceLE, true_implies, not_true_eq_false, false_implies, not_false_eq_true, i_10, ni_le, q]
    rw [show (1 : Int32) = nI 1 from rfl, wb_shl _ (by decide)]
    have b1 : ∀ (i' o' u' : Nat), i' = i + 1 → o' + 2 * u' * U = 2 ^ i' * O → o' < 2 * U → u' < 2 ^ i' → R g mX4_ratio K 110 [some (.int kd), some (.long z1), none, some (.long z2), none, some (.int ex), some (.long (lN o')), none, some (.long (lN U)), none, some (.long (lN u')), none, some (.int (nI i'))] [] w k n := fun i' o' u' g0 g1 g2 g3 => by
      simp only [vX4_ratio_110, pI_c, pL_c, pF_c, pD_c, pA_n, pA_c, pA_rf, pR_c, pR_rf, pV_i, pV_a, pV_n, pV_rf, ldI_c, ldL_c, ldF_c, ldD_c, ldA_c, ldA_n, ldA_rf, dup2_l, dup2_ia, dup2_ir, popA_0, popA_s, getL_z, getL_s, setL_z, setL_1, setL_s, setL2_z, setL2_1, setL2_s, drop2_i, drop2_a, drop2_0, drop2_n, drop2_l, drop2_d, drop2_r, cwd_0, cwd_i, cwd_a, cwd_n, cwd_l, cwd_d, cwd_f, cwd_r, rf_s, rf_n, swi_0, swi_s, zR_b0, zR_b1, zN_b0, zN_b1, entV_i, entV_a, entV_n, entV_r, entV_f, entV_l, entV_d, entV_s, entV_0, List.length_cons, List.length_nil, List.nil_append, List.cons_append, true_and, and_true, Nat.reduceAdd, Nat.reduceLT, Nat.reduceEqDiff, Nat.reduceLeDiff, Nat.reduceSub, Nat.zero_add, Classical.not_not, ex_i, ex_l, ex_d, ex_r, ex_rs, ex_rn, ex_sm, Nat.sub_zero, eq_self, wn_sI, wn_sL, wn_sP, wsh_sI, wsh_sL, wsh_sP, wI_sL, wI_sP, wL_sI, wL_sP, wP_sI, wP_sL, wI_sI, wL_sL, Int32.reduceLT, Int32.reduceLE, true_implies, not_true_eq_false, false_implies, not_false_eq_true, i_10]
      exact ih i' o' u' (by omega) g1 g2 g3
    simp (disch := omega) only [vX4_ratio_85, vX4_ratio_88, vX4_ratio_90, vX4_ratio_91, vX4_ratio_92, vX4_ratio_94, vX4_ratio_96, vX4_ratio_98, vX4_ratio_99, vX4_ratio_101, vX4_ratio_103, vX4_ratio_104, vX4_ratio_105, vX4_ratio_107, pI_c, pL_c, pF_c, pD_c, pA_n, pA_c, pA_rf, pR_c, pR_rf, pV_i, pV_a, pV_n, pV_rf, ldI_c, ldL_c, ldF_c, ldD_c, ldA_c, ldA_n, ldA_rf, dup2_l, dup2_ia, dup2_ir, popA_0, popA_s, getL_z, getL_s, setL_z, setL_1, setL_s, setL2_z, setL2_1, setL2_s, drop2_i, drop2_a, drop2_0, drop2_n, drop2_l, drop2_d, drop2_r, cwd_0, cwd_i, cwd_a, cwd_n, cwd_l, cwd_d, cwd_f, cwd_r, rf_s, rf_n, swi_0, swi_s, zR_b0, zR_b1, zN_b0, zN_b1, entV_i, entV_a, entV_n, entV_r, entV_f, entV_l, entV_d, entV_s, entV_0, List.length_cons, List.length_nil, List.nil_append, List.cons_append, true_and, and_true, Nat.reduceAdd, Nat.reduceLT, Nat.reduceEqDiff, Nat.reduceLeDiff, Nat.reduceSub, Nat.zero_add, Classical.not_not, ex_i, ex_l, ex_d, ex_r, ex_rs, ex_rn, ex_sm, Nat.sub_zero, eq_self, wn_sI, wn_sL, wn_sP, wsh_sI, wsh_sL, wsh_sP, wI_sL, wI_sP, wL_sI, wL_sP, wP_sI, wP_sL, wI_sI, wL_sL, Int32.reduceLT, Int32.reduceLE, true_implies, not_true_eq_false, false_implies, not_false_eq_true, i_10, na_1]
    have lgn : (lg_cmp (lN o) (lN U) < 0) = (o < U) := by
      have := lg_nn (lN o) (lN U)
      have e2 : (lN U ≤ lN o) = (U ≤ o) := by
        have := lN_lt63 (a := o) (b := U) (by omega) (by omega)
        rw [← Int64.not_lt, this, Nat.not_lt]
      rw [← Int32.not_le, this, e2, Nat.not_le]
    rw [lgn]
    have h5 : 2 ^ (i + 1) * O = 2 * (2 ^ i * O) := by rw [Nat.pow_succ]; ac_rfl
    refine ⟨fun z => ?_, fun z => ?_⟩
    · rw [show (1 : Int32) = nI 1 from rfl, wb_shl _ (by decide)]
      refine b1 (i + 1) (o * 2 ^ 1) (u * 2 ^ 1) rfl ?_ (by omega) (by rw [Nat.pow_succ]; omega)
      rw [h5, ← h1, Nat.pow_one, Nat.mul_add]
      have : 2 * (u * 2) * U = 2 * (2 * u * U) := by ac_rfl
      rw [this]
      omega
    · rw [show (1 : Int32) = nI 1 from rfl, lN_sub (by omega), wb_shl _ (by decide), show (1 : Int64) = lN 1 from rfl, g_or (k := 1) (p := 2 ^ 1) (a := 1) (b := u) rfl (by decide) (by simp only [Nat.reducePow]; omega)]
      refine b1 (i + 1) ((o - U) * 2 ^ 1) (u * 2 ^ 1 + 1) rfl ?_ (by omega) (by rw [Nat.pow_succ]; omega)
      rw [h5, ← h1, Nat.pow_one]
      have : 2 * (u * 2 + 1) * U = 2 * (2 * u * U) + 2 * U := by
        rw [Nat.mul_add, Nat.add_mul]
        congr 1
        ac_rfl
      rw [this]
      omega
set_option maxRecDepth 100000 in
set_option maxHeartbeats 4000000 in
theorem X4_ratio_ok {g : Ge} {w : Wd} {k n : Nat} {K : Int64 → Wd → Nat → Nat → Prop} {kd : Int32} {A B p : Nat} (hp : (if kd = 6 then (24 : Int32) else 53) = nI p) (hp1 : 1 ≤ p) (hp2 : p ≤ 53) (hA : 0 < A) (hB : 0 < B) (hA2 : A < 2 ^ 33) (hB2 : B < 2 ^ 33) (h : ∀ ex : Int32, ex.toInt = FP.Core.leading A B → K (cmpd kd (lN (FP.Core.nearest (qO A B * 2 ^ (p - 1)) (qU A B))) ex) w k n) : cL g mX4_ratio [.int kd, .long (lN A), .long (lN B)] w k n K := by
  obtain ⟨r1, r2, r3, r4, r5⟩ := q_rng hA hB hA2 hB2
  have la := log2_lt (t := 33) hA hA2
  have lb := log2_lt (t := 33) hB hB2
  have exT : (nI A.log2 - nI B.log2).toInt = qK A B := by
    unfold qK
    rw [Int32.toInt_sub, ni_ti (by omega), ni_ti (by omega), show (2 : Nat) ^ 32 = 4294967296 from rfl, Int.bmod_eq_of_le (by omega) (by omega)]
  have last : ∀ (ex : Int32) (o u : Nat), ex.toInt = FP.Core.leading A B → o + 2 * u * qU A B = 2 ^ p * qO A B → o < 2 * qU A B → u < 2 ^ p → R g mX4_ratio (fun r w' => ∃ x, r = some (Value.long x) ∧ K x w' k n) 113 [some (.int kd), some (.long (lN A)), none, some (.long (lN B)), none, some (.int ex), some (.long (lN o)), none, some (.long (lN (qU A B))), none, some (.long (lN u)), none, some (.int (nI p))] [] w 0 0 := by
    intro ex o u he h1 h2 h3
    have hu53 : u < 2 ^ 53 := Nat.lt_of_lt_of_le h3 (Nat.pow_le_pow_right (by decide) hp2)
    have hN : FP.Core.nearest (qO A B * 2 ^ (p - 1)) (qU A B) = if qU A B < o ∨ (o = qU A B ∧ u % 2 = 1) then u + 1 else u := by
      have hpp : 2 ^ p = 2 * 2 ^ (p - 1) := pow_pred hp1
      rw [hpp] at h1
      obtain ⟨y, hy⟩ : ∃ y, y = 2 ^ (p - 1) * qO A B := ⟨_, rfl⟩
      obtain ⟨z, hz⟩ : ∃ z, z = u * qU A B := ⟨_, rfl⟩
      have h4 : o + 2 * z = 2 * y := by
        rw [hy, hz, ← Nat.mul_assoc 2 u, h1]
        ac_rfl
      have e1 : qO A B * 2 ^ (p - 1) = qU A B * u + (y - z) := by
        rw [Nat.mul_comm (qO A B), ← hy, Nat.mul_comm (qU A B), ← hz]
        omega
      have hrem : y - z < qU A B := by omega
      have ho : o = 2 * (y - z) := by omega
      rw [e1]
      unfold FP.Core.nearest
      rw [Nat.mul_add_mod, Nat.mod_eq_of_lt hrem, Nat.mul_add_div r1, Nat.div_eq_of_lt hrem, Nat.add_zero, ← ho]
      by_cases c1 : o < qU A B
      · rw [if_pos c1, if_neg (by omega)]
      · rw [if_neg c1]
        by_cases c2 : qU A B < o
        · rw [if_pos c2, if_pos (Or.inl c2)]
        · rw [if_neg c2]
          by_cases c3 : u % 2 = 1
          · rw [if_pos (Or.inr ⟨by omega, c3⟩), c3]
          · rw [if_neg (by omega), show u % 2 = 0 by omega, Nat.add_zero]
    simp only [Nat.reducePow] at r4 hu53
    have a1 : (0 < lg_cmp (lN o) (lN (qU A B))) = (qU A B < o) := by
      rw [lg_pos, lN_lt63 (by omega) (by omega)]
    have a2 : (lN o = lN (qU A B)) = (o = qU A B) := lN_eq64 (by omega) (by omega)
    have a3 : (lN u &&& 1 = 1) = (u % 2 = 1) := by
      rw [wb_a1 (by omega)]
      exact lN_eq64 (by omega) (by decide)
    simp only [vX4_ratio_113, vX4_ratio_115, vX4_ratio_117, vX4_ratio_118, vX4_ratio_121, vX4_ratio_123, vX4_ratio_125, vX4_ratio_126, vX4_ratio_129, vX4_ratio_131, vX4_ratio_132, vX4_ratio_133, vX4_ratio_134, vX4_ratio_135, vX4_ratio_138, vX4_ratio_139, vX4_ratio_142, vX4_ratio_143, vX4_ratio_145, vX4_ratio_146, vX4_ratio_148, vX4_ratio_151, vX4_ratio_153, vX4_ratio_154, vX4_ratio_155, vX4_ratio_158, vX4_ratio_160, pI_c, pL_c, pF_c, pD_c, pA_n, pA_c, pA_rf, pR_c, pR_rf, pV_i, pV_a, pV_n, pV_rf, ldI_c, ldL_c, ldF_c, ldD_c, ldA_c, ldA_n, ldA_rf, dup2_l, dup2_ia, dup2_ir, popA_0, popA_s, getL_z, getL_s, setL_z, setL_1, setL_s, setL2_z, setL2_1, setL2_s, drop2_i, drop2_a, drop2_0, drop2_n, drop2_l, drop2_d, drop2_r, cwd_0, cwd_i, cwd_a, cwd_n, cwd_l, cwd_d, cwd_f, cwd_r, rf_s, rf_n, swi_0, swi_s, zR_b0, zR_b1, zN_b0, zN_b1, entV_i, entV_a, entV_n, entV_r, entV_f, entV_l, entV_d, entV_s, entV_0, List.length_cons, List.length_nil, List.nil_append, List.cons_append, true_and, and_true, Nat.reduceAdd, Nat.reduceLT, Nat.reduceEqDiff, Nat.reduceLeDiff, Nat.reduceSub, Nat.zero_add, Classical.not_not, ex_i, ex_l, ex_d, ex_r, ex_rs, ex_rn, ex_sm, Nat.sub_zero, eq_self, wn_sI, wn_sL, wn_sP, wsh_sI, wsh_sL, wsh_sP, wI_sL, wI_sP, wL_sI, wL_sP, wP_sI, wP_sL, wI_sI, wL_sL, Int32.reduceLT, Int32.reduceLE, true_implies, not_true_eq_false, false_implies, not_false_eq_true, i_10, a1, lgc, a2, a3]
    have fin : ∀ (y bb : Nat), (if qU A B < o ∨ (o = qU A B ∧ u % 2 = 1) then u + 1 else u) = y → R g mX4_ratio (fun r w' => ∃ x, r = some (Value.long x) ∧ K x w' k n) 162 [some (.int kd), some (.long (lN A)), none, some (.long (lN B)), none, some (.int ex), some (.long (lN o)), none, some (.long (lN (qU A B))), none, some (.long (lN u)), none, some (.int (nI bb))] [.int ex, .long (lN y), .int kd] w 0 0 := fun y bb hy => by
      simp only [vX4_ratio_162, pI_c, pL_c, pF_c, pD_c, pA_n, pA_c, pA_rf, pR_c, pR_rf, pV_i, pV_a, pV_n, pV_rf, ldI_c, ldL_c, ldF_c, ldD_c, ldA_c, ldA_n, ldA_rf, dup2_l, dup2_ia, dup2_ir, popA_0, popA_s, getL_z, getL_s, setL_z, setL_1, setL_s, setL2_z, setL2_1, setL2_s, drop2_i, drop2_a, drop2_0, drop2_n, drop2_l, drop2_d, drop2_r, cwd_0, cwd_i, cwd_a, cwd_n, cwd_l, cwd_d, cwd_f, cwd_r, rf_s, rf_n, swi_0, swi_s, zR_b0, zR_b1, zN_b0, zN_b1, entV_i, entV_a, entV_n, entV_r, entV_f, entV_l, entV_d, entV_s, entV_0, List.length_cons, List.length_nil, List.nil_append, List.cons_append, true_and, and_true, Nat.reduceAdd, Nat.reduceLT, Nat.reduceEqDiff, Nat.reduceLeDiff, Nat.reduceSub, Nat.zero_add, Classical.not_not, ex_i, ex_l, ex_d, ex_r, ex_rs, ex_rn, ex_sm, Nat.sub_zero, eq_self, wn_sI, wn_sL, wn_sP, wsh_sI, wsh_sL, wsh_sP, wI_sL, wI_sP, wL_sI, wL_sP, wP_sI, wP_sL, wI_sI, wL_sL, Int32.reduceLT, Int32.reduceLE, true_implies, not_true_eq_false, false_implies, not_false_eq_true, i_10]
      refine X4_composed_ok _ _ _ ?_
      simp only [vX4_ratio_165, pI_c, pL_c, pF_c, pD_c, pA_n, pA_c, pA_rf, pR_c, pR_rf, pV_i, pV_a, pV_n, pV_rf, ldI_c, ldL_c, ldF_c, ldD_c, ldA_c, ldA_n, ldA_rf, dup2_l, dup2_ia, dup2_ir, popA_0, popA_s, getL_z, getL_s, setL_z, setL_1, setL_s, setL2_z, setL2_1, setL2_s, drop2_i, drop2_a, drop2_0, drop2_n, drop2_l, drop2_d, drop2_r, cwd_0, cwd_i, cwd_a, cwd_n, cwd_l, cwd_d, cwd_f, cwd_r, rf_s, rf_n, swi_0, swi_s, zR_b0, zR_b1, zN_b0, zN_b1, entV_i, entV_a, entV_n, entV_r, entV_f, entV_l, entV_d, entV_s, entV_0, List.length_cons, List.length_nil, List.nil_append, List.cons_append, true_and, and_true, Nat.reduceAdd, Nat.reduceLT, Nat.reduceEqDiff, Nat.reduceLeDiff, Nat.reduceSub, Nat.zero_add, Classical.not_not, ex_i, ex_l, ex_d, ex_r, ex_rs, ex_rn, ex_sm, Nat.sub_zero, eq_self, wn_sI, wn_sL, wn_sP, wsh_sI, wsh_sL, wsh_sP, wI_sL, wI_sP, wL_sI, wL_sP, wP_sI, wP_sL, wI_sI, wL_sL, Int32.reduceLT, Int32.reduceLE, true_implies, not_true_eq_false, false_implies, not_false_eq_true, i_10]
      rw [← hy, ← hN]
      exact h ex he
    have e1 : lN u + 1 = lN (u + 1) := lN_add u 1
    rw [e1]
    refine ⟨fun q => fin _ 1 (if_pos (Or.inl q)), fun q => ⟨fun q2 => fin _ 0 (if_neg (fun z => z.elim q fun z => q2 z.1)), fun q2 => ⟨fun q3 => fin _ 0 (if_neg (fun z => z.elim q fun z => q3 z.2)), fun q3 => fin _ 1 (if_pos (Or.inr ⟨q2, q3⟩))⟩⟩⟩
  refine cL_of 13 0 0 rfl (by decide +kernel) rfl (Nat.le_of_ble_eq_true rfl) (Nat.zero_le _) (Nat.zero_le _) ?_
  simp only [vX4_ratio_0, vX4_ratio_1, pI_c, pL_c, pF_c, pD_c, pA_n, pA_c, pA_rf, pR_c, pR_rf, pV_i, pV_a, pV_n, pV_rf, ldI_c, ldL_c, ldF_c, ldD_c, ldA_c, ldA_n, ldA_rf, dup2_l, dup2_ia, dup2_ir, popA_0, popA_s, getL_z, getL_s, setL_z, setL_1, setL_s, setL2_z, setL2_1, setL2_s, drop2_i, drop2_a, drop2_0, drop2_n, drop2_l, drop2_d, drop2_r, cwd_0, cwd_i, cwd_a, cwd_n, cwd_l, cwd_d, cwd_f, cwd_r, rf_s, rf_n, swi_0, swi_s, zR_b0, zR_b1, zN_b0, zN_b1, entV_i, entV_a, entV_n, entV_r, entV_f, entV_l, entV_d, entV_s, entV_0, List.length_cons, List.length_nil, List.nil_append, List.cons_append, true_and, and_true, Nat.reduceAdd, Nat.reduceLT, Nat.reduceEqDiff, Nat.reduceLeDiff, Nat.reduceSub, Nat.zero_add, Classical.not_not, ex_i, ex_l, ex_d, ex_r, ex_rs, ex_rn, ex_sm, Nat.sub_zero, eq_self, wn_sI, wn_sL, wn_sP, wsh_sI, wsh_sL, wsh_sP, wI_sL, wI_sP, wL_sI, wL_sP, wP_sI, wP_sL, wI_sI, wL_sL, Int32.reduceLT, Int32.reduceLE, true_implies, not_true_eq_false, false_implies, not_false_eq_true, i_10]
  refine X4_topBit_ok (by omega) ?_
  simp only [vX4_ratio_4, vX4_ratio_5, pI_c, pL_c, pF_c, pD_c, pA_n, pA_c, pA_rf, pR_c, pR_rf, pV_i, pV_a, pV_n, pV_rf, ldI_c, ldL_c, ldF_c, ldD_c, ldA_c, ldA_n, ldA_rf, dup2_l, dup2_ia, dup2_ir, popA_0, popA_s, getL_z, getL_s, setL_z, setL_1, setL_s, setL2_z, setL2_1, setL2_s, drop2_i, drop2_a, drop2_0, drop2_n, drop2_l, drop2_d, drop2_r, cwd_0, cwd_i, cwd_a, cwd_n, cwd_l, cwd_d, cwd_f, cwd_r, rf_s, rf_n, swi_0, swi_s, zR_b0, zR_b1, zN_b0, zN_b1, entV_i, entV_a, entV_n, entV_r, entV_f, entV_l, entV_d, entV_s, entV_0, List.length_cons, List.length_nil, List.nil_append, List.cons_append, true_and, and_true, Nat.reduceAdd, Nat.reduceLT, Nat.reduceEqDiff, Nat.reduceLeDiff, Nat.reduceSub, Nat.zero_add, Classical.not_not, ex_i, ex_l, ex_d, ex_r, ex_rs, ex_rn, ex_sm, Nat.sub_zero, eq_self, wn_sI, wn_sL, wn_sP, wsh_sI, wsh_sL, wsh_sP, wI_sL, wI_sP, wL_sI, wL_sP, wP_sI, wP_sL, wI_sI, wL_sL, Int32.reduceLT, Int32.reduceLE, true_implies, not_true_eq_false, false_implies, not_false_eq_true, i_10]
  refine X4_topBit_ok (by omega) ?_
  have cont : ∀ (ex : Int32) (z1 z2 : Int64), z1 = lN (qO A B) → z2 = lN (qU A B) → ex.toInt = FP.Core.leading A B → R g mX4_ratio (fun r w' => ∃ x, r = some (Value.long x) ∧ K x w' k n) 59 [some (.int kd), some (.long (lN A)), none, some (.long (lN B)), none, some (.int ex), some (.long z1), none, some (.long z2), none, none, none, none] [] w 0 0 := by
    intro ex z1 z2 h1 h2 h3
    subst h1 h2
    simp only [vX4_ratio_59, vX4_ratio_60, vX4_ratio_62, vX4_ratio_63, pI_c, pL_c, pF_c, pD_c, pA_n, pA_c, pA_rf, pR_c, pR_rf, pV_i, pV_a, pV_n, pV_rf, ldI_c, ldL_c, ldF_c, ldD_c, ldA_c, ldA_n, ldA_rf, dup2_l, dup2_ia, dup2_ir, popA_0, popA_s, getL_z, getL_s, setL_z, setL_1, setL_s, setL2_z, setL2_1, setL2_s, drop2_i, drop2_a, drop2_0, drop2_n, drop2_l, drop2_d, drop2_r, cwd_0, cwd_i, cwd_a, cwd_n, cwd_l, cwd_d, cwd_f, cwd_r, rf_s, rf_n, swi_0, swi_s, zR_b0, zR_b1, zN_b0, zN_b1, entV_i, entV_a, entV_n, entV_r, entV_f, entV_l, entV_d, entV_s, entV_0, List.length_cons, List.length_nil, List.nil_append, List.cons_append, true_and, and_true, Nat.reduceAdd, Nat.reduceLT, Nat.reduceEqDiff, Nat.reduceLeDiff, Nat.reduceSub, Nat.zero_add, Classical.not_not, ex_i, ex_l, ex_d, ex_r, ex_rs, ex_rn, ex_sm, Nat.sub_zero, eq_self, wn_sI, wn_sL, wn_sP, wsh_sI, wsh_sL, wsh_sP, wI_sL, wI_sP, wL_sI, wL_sP, wP_sI, wP_sL, wI_sI, wL_sL, Int32.reduceLT, Int32.reduceLE, true_implies, not_true_eq_false, false_implies, not_false_eq_true, i_10]
    exact X4_ratio_loop hp hp2 r1 r4 (fun o u h1 h2 h4 => last ex o u h3 h1 h2 h4) p 0 (qO A B) 0 (Nat.zero_add p) (by rw [Nat.mul_zero, Nat.zero_mul, Nat.pow_zero, Nat.one_mul, Nat.add_zero]) r3 (by decide)
  have exM : (nI A.log2 - nI B.log2 + -1).toInt = qK A B - 1 := by
    rw [Int32.toInt_add, exT, show (2 : Nat) ^ 32 = 4294967296 from rfl, show (-1 : Int32).toInt = -1 from rfl]
    unfold qK
    rw [Int.bmod_eq_of_le (by omega) (by omega)]
    omega
  -- the two, shifted
  have cmp2 : ∀ (ex : Int32) (z1 z2 : Int64), z1 = lN (qO0 A B) → z2 = lN (qU A B) → ex = nI A.log2 - nI B.log2 → ((0 ≤ lg_cmp z1 z2 → R g mX4_ratio (fun r w' => ∃ x, r = some (Value.long x) ∧ K x w' k n) 59 [some (.int kd), some (.long (lN A)), none, some (.long (lN B)), none, some (.int ex), some (.long z1), none, some (.long z2), none, none, none, none] [] w 0 0) ∧ (¬ 0 ≤ lg_cmp z1 z2 → R g mX4_ratio (fun r w' => ∃ x, r = some (Value.long x) ∧ K x w' k n) 59 [some (.int kd), some (.long (lN A)), none, some (.long (lN B)), none, some (.int (ex + -1)), some (.long (z1 <<< ((1 : Int32).toInt64 &&& 63))), none, some (.long z2), none, none, none, none] [] w 0 0)) := by
    intro ex z1 z2 h1 h2 h3
    subst h1 h2 h3
    have hc : (0 ≤ lg_cmp (lN (qO0 A B)) (lN (qU A B))) = ¬ qO0 A B < qU A B := by
      have := lN_lt63 (a := qO0 A B) (b := qU A B) (by simp only [Nat.reducePow] at r5 ⊢; omega) (by simp only [Nat.reducePow] at r4 ⊢; omega)
      rw [lg_nn, ← this, Int64.not_lt]
    rw [hc]
    refine ⟨fun q => cont _ _ _ ?_ rfl ?_, fun q => cont _ _ _ ?_ rfl ?_⟩
    · unfold qO
      rw [if_neg q]
    · rw [exT, q_lead, if_neg q]
    · unfold qO
      rw [if_pos (Decidable.not_not.mp q), show (1 : Int32) = nI 1 from rfl, wb_shl _ (by decide), Nat.pow_one, Nat.mul_comm]
    · rw [exM, q_lead, if_pos (Decidable.not_not.mp q)]
  simp only [vX4_ratio_8, vX4_ratio_9, vX4_ratio_11, vX4_ratio_13, vX4_ratio_16, vX4_ratio_17, vX4_ratio_19, vX4_ratio_20, vX4_ratio_21, vX4_ratio_24, vX4_ratio_25, vX4_ratio_27, vX4_ratio_29, vX4_ratio_32, vX4_ratio_33, vX4_ratio_35, vX4_ratio_36, vX4_ratio_39, vX4_ratio_40, vX4_ratio_42, vX4_ratio_44, vX4_ratio_46, vX4_ratio_47, vX4_ratio_50, vX4_ratio_52, vX4_ratio_53, vX4_ratio_54, vX4_ratio_56, pI_c, pL_c, pF_c, pD_c, pA_n, pA_c, pA_rf, pR_c, pR_rf, pV_i, pV_a, pV_n, pV_rf, ldI_c, ldL_c, ldF_c, ldD_c, ldA_c, ldA_n, ldA_rf, dup2_l, dup2_ia, dup2_ir, popA_0, popA_s, getL_z, getL_s, setL_z, setL_1, setL_s, setL2_z, setL2_1, setL2_s, drop2_i, drop2_a, drop2_0, drop2_n, drop2_l, drop2_d, drop2_r, cwd_0, cwd_i, cwd_a, cwd_n, cwd_l, cwd_d, cwd_f, cwd_r, rf_s, rf_n, swi_0, swi_s, zR_b0, zR_b1, zN_b0, zN_b1, entV_i, entV_a, entV_n, entV_r, entV_f, entV_l, entV_d, entV_s, entV_0, List.length_cons, List.length_nil, List.nil_append, List.cons_append, true_and, and_true, Nat.reduceAdd, Nat.reduceLT, Nat.reduceEqDiff, Nat.reduceLeDiff, Nat.reduceSub, Nat.zero_add, Classical.not_not, ex_i, ex_l, ex_d, ex_r, ex_rs, ex_rn, ex_sm, Nat.sub_zero, eq_self, wn_sI, wn_sL, wn_sP, wsh_sI, wsh_sL, wsh_sP, wI_sL, wI_sP, wL_sI, wL_sP, wP_sI, wP_sL, wI_sI, wL_sL, Int32.reduceLT, Int32.reduceLE, true_implies, not_true_eq_false, false_implies, not_false_eq_true, i_10]
  have z0 : (0 : Int32).toInt = 0 := rfl
  have g1 : (0 ≤ nI A.log2 - nI B.log2) = (B.log2 ≤ A.log2) := by
    rw [Int32.le_iff_toInt_le, exT, z0]
    unfold qK
    exact propext (by omega)
  have g2 : (nI A.log2 - nI B.log2 ≤ 0) = (A.log2 ≤ B.log2) := by
    rw [Int32.le_iff_toInt_le, exT, z0]
    unfold qK
    exact propext (by omega)
  have s1 : B.log2 ≤ A.log2 → lN B <<< ((nI A.log2 - nI B.log2).toInt64 &&& 63) = lN (qU A B) := fun q => by
    rw [ni_sub q, wb_shl _ (by omega)]
    unfold qU qK
    rw [show ((A.log2 : Int) - (B.log2 : Int)).toNat = A.log2 - B.log2 by omega]
  have s2 : A.log2 ≤ B.log2 → lN B = lN (qU A B) := fun q => by
    unfold qU qK
    rw [show ((A.log2 : Int) - (B.log2 : Int)).toNat = 0 by omega, Nat.pow_zero, Nat.mul_one]
  have s3 : A.log2 ≤ B.log2 → lN A <<< ((-(nI A.log2 - nI B.log2)).toInt64 &&& 63) = lN (qO0 A B) := fun q => by
    rw [show -(nI A.log2 - nI B.log2) = nI (B.log2 - A.log2) from by rw [← ni_sub q]; exact Int32.neg_sub, wb_shl _ (by omega)]
    unfold qO0 qK
    rw [show (-((A.log2 : Int) - (B.log2 : Int))).toNat = B.log2 - A.log2 by omega]
  have s4 : B.log2 ≤ A.log2 → lN A = lN (qO0 A B) := fun q => by
    unfold qO0 qK
    rw [show (-((A.log2 : Int) - (B.log2 : Int))).toNat = 0 by omega, Nat.pow_zero, Nat.mul_one]
  rw [g1, g2]
  refine ⟨fun q => ⟨fun q2 => cmp2 _ _ _ (s4 q) (s2 q2) rfl, fun q2 => cmp2 _ _ _ (s4 q) (s1 q) rfl⟩, fun q => ⟨fun q2 => cmp2 _ _ _ (s3 q2) (s2 q2) rfl, fun q2 => absurd (Nat.le_of_lt (Nat.not_le.mp q)) q2⟩⟩
/-- a quotient's bits, without the sign -/
def qM (f : FP.Core.Fmt) (A B : Nat) : Nat := if A = 0 then 0 else (FP.Core.leading A B + f.emax - 1).toNat * f.tails + FP.Core.nearest (qO A B * 2 ^ (f.p - 1)) (qU A B)
theorem qM_enc (f : FP.Core.Fmt) (hp : 2 ≤ f.p) (he : 34 ≤ f.emax) (s : Bool) {A B : Nat} (hB : 0 < B) (hA2 : A < 2 ^ 33) (hB2 : B < 2 ^ 33) : FP.Core.encode f (FP.Core.roundRatio f s A B 0) = s.toNat * f.exps * f.tails + qM f A B := by
  unfold qM
  by_cases h : A = 0
  · rw [if_pos h, h]
    unfold FP.Core.roundRatio
    rw [if_pos rfl]
    unfold FP.Core.encode FP.Core.assemble
    simp only
    rw [if_pos (show 0 < f.tails from Nat.pow_pos (by decide))]
    simp
  · rw [if_neg h]
    exact div_enc f hp he s (by omega) hB hA2 hB2
theorem qM_lt (f : FP.Core.Fmt) (hp : 2 ≤ f.p) (he : 34 ≤ f.emax) {A B : Nat} (hB : 0 < B) (hA2 : A < 2 ^ 33) (hB2 : B < 2 ^ 33) : qM f A B ≤ (f.emax + 33) * f.tails := by
  unfold qM
  by_cases h : A = 0
  · rw [if_pos h]
    exact Nat.zero_le _
  · rw [if_neg h]
    obtain ⟨r1, r2, r3, -, -⟩ := q_rng (by omega) hB hA2 hB2
    have la := log2_lt (t := 33) (show 0 < A by omega) hA2
    have lb := log2_lt (t := 33) hB hB2
    have hL : FP.Core.leading A B ≤ 32 := by
      rw [q_lead]
      unfold qK
      split <;> omega
    have hn2 : FP.Core.nearest (qO A B * 2 ^ (f.p - 1)) (qU A B) ≤ 2 * f.tails := FP.Core.nearest_le r1 (by
      have := Nat.mul_le_mul_right (2 ^ (f.p - 1)) (Nat.le_of_lt r3)
      calc qO A B * 2 ^ (f.p - 1) ≤ 2 * qU A B * 2 ^ (f.p - 1) := this
        _ = 2 * 2 ^ (f.p - 1) * qU A B := by ac_rfl)
    have h3 : (FP.Core.leading A B + f.emax - 1).toNat ≤ f.emax + 31 := by omega
    have h4 := Nat.mul_le_mul_right f.tails h3
    have h5 : (f.emax + 33) * f.tails = (f.emax + 31) * f.tails + 2 * f.tails := by rw [← Nat.add_mul]
    omega
theorem i_abs (a : Int32) : a.toInt.natAbs ≤ 2 ^ 31 := by
  have h1 := a.toInt_lt
  have h2 := a.le_toInt
  simp only [Nat.reducePow] at *
  omega
theorem i_abs0 {a : Int32} (h : ¬ a = 0) : 0 < a.toInt.natAbs := by
  refine Nat.pos_of_ne_zero fun q => h (Int32.toInt_inj.mp ?_)
  rw [Int.natAbs_eq_zero.mp q]
  rfl
theorem fdiv_q (a b : Int32) (hb : ¬ b = 0) : FP.fdiv (FP.i2f a) (FP.i2f b) = UInt32.ofNat ((decide (a.toInt < 0) != decide (b.toInt < 0)).toNat * 2 ^ 31 + qM FP.Core.b32 (fpA 24 a.toInt.natAbs) (fpA 24 b.toInt.natAbs)) := by
  show UInt32.ofNat (FP.Core.encode FP.Core.b32 (FP.Core.quotient FP.Core.b32 (FP.Core.val32 (FP.Core.i2f a)) (FP.Core.val32 (FP.Core.i2f b)))) = _
  rw [FP.Core.val32_i2f, FP.Core.val32_i2f]
  show UInt32.ofNat (FP.Core.encode FP.Core.b32 (FP.Core.quotient FP.Core.b32 (FP.Core.roundRatio FP.Core.b32 (decide (a.toInt < 0)) a.toInt.natAbs 1 0) (FP.Core.roundRatio FP.Core.b32 (decide (b.toInt < 0)) b.toInt.natAbs 1 0))) = _
  have bb := fpA_bd (p := 24) (by decide) (i_abs0 hb) (i_abs b)
  have ba : fpA 24 a.toInt.natAbs < 2 ^ 33 := by
    by_cases h : a.toInt.natAbs = 0
    · rw [h]
      decide
    · exact (fpA_bd (p := 24) (by decide) (Nat.pos_of_ne_zero h) (i_abs a)).2
  rw [quo_ratio FP.Core.b32 (by decide) (by decide) (by decide) _ _ (i_abs a) (i_abs b) (i_abs0 hb), show FP.Core.b32.p = 24 from rfl, qM_enc FP.Core.b32 (by decide) (by decide) _ bb.1 ba bb.2]
  rw [Nat.mul_assoc, show FP.Core.b32.exps * FP.Core.b32.tails = 2 ^ 31 from by decide]
theorem ddiv_q (a b : Int32) (hb : ¬ b = 0) : FP.ddiv (FP.i2d a) (FP.i2d b) = UInt64.ofNat ((decide (a.toInt < 0) != decide (b.toInt < 0)).toNat * 2 ^ 63 + qM FP.Core.b64 (fpA 53 a.toInt.natAbs) (fpA 53 b.toInt.natAbs)) := by
  show UInt64.ofNat (FP.Core.encode FP.Core.b64 (FP.Core.quotient FP.Core.b64 (FP.Core.val64 (FP.Core.i2d a)) (FP.Core.val64 (FP.Core.i2d b)))) = _
  rw [FP.Core.val64_i2d, FP.Core.val64_i2d]
  show UInt64.ofNat (FP.Core.encode FP.Core.b64 (FP.Core.quotient FP.Core.b64 (FP.Core.roundRatio FP.Core.b64 (decide (a.toInt < 0)) a.toInt.natAbs 1 0) (FP.Core.roundRatio FP.Core.b64 (decide (b.toInt < 0)) b.toInt.natAbs 1 0))) = _
  have bb := fpA_bd (p := 53) (by decide) (i_abs0 hb) (i_abs b)
  have ba : fpA 53 a.toInt.natAbs < 2 ^ 33 := by
    by_cases h : a.toInt.natAbs = 0
    · rw [h]
      decide
    · exact (fpA_bd (p := 53) (by decide) (Nat.pos_of_ne_zero h) (i_abs a)).2
  rw [quo_ratio FP.Core.b64 (by decide) (by decide) (by decide) _ _ (i_abs a) (i_abs b) (i_abs0 hb), show FP.Core.b64.p = 53 from rfl, qM_enc FP.Core.b64 (by decide) (by decide) _ bb.1 ba bb.2]
  rw [Nat.mul_assoc, show FP.Core.b64.exps * FP.Core.b64.tails = 2 ^ 63 from by decide]
theorem fpA_53 {a : Nat} (ha : a ≤ 2 ^ 31) : fpA 53 a = a := by
  unfold fpA
  rw [if_pos]
  by_cases h : a = 0
  · subst h
    decide
  · exact Nat.lt_trans (log2_lt (t := 32) (by omega) (Nat.lt_of_le_of_lt ha (by decide))) (by decide)
/-- the sign and the digits: what signed() makes of them -/
theorem sgnd_q {kd : Int32} (hk : kd = 6 ∨ kd = 7) (a b : Int32) (hb : ¬ b = 0) {mi : Int32} (hmi : mi = if (decide (a.toInt < 0) != decide (b.toInt < 0)) = true then 1 else 0) {y : Int64} (hy : y = lN (qM (if kd = 6 then FP.Core.b32 else FP.Core.b64) (fpA (if kd = 6 then 24 else 53) a.toInt.natAbs) (fpA (if kd = 6 then 24 else 53) b.toInt.natAbs))) : sgnd kd mi y = quoV kd a b := by
  have bd : ∀ p, 1 ≤ p → fpA p a.toInt.natAbs < 2 ^ 33 := fun p hp => by
    by_cases h : a.toInt.natAbs = 0
    · rw [h]
      unfold fpA
      rw [if_pos (by rw [show Nat.log2 0 = 0 from by decide]; omega)]
      decide
    · exact (fpA_bd hp (Nat.pos_of_ne_zero h) (i_abs a)).2
  subst hmi hy
  rcases hk with rfl | rfl
  · have bb := fpA_bd (p := 24) (by decide) (i_abs0 hb) (i_abs b)
    have hl := qM_lt FP.Core.b32 (by decide) (by decide) bb.1 (bd 24 (by decide)) bb.2
    have hl2 : qM FP.Core.b32 (fpA 24 a.toInt.natAbs) (fpA 24 b.toInt.natAbs) < 2 ^ 31 := Nat.lt_of_le_of_lt hl (by decide)
    rw [if_pos rfl, if_pos rfl, sgnd_6 hl2]
    show _ = (FP.fdiv (FP.i2f a) (FP.i2f b)).toInt32.toInt64
    rw [fdiv_q a b hb]
    cases (decide (a.toInt < 0) != decide (b.toInt < 0)) <;> rfl
  · have bb := fpA_bd (p := 53) (by decide) (i_abs0 hb) (i_abs b)
    have hl := qM_lt FP.Core.b64 (by decide) (by decide) bb.1 (bd 53 (by decide)) bb.2
    have hl2 : qM FP.Core.b64 (fpA 53 a.toInt.natAbs) (fpA 53 b.toInt.natAbs) < 2 ^ 63 := Nat.lt_of_le_of_lt hl (by decide)
    rw [if_neg (show ¬ (7 : Int32) = 6 by decide), if_neg (show ¬ (7 : Int32) = 6 by decide), sgnd_7 hl2]
    show _ = (FP.ddiv (FP.i2d a) (FP.i2d b)).toInt64
    rw [ddiv_q a b hb]
    cases (decide (a.toInt < 0) != decide (b.toInt < 0)) <;> rfl
set_option maxRecDepth 100000 in
set_option maxHeartbeats 4000000 in
theorem X4_quot_ok {g : Ge} {w : Wd} {k n : Nat} {K : Int64 → Wd → Nat → Nat → Prop} (kd a b : Int32) (hk : kd = 6 ∨ kd = 7) (hb : ¬ b = 0) (h : K (quoV kd a b) w k n) : cL g mX4_quotient [.int kd, .long a.toInt64, .long b.toInt64] w k n K := by
  have hN : ∀ x : Int32, (0 ≤ x.toInt64) = (0 ≤ x.toInt) := fun x => by
    rw [Int64.le_iff_toInt_le, Int32.toInt_toInt64]
    rfl
  have b0 := i_abs0 hb
  have bB := i_abs b
  have bA := i_abs a
  have dK : ∀ p, 1 ≤ p → fpA p a.toInt.natAbs < 2 ^ 33 ∧ (fpA p a.toInt.natAbs = 0 ↔ a.toInt.natAbs = 0) := fun p hp => by
    by_cases h : a.toInt.natAbs = 0
    · have e : fpA p 0 = 0 := by
        unfold fpA
        rw [if_pos (by rw [show Nat.log2 0 = 0 from by decide]; omega)]
      rw [h, e]
      exact ⟨by decide, Iff.rfl⟩
    · have := fpA_bd hp (Nat.pos_of_ne_zero h) bA
      exact ⟨this.2, by omega⟩
  have fin : ∀ (p : Nat) (mi : Int32), p = (if kd = 6 then 24 else 53) → mi = (if (decide (a.toInt < 0) != decide (b.toInt < 0)) = true then 1 else 0) → R g mX4_quotient (fun r w' => ∃ x, r = some (Value.long x) ∧ K x w' k n) 64 [some (.int kd), some (.long a.toInt64), none, some (.long b.toInt64), none, some (.int mi), some (.long (lN (fpA p a.toInt.natAbs))), none, some (.long (lN (fpA p b.toInt.natAbs))), none] [] w 0 0 := by
    intro p mi hp hmi
    have hp1 : 1 ≤ p ∧ p ≤ 53 := by
      rw [hp]
      split <;> decide
    have hpI : (if kd = 6 then (24 : Int32) else 53) = nI p := by
      rw [hp]
      split <;> rfl
    obtain ⟨c1, c2⟩ := dK p hp1.1
    obtain ⟨c3, c4⟩ := fpA_bd hp1.1 b0 bB
    have endd : ∀ y : Int64, y = lN (qM (if kd = 6 then FP.Core.b32 else FP.Core.b64) (fpA p a.toInt.natAbs) (fpA p b.toInt.natAbs)) → R g mX4_quotient (fun r w' => ∃ x, r = some (Value.long x) ∧ K x w' k n) 86 [some (.int kd), some (.long a.toInt64), none, some (.long b.toInt64), none, some (.int mi), some (.long (lN (fpA p a.toInt.natAbs))), none, some (.long (lN (fpA p b.toInt.natAbs))), none] [.long y, .int mi, .int kd] w 0 0 := fun y hy => by
      simp only [vX4_quotient_86, pI_c, pL_c, pF_c, pD_c, pA_n, pA_c, pA_rf, pR_c, pR_rf, pV_i, pV_a, pV_n, pV_rf, ldI_c, ldL_c, ldF_c, ldD_c, ldA_c, ldA_n, ldA_rf, dup2_l, dup2_ia, dup2_ir, popA_0, popA_s, getL_z, getL_s, setL_z, setL_1, setL_s, setL2_z, setL2_1, setL2_s, drop2_i, drop2_a, drop2_0, drop2_n, drop2_l, drop2_d, drop2_r, cwd_0, cwd_i, cwd_a, cwd_n, cwd_l, cwd_d, cwd_f, cwd_r, rf_s, rf_n, swi_0, swi_s, zR_b0, zR_b1, zN_b0, zN_b1, entV_i, entV_a, entV_n, entV_r, entV_f, entV_l, entV_d, entV_s, entV_0, List.length_cons, List.length_nil, List.nil_append, List.cons_append, true_and, and_true, Nat.reduceAdd, Nat.reduceLT, Nat.reduceEqDiff, Nat.reduceLeDiff, Nat.reduceSub, Nat.zero_add, Classical.not_not, ex_i, ex_l, ex_d, ex_r, ex_rs, ex_rn, ex_sm, Nat.sub_zero, eq_self, wn_sI, wn_sL, wn_sP, wsh_sI, wsh_sL, wsh_sP, wI_sL, wI_sP, wL_sI, wL_sP, wP_sI, wP_sL, wI_sI, wL_sL, Int32.reduceLT, Int32.reduceLE, true_implies, not_true_eq_false, false_implies, not_false_eq_true, i_10]
      refine X4_signed_ok _ _ _ ?_
      simp only [vX4_quotient_89, pI_c, pL_c, pF_c, pD_c, pA_n, pA_c, pA_rf, pR_c, pR_rf, pV_i, pV_a, pV_n, pV_rf, ldI_c, ldL_c, ldF_c, ldD_c, ldA_c, ldA_n, ldA_rf, dup2_l, dup2_ia, dup2_ir, popA_0, popA_s, getL_z, getL_s, setL_z, setL_1, setL_s, setL2_z, setL2_1, setL2_s, drop2_i, drop2_a, drop2_0, drop2_n, drop2_l, drop2_d, drop2_r, cwd_0, cwd_i, cwd_a, cwd_n, cwd_l, cwd_d, cwd_f, cwd_r, rf_s, rf_n, swi_0, swi_s, zR_b0, zR_b1, zN_b0, zN_b1, entV_i, entV_a, entV_n, entV_r, entV_f, entV_l, entV_d, entV_s, entV_0, List.length_cons, List.length_nil, List.nil_append, List.cons_append, true_and, and_true, Nat.reduceAdd, Nat.reduceLT, Nat.reduceEqDiff, Nat.reduceLeDiff, Nat.reduceSub, Nat.zero_add, Classical.not_not, ex_i, ex_l, ex_d, ex_r, ex_rs, ex_rn, ex_sm, Nat.sub_zero, eq_self, wn_sI, wn_sL, wn_sP, wsh_sI, wsh_sL, wsh_sP, wI_sL, wI_sP, wL_sI, wL_sP, wP_sI, wP_sL, wI_sI, wL_sL, Int32.reduceLT, Int32.reduceLE, true_implies, not_true_eq_false, false_implies, not_false_eq_true, i_10]
      rw [hp] at hy
      rw [sgnd_q hk a b hb hmi hy]
      exact h
    simp only [vX4_quotient_64, vX4_quotient_65, vX4_quotient_67, vX4_quotient_69, vX4_quotient_70, vX4_quotient_71, vX4_quotient_74, vX4_quotient_75, vX4_quotient_78, vX4_quotient_79, vX4_quotient_81, vX4_quotient_83, pI_c, pL_c, pF_c, pD_c, pA_n, pA_c, pA_rf, pR_c, pR_rf, pV_i, pV_a, pV_n, pV_rf, ldI_c, ldL_c, ldF_c, ldD_c, ldA_c, ldA_n, ldA_rf, dup2_l, dup2_ia, dup2_ir, popA_0, popA_s, getL_z, getL_s, setL_z, setL_1, setL_s, setL2_z, setL2_1, setL2_s, drop2_i, drop2_a, drop2_0, drop2_n, drop2_l, drop2_d, drop2_r, cwd_0, cwd_i, cwd_a, cwd_n, cwd_l, cwd_d, cwd_f, cwd_r, rf_s, rf_n, swi_0, swi_s, zR_b0, zR_b1, zN_b0, zN_b1, entV_i, entV_a, entV_n, entV_r, entV_f, entV_l, entV_d, entV_s, entV_0, List.length_cons, List.length_nil, List.nil_append, List.cons_append, true_and, and_true, Nat.reduceAdd, Nat.reduceLT, Nat.reduceEqDiff, Nat.reduceLeDiff, Nat.reduceSub, Nat.zero_add, Classical.not_not, ex_i, ex_l, ex_d, ex_r, ex_rs, ex_rn, ex_sm, Nat.sub_zero, eq_self, wn_sI, wn_sL, wn_sP, wsh_sI, wsh_sL, wsh_sP, wI_sL, wI_sP, wL_sI, wL_sP, wP_sI, wP_sL, wI_sI, wL_sL, Int32.reduceLT, Int32.reduceLE, true_implies, not_true_eq_false, false_implies, not_false_eq_true, i_10, lgc0]
    rw [show (lN (fpA p a.toInt.natAbs) = 0) = (fpA p a.toInt.natAbs = 0) from lN_eq64 (Nat.lt_trans c1 (by decide)) (by decide)]
    have two : ∀ f : FP.Core.Fmt, f = (if kd = 6 then FP.Core.b32 else FP.Core.b64) → f.p = p := fun f hf => by
      rw [hf, hp]
      rcases hk with rfl | rfl <;> rfl
    refine ⟨fun q => ?_, fun q => ?_⟩
    · refine X4_ratio_ok hpI hp1.1 hp1.2 (Nat.pos_of_ne_zero q) c3 c1 c4 fun ex hex => ?_
      refine endd _ ?_
      have la := log2_lt (t := 33) (Nat.pos_of_ne_zero q) c1
      have lb := log2_lt (t := 33) c3 c4
      have hL : -33 ≤ FP.Core.leading (fpA p a.toInt.natAbs) (fpA p b.toInt.natAbs) ∧ FP.Core.leading (fpA p a.toInt.natAbs) (fpA p b.toInt.natAbs) ≤ 32 := by
        rw [q_lead]
        unfold qK
        split <;> omega
      unfold qM
      rw [if_neg q, two _ rfl]
      generalize FP.Core.leading (fpA p a.toInt.natAbs) (fpA p b.toInt.natAbs) = L at hex hL ⊢
      rcases hk with rfl | rfl
      · rw [if_pos rfl, cmpd_6 (t := (L + 127 - 1).toNat) (by omega) (by rw [hex]; omega)]
        rfl
      · rw [if_neg (show ¬ (7 : Int32) = 6 by decide), cmpd_7 (t := (L + 1023 - 1).toNat) (by omega) (by rw [hex]; omega)]
        rfl
    · refine endd _ ?_
      unfold qM
      rw [if_pos q]
      rfl
  have go : ∀ mi : Int32, mi = (if (decide (a.toInt < 0) != decide (b.toInt < 0)) = true then 1 else 0) → R g mX4_quotient (fun r w' => ∃ x, r = some (Value.long x) ∧ K x w' k n) 32 [some (.int kd), some (.long a.toInt64), none, some (.long b.toInt64), none, some (.int mi), none, none, none, none] [] w 0 0 := by
    intro mi hmi
    simp only [vX4_quotient_32, vX4_quotient_33, pI_c, pL_c, pF_c, pD_c, pA_n, pA_c, pA_rf, pR_c, pR_rf, pV_i, pV_a, pV_n, pV_rf, ldI_c, ldL_c, ldF_c, ldD_c, ldA_c, ldA_n, ldA_rf, dup2_l, dup2_ia, dup2_ir, popA_0, popA_s, getL_z, getL_s, setL_z, setL_1, setL_s, setL2_z, setL2_1, setL2_s, drop2_i, drop2_a, drop2_0, drop2_n, drop2_l, drop2_d, drop2_r, cwd_0, cwd_i, cwd_a, cwd_n, cwd_l, cwd_d, cwd_f, cwd_r, rf_s, rf_n, swi_0, swi_s, zR_b0, zR_b1, zN_b0, zN_b1, entV_i, entV_a, entV_n, entV_r, entV_f, entV_l, entV_d, entV_s, entV_0, List.length_cons, List.length_nil, List.nil_append, List.cons_append, true_and, and_true, Nat.reduceAdd, Nat.reduceLT, Nat.reduceEqDiff, Nat.reduceLeDiff, Nat.reduceSub, Nat.zero_add, Classical.not_not, ex_i, ex_l, ex_d, ex_r, ex_rs, ex_rn, ex_sm, Nat.sub_zero, eq_self, wn_sI, wn_sL, wn_sP, wsh_sI, wsh_sL, wsh_sP, wI_sL, wI_sP, wL_sI, wL_sP, wP_sI, wP_sL, wI_sI, wL_sL, Int32.reduceLT, Int32.reduceLE, true_implies, not_true_eq_false, false_implies, not_false_eq_true, i_10]
    refine J9_absL_ok _ ?_
    simp only [vX4_quotient_36, vX4_quotient_38, vX4_quotient_39, pI_c, pL_c, pF_c, pD_c, pA_n, pA_c, pA_rf, pR_c, pR_rf, pV_i, pV_a, pV_n, pV_rf, ldI_c, ldL_c, ldF_c, ldD_c, ldA_c, ldA_n, ldA_rf, dup2_l, dup2_ia, dup2_ir, popA_0, popA_s, getL_z, getL_s, setL_z, setL_1, setL_s, setL2_z, setL2_1, setL2_s, drop2_i, drop2_a, drop2_0, drop2_n, drop2_l, drop2_d, drop2_r, cwd_0, cwd_i, cwd_a, cwd_n, cwd_l, cwd_d, cwd_f, cwd_r, rf_s, rf_n, swi_0, swi_s, zR_b0, zR_b1, zN_b0, zN_b1, entV_i, entV_a, entV_n, entV_r, entV_f, entV_l, entV_d, entV_s, entV_0, List.length_cons, List.length_nil, List.nil_append, List.cons_append, true_and, and_true, Nat.reduceAdd, Nat.reduceLT, Nat.reduceEqDiff, Nat.reduceLeDiff, Nat.reduceSub, Nat.zero_add, Classical.not_not, ex_i, ex_l, ex_d, ex_r, ex_rs, ex_rn, ex_sm, Nat.sub_zero, eq_self, wn_sI, wn_sL, wn_sP, wsh_sI, wsh_sL, wsh_sP, wI_sL, wI_sP, wL_sI, wL_sP, wP_sI, wP_sL, wI_sI, wL_sL, Int32.reduceLT, Int32.reduceLE, true_implies, not_true_eq_false, false_implies, not_false_eq_true, i_10]
    refine J9_absL_ok _ ?_
    rw [Int32.toInt_toInt64, Int32.toInt_toInt64]
    simp only [vX4_quotient_42, vX4_quotient_44, vX4_quotient_45, vX4_quotient_47, vX4_quotient_50, vX4_quotient_52, pI_c, pL_c, pF_c, pD_c, pA_n, pA_c, pA_rf, pR_c, pR_rf, pV_i, pV_a, pV_n, pV_rf, ldI_c, ldL_c, ldF_c, ldD_c, ldA_c, ldA_n, ldA_rf, dup2_l, dup2_ia, dup2_ir, popA_0, popA_s, getL_z, getL_s, setL_z, setL_1, setL_s, setL2_z, setL2_1, setL2_s, drop2_i, drop2_a, drop2_0, drop2_n, drop2_l, drop2_d, drop2_r, cwd_0, cwd_i, cwd_a, cwd_n, cwd_l, cwd_d, cwd_f, cwd_r, rf_s, rf_n, swi_0, swi_s, zR_b0, zR_b1, zN_b0, zN_b1, entV_i, entV_a, entV_n, entV_r, entV_f, entV_l, entV_d, entV_s, entV_0, List.length_cons, List.length_nil, List.nil_append, List.cons_append, true_and, and_true, Nat.reduceAdd, Nat.reduceLT, Nat.reduceEqDiff, Nat.reduceLeDiff, Nat.reduceSub, Nat.zero_add, Classical.not_not, ex_i, ex_l, ex_d, ex_r, ex_rs, ex_rn, ex_sm, Nat.sub_zero, eq_self, wn_sI, wn_sL, wn_sP, wsh_sI, wsh_sL, wsh_sP, wI_sL, wI_sP, wL_sI, wL_sP, wP_sI, wP_sL, wI_sI, wL_sL, Int32.reduceLT, Int32.reduceLE, true_implies, not_true_eq_false, false_implies, not_false_eq_true, i_10]
    refine ⟨fun q => ?_, fun q => ?_⟩
    · have := fin 53 mi (by rw [if_neg q]) hmi
      rw [fpA_53 bA, fpA_53 bB] at this
      exact this
    · refine X4_asFloat_ok bA ?_
      simp only [vX4_quotient_55, vX4_quotient_57, vX4_quotient_59, pI_c, pL_c, pF_c, pD_c, pA_n, pA_c, pA_rf, pR_c, pR_rf, pV_i, pV_a, pV_n, pV_rf, ldI_c, ldL_c, ldF_c, ldD_c, ldA_c, ldA_n, ldA_rf, dup2_l, dup2_ia, dup2_ir, popA_0, popA_s, getL_z, getL_s, setL_z, setL_1, setL_s, setL2_z, setL2_1, setL2_s, drop2_i, drop2_a, drop2_0, drop2_n, drop2_l, drop2_d, drop2_r, cwd_0, cwd_i, cwd_a, cwd_n, cwd_l, cwd_d, cwd_f, cwd_r, rf_s, rf_n, swi_0, swi_s, zR_b0, zR_b1, zN_b0, zN_b1, entV_i, entV_a, entV_n, entV_r, entV_f, entV_l, entV_d, entV_s, entV_0, List.length_cons, List.length_nil, List.nil_append, List.cons_append, true_and, and_true, Nat.reduceAdd, Nat.reduceLT, Nat.reduceEqDiff, Nat.reduceLeDiff, Nat.reduceSub, Nat.zero_add, Classical.not_not, ex_i, ex_l, ex_d, ex_r, ex_rs, ex_rn, ex_sm, Nat.sub_zero, eq_self, wn_sI, wn_sL, wn_sP, wsh_sI, wsh_sL, wsh_sP, wI_sL, wI_sP, wL_sI, wL_sP, wP_sI, wP_sL, wI_sI, wL_sL, Int32.reduceLT, Int32.reduceLE, true_implies, not_true_eq_false, false_implies, not_false_eq_true, i_10]
      refine X4_asFloat_ok bB ?_
      simp only [vX4_quotient_62, pI_c, pL_c, pF_c, pD_c, pA_n, pA_c, pA_rf, pR_c, pR_rf, pV_i, pV_a, pV_n, pV_rf, ldI_c, ldL_c, ldF_c, ldD_c, ldA_c, ldA_n, ldA_rf, dup2_l, dup2_ia, dup2_ir, popA_0, popA_s, getL_z, getL_s, setL_z, setL_1, setL_s, setL2_z, setL2_1, setL2_s, drop2_i, drop2_a, drop2_0, drop2_n, drop2_l, drop2_d, drop2_r, cwd_0, cwd_i, cwd_a, cwd_n, cwd_l, cwd_d, cwd_f, cwd_r, rf_s, rf_n, swi_0, swi_s, zR_b0, zR_b1, zN_b0, zN_b1, entV_i, entV_a, entV_n, entV_r, entV_f, entV_l, entV_d, entV_s, entV_0, List.length_cons, List.length_nil, List.nil_append, List.cons_append, true_and, and_true, Nat.reduceAdd, Nat.reduceLT, Nat.reduceEqDiff, Nat.reduceLeDiff, Nat.reduceSub, Nat.zero_add, Classical.not_not, ex_i, ex_l, ex_d, ex_r, ex_rs, ex_rn, ex_sm, Nat.sub_zero, eq_self, wn_sI, wn_sL, wn_sP, wsh_sI, wsh_sL, wsh_sP, wI_sL, wI_sP, wL_sI, wL_sP, wP_sI, wP_sL, wI_sI, wL_sL, Int32.reduceLT, Int32.reduceLE, true_implies, not_true_eq_false, false_implies, not_false_eq_true, i_10]
      exact fin 24 mi (by rw [if_pos q]) hmi
  refine cL_of 10 0 0 rfl (by decide +kernel) rfl (Nat.le_of_ble_eq_true rfl) (Nat.zero_le _) (Nat.zero_le _) ?_
  simp only [vX4_quotient_0, vX4_quotient_1, vX4_quotient_2, vX4_quotient_3, vX4_quotient_6, vX4_quotient_7, vX4_quotient_10, vX4_quotient_11, vX4_quotient_12, vX4_quotient_13, vX4_quotient_14, vX4_quotient_17, vX4_quotient_18, vX4_quotient_21, vX4_quotient_22, vX4_quotient_25, vX4_quotient_26, vX4_quotient_29, vX4_quotient_30, pI_c, pL_c, pF_c, pD_c, pA_n, pA_c, pA_rf, pR_c, pR_rf, pV_i, pV_a, pV_n, pV_rf, ldI_c, ldL_c, ldF_c, ldD_c, ldA_c, ldA_n, ldA_rf, dup2_l, dup2_ia, dup2_ir, popA_0, popA_s, getL_z, getL_s, setL_z, setL_1, setL_s, setL2_z, setL2_1, setL2_s, drop2_i, drop2_a, drop2_0, drop2_n, drop2_l, drop2_d, drop2_r, cwd_0, cwd_i, cwd_a, cwd_n, cwd_l, cwd_d, cwd_f, cwd_r, rf_s, rf_n, swi_0, swi_s, zR_b0, zR_b1, zN_b0, zN_b1, entV_i, entV_a, entV_n, entV_r, entV_f, entV_l, entV_d, entV_s, entV_0, List.length_cons, List.length_nil, List.nil_append, List.cons_append, true_and, and_true, Nat.reduceAdd, Nat.reduceLT, Nat.reduceEqDiff, Nat.reduceLeDiff, Nat.reduceSub, Nat.zero_add, Classical.not_not, ex_i, ex_l, ex_d, ex_r, ex_rs, ex_rn, ex_sm, Nat.sub_zero, eq_self, wn_sI, wn_sL, wn_sP, wsh_sI, wsh_sL, wsh_sP, wI_sL, wI_sP, wL_sI, wL_sP, wP_sI, wP_sL, wI_sI, wL_sL, Int32.reduceLT, Int32.reduceLE, true_implies, not_true_eq_false, false_implies, not_false_eq_true, i_10, lg_nn, hN]
  refine ⟨fun p => ⟨fun q => go 0 ?_, fun q => ⟨fun z => absurd z (by decide), fun _ => go 1 ?_⟩⟩, fun p => ⟨fun q => go 1 ?_, fun q => go 0 ?_⟩⟩
  · rw [decide_eq_false (show ¬ a.toInt < 0 by omega), decide_eq_false (show ¬ b.toInt < 0 by omega)]
    rfl
  · rw [decide_eq_false (show ¬ a.toInt < 0 by omega), decide_eq_true (show b.toInt < 0 by omega)]
    rfl
  · rw [decide_eq_true (show a.toInt < 0 by omega), decide_eq_false (show ¬ b.toInt < 0 by omega)]
    rfl
  · rw [decide_eq_true (show a.toInt < 0 by omega), decide_eq_true (show b.toInt < 0 by omega)]
    rfl
