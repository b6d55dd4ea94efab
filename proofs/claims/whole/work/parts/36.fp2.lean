/-! floats and doubles: what l2f, l2d are, and the class's nearest() -/
theorem lN_ofInt (n : Nat) : lN n = Int64.ofInt (n : Int) := Int64.ofInt_eq_ofNat.symm
theorem abs_p {v : Int64} (h : 0 ≤ v.toInt) : v = lN v.toInt.natAbs := by
  rw [lN_ofInt, Int.natAbs_of_nonneg h, Int64.ofInt_toInt]
theorem abs_n {v : Int64} (h : v.toInt < 0) : -v = lN v.toInt.natAbs := by
  rw [lN_ofInt, Int.ofNat_natAbs_of_nonpos (by omega), Int64.ofInt_neg, Int64.ofInt_toInt]
theorem abs_le63 (v : Int64) : v.toInt.natAbs ≤ 2 ^ 63 := by
  have h1 := v.toInt_lt
  have h2 := v.le_toInt
  omega
theorem abs_0 {v : Int64} (h : ¬ v = 0) : 0 < v.toInt.natAbs := by
  rcases Nat.eq_zero_or_pos v.toInt.natAbs with q | q
  · exact absurd (Int64.toInt_inj.mp (show v.toInt = (0 : Int64).toInt by rw [Int.natAbs_eq_zero.mp q]; rfl)) h
  · exact q
theorem abs_log {v : Int64} (h : ¬ v = 0) : v.toInt.natAbs.log2 ≤ 63 := by
  have h1 := abs_le63 v
  have h2 := log2_lt (t := 64) (abs_0 h) (by omega)
  omega
/-- a whole number's bits, without the sign -/
def fpB (p b a : Nat) : Nat := (a.log2 + b) * 2 ^ (p - 1) + fpRnd a a.log2 p
theorem fpB32 {a : Nat} (h0 : 0 < a) (h : a.log2 ≤ 63) : fpB 24 126 a < 255 * 2 ^ 23 := by
  have := (fpRnd_in (p := 24) h0 (by decide)).2
  unfold fpB
  omega
theorem fpB64 {a : Nat} (h0 : 0 < a) (h : a.log2 ≤ 63) : fpB 53 1022 a < 2047 * 2 ^ 52 := by
  have := (fpRnd_in (p := 53) h0 (by decide)).2
  unfold fpB
  omega
theorem l2f_bits {v : Int64} (h : ¬ v = 0) : FP.l2f v = UInt32.ofNat ((if v.toInt < 0 then 2 ^ 31 else 0) + fpB 24 126 v.toInt.natAbs) := by
  show UInt32.ofNat (FP.Core.encode FP.Core.b32 (FP.Core.roundRatio FP.Core.b32 (decide (v.toInt < 0)) v.toInt.natAbs 1 0)) = _
  have hl := abs_log h
  rw [enc_int FP.Core.b32 (by decide) (by decide) _ _ (abs_0 h) (show _ + 1 ≤ 127 by omega)]
  congr 1
  unfold fpB
  by_cases q : v.toInt < 0
  · rw [if_pos q, decide_eq_true q]
    rfl
  · rw [if_neg q, decide_eq_false q]
    show 0 * 256 * 8388608 + _ = _
    simp only [Nat.zero_mul]
    rfl
theorem l2d_bits {v : Int64} (h : ¬ v = 0) : FP.l2d v = UInt64.ofNat ((if v.toInt < 0 then 2 ^ 63 else 0) + fpB 53 1022 v.toInt.natAbs) := by
  show UInt64.ofNat (FP.Core.encode FP.Core.b64 (FP.Core.roundRatio FP.Core.b64 (decide (v.toInt < 0)) v.toInt.natAbs 1 0)) = _
  have hl := abs_log h
  rw [enc_int FP.Core.b64 (by decide) (by decide) _ _ (abs_0 h) (show _ + 1 ≤ 1023 by omega)]
  congr 1
  unfold fpB
  by_cases q : v.toInt < 0
  · rw [if_pos q, decide_eq_true q]
    rfl
  · rw [if_neg q, decide_eq_false q]
    show 0 * 2048 * 4503599627370496 + _ = _
    simp only [Nat.zero_mul]
    rfl
theorem l2f_0 : FP.l2f 0 = 0 := by decide +kernel
theorem l2d_0 : FP.l2d 0 = 0 := by decide +kernel
theorem u32_i64 {n : Nat} (h : n < 2 ^ 31) : (UInt32.ofNat n).toInt32.toInt64 = lN n := nI_l h
theorem u32_i64' (n : Nat) : (UInt32.ofNat n).toInt32.toInt64 = (lN n).toInt32.toInt64 := by rw [lN_i]; rfl
theorem u64_i64 (n : Nat) : (UInt64.ofNat n).toInt64 = lN n := rfl
/-! the class: signed(), composed() -/
def sgnd (kd mi : Int32) (v : Int64) : Int64 := if mi = 0 then v else if kd = 6 then (v ||| 2147483648).toInt32.toInt64 else v ||| -9223372036854775808
def cmpd (kd : Int32) (u : Int64) (e : Int32) : Int64 := if kd = 6 then (((e + 127).toInt64 - 1) <<< ((23 : Int32).toInt64 &&& 63)) + u else (((e + 1023).toInt64 - 1) <<< ((52 : Int32).toInt64 &&& 63)) + u
set_option maxRecDepth 100000 in
set_option maxHeartbeats 4000000 in
theorem X4_signed_ok {g : Ge} {w : Wd} {k n : Nat} {K : Int64 → Wd → Nat → Nat → Prop} (kd mi : Int32) (v : Int64) (h : K (sgnd kd mi v) w k n) : cL g mX4_signed [.int kd, .int mi, .long v] w k n K := by
  refine cL_of 4 0 0 rfl (by decide +kernel) rfl (Nat.le_of_ble_eq_true rfl) (Nat.zero_le _) (Nat.zero_le _) ?_
  simp only [vX4_signed_0, vX4_signed_1, vX4_signed_4, vX4_signed_5, vX4_signed_6, vX4_signed_7, vX4_signed_9, vX4_signed_12, vX4_signed_13, vX4_signed_16, vX4_signed_17, vX4_signed_18, vX4_signed_19, vX4_signed_22, vX4_signed_23, vX4_signed_26, vX4_signed_27, pI_c, pL_c, pF_c, pD_c, pA_n, pA_c, pA_rf, pR_c, pR_rf, pV_i, pV_a, pV_n, pV_rf, ldI_c, ldL_c, ldF_c, ldD_c, ldA_c, ldA_n, ldA_rf, dup2_l, dup2_ia, dup2_ir, popA_0, popA_s, getL_z, getL_s, setL_z, setL_1, setL_s, setL2_z, setL2_1, setL2_s, drop2_i, drop2_a, drop2_0, drop2_n, drop2_l, drop2_d, drop2_r, cwd_0, cwd_i, cwd_a, cwd_n, cwd_l, cwd_d, cwd_f, cwd_r, rf_s, rf_n, swi_0, swi_s, zR_b0, zR_b1, zN_b0, zN_b1, entV_i, entV_a, entV_n, entV_r, entV_f, entV_l, entV_d, entV_s, entV_0, List.length_cons, List.length_nil, List.nil_append, List.cons_append, true_and, and_true, Nat.reduceAdd, Nat.reduceLT, Nat.reduceEqDiff, Nat.reduceLeDiff, Nat.reduceSub, Nat.zero_add, Classical.not_not, ex_i, ex_l, ex_d, ex_r, ex_rs, ex_rn, ex_sm, Nat.sub_zero, eq_self, wn_sI, wn_sL, wn_sP, wsh_sI, wsh_sL, wsh_sP, wI_sL, wI_sP, wL_sI, wL_sP, wP_sI, wP_sL, wI_sI, wL_sL, Int32.reduceLT, Int32.reduceLE, true_implies, not_true_eq_false, false_implies, not_false_eq_true, i_10]
  unfold sgnd at h
  refine ⟨fun q => ⟨fun q1 => ?_, fun q1 => ?_⟩, fun q => ?_⟩
  · rw [if_neg q, if_neg q1] at h
    exact h
  · rw [if_neg q, if_pos q1] at h
    exact h
  · rw [if_pos q] at h
    exact h
set_option maxRecDepth 100000 in
set_option maxHeartbeats 4000000 in
theorem X4_composed_ok {g : Ge} {w : Wd} {k n : Nat} {K : Int64 → Wd → Nat → Nat → Prop} (kd : Int32) (u : Int64) (e : Int32) (h : K (cmpd kd u e) w k n) : cL g mX4_composed [.int kd, .long u, .int e] w k n K := by
  refine cL_of 4 0 0 rfl (by decide +kernel) rfl (Nat.le_of_ble_eq_true rfl) (Nat.zero_le _) (Nat.zero_le _) ?_
  simp only [vX4_composed_0, vX4_composed_1, vX4_composed_3, vX4_composed_6, vX4_composed_7, vX4_composed_9, vX4_composed_10, vX4_composed_11, vX4_composed_12, vX4_composed_13, vX4_composed_15, vX4_composed_16, vX4_composed_17, vX4_composed_18, vX4_composed_19, vX4_composed_20, vX4_composed_23, vX4_composed_24, vX4_composed_25, vX4_composed_26, vX4_composed_27, vX4_composed_29, vX4_composed_30, vX4_composed_31, vX4_composed_32, pI_c, pL_c, pF_c, pD_c, pA_n, pA_c, pA_rf, pR_c, pR_rf, pV_i, pV_a, pV_n, pV_rf, ldI_c, ldL_c, ldF_c, ldD_c, ldA_c, ldA_n, ldA_rf, dup2_l, dup2_ia, dup2_ir, popA_0, popA_s, getL_z, getL_s, setL_z, setL_1, setL_s, setL2_z, setL2_1, setL2_s, drop2_i, drop2_a, drop2_0, drop2_n, drop2_l, drop2_d, drop2_r, cwd_0, cwd_i, cwd_a, cwd_n, cwd_l, cwd_d, cwd_f, cwd_r, rf_s, rf_n, swi_0, swi_s, zR_b0, zR_b1, zN_b0, zN_b1, entV_i, entV_a, entV_n, entV_r, entV_f, entV_l, entV_d, entV_s, entV_0, List.length_cons, List.length_nil, List.nil_append, List.cons_append, true_and, and_true, Nat.reduceAdd, Nat.reduceLT, Nat.reduceEqDiff, Nat.reduceLeDiff, Nat.reduceSub, Nat.zero_add, Classical.not_not, ex_i, ex_l, ex_d, ex_r, ex_rs, ex_rn, ex_sm, Nat.sub_zero, eq_self, wn_sI, wn_sL, wn_sP, wsh_sI, wsh_sL, wsh_sP, wI_sL, wI_sP, wL_sI, wL_sP, wP_sI, wP_sL, wI_sI, wL_sL, Int32.reduceLT, Int32.reduceLE, true_implies, not_true_eq_false, false_implies, not_false_eq_true, i_10]
  unfold cmpd at h
  refine ⟨fun q => ?_, fun q => ?_⟩
  · rw [if_neg q] at h
    exact h
  · rw [if_pos q] at h
    exact h
theorem lN_bmod {a : Int} (x : Int64) (h : x.toInt = a) (n : Nat) (hn : (n : Int) = a) : x = lN n := by
  rw [lN_ofInt, hn, ← h, Int64.ofInt_toInt]
/-- the exponent, moved -/
theorem e_mv {e : Int32} {b : Nat} {t : Nat} (hb : b < 2048) (ht : t < 2147483647) (h : e.toInt + b - 1 = (t : Int)) : (e + nI b).toInt64 - 1 = lN t := by
  have h1 : e + nI b = nI (t + 1) := by
    apply Int32.toInt_inj.mp
    rw [Int32.toInt_add, nI_toInt (by omega), nI_toInt (by omega)]
    exact (congrArg (fun z => Int.bmod z _) (show e.toInt + (b : Int) = ((t + 1 : Nat) : Int) by omega)).trans (Int.bmod_eq_of_le (by omega) (by omega))
  rw [h1, nI_l (by omega)]
  exact lN_sub (a := t + 1) (b := 1) (by omega)
theorem cmpd_6 {e : Int32} {t u : Nat} (ht : t < 2147483647) (h : e.toInt + 127 - 1 = (t : Int)) : cmpd 6 (lN u) e = lN (t * 2 ^ 23 + u) := by
  unfold cmpd
  rw [if_pos rfl, show (127 : Int32) = nI 127 from rfl, e_mv (b := 127) (by decide) ht h]
  rw [show (23 : Int32) = nI 23 from rfl, wb_shl t (by decide), lN_add]
theorem cmpd_7 {e : Int32} {t u : Nat} (ht : t < 2147483647) (h : e.toInt + 1023 - 1 = (t : Int)) : cmpd 7 (lN u) e = lN (t * 2 ^ 52 + u) := by
  unfold cmpd
  rw [if_neg (by decide), show (1023 : Int32) = nI 1023 from rfl, e_mv (b := 1023) (by decide) ht h]
  rw [show (52 : Int32) = nI 52 from rfl, wb_shl t (by decide), lN_add]
theorem sgnd_6 {n : Nat} (hn : n < 2 ^ 31) (c : Prop) [Decidable c] : sgnd 6 (if c then 1 else 0) (lN n) = (UInt32.ofNat ((if c then 2 ^ 31 else 0) + n)).toInt32.toInt64 := by
  unfold sgnd
  by_cases q : c
  · simp only [q, if_true]
    rw [if_neg (by decide), u32_i64', show (2147483648 : Int64) = lN (1 * 2 ^ 31) from rfl, g_or' (k := 31) rfl hn (by omega), Nat.one_mul, Nat.add_comm]
  · rw [if_neg q, if_pos rfl, if_neg q, Nat.zero_add, u32_i64 hn]
theorem sgnd_7 {n : Nat} (hn : n < 2 ^ 63) (c : Prop) [Decidable c] : sgnd 7 (if c then 1 else 0) (lN n) = (UInt64.ofNat ((if c then 2 ^ 63 else 0) + n)).toInt64 := by
  unfold sgnd
  by_cases q : c
  · simp only [q, if_true]
    rw [if_neg (by decide), if_neg (by decide), u64_i64, show (-9223372036854775808 : Int64) = lN (1 * 2 ^ 63) by decide, g_or' (k := 63) rfl hn (by omega), Nat.one_mul, Nat.add_comm]
  · rw [if_neg q, if_pos rfl, if_neg q, Nat.zero_add, u64_i64]
set_option maxRecDepth 100000 in
set_option maxHeartbeats 4000000 in
theorem X4_rounded_ok {g : Ge} {w : Wd} {k n : Nat} {K : Int64 → Wd → Nat → Nat → Prop} {a p : Nat} (h0 : 0 < a) (ha : a < 2 ^ 64) (hp : 2 ≤ p) (hp2 : p ≤ 53) (h : K (lN (fpRnd a a.log2 p)) w k n) : cL g mX4_rounded [.long (lN a), .int (nI a.log2 - nI p + 1)] w k n K := by
  have hl := log2_lt (t := 64) h0 ha
  unfold fpRnd at h
  by_cases q : a.log2 < p
  · rw [if_pos q] at h
    have e : nI a.log2 - nI p + 1 = -(nI (p - 1 - a.log2)) := by
      have e1 : nI (p - 1 - a.log2) + nI a.log2 + 1 = nI p := by rw [ni_add, ni_1]; congr 1; omega
      rw [← e1]
      have : ∀ x y : Int32, x - (y + x + 1) + 1 = -y := by
        intro x y
        grind
      exact this _ _
    rw [e]
    exact X4_rounded_neg (by omega) h
  · rw [if_neg q] at h
    have e : nI a.log2 - nI p + 1 = nI (a.log2 - (p - 1)) := by
      rw [ni_sub (by omega), ni_1]
      congr 1
      omega
    rw [e]
    by_cases q2 : a.log2 - (p - 1) ≤ 62
    · exact X4_rounded_pos ha (by omega) q2 h
    · omega
set_option maxRecDepth 100000 in
set_option maxHeartbeats 4000000 in
theorem X4_nearest_ok {g : Ge} {w : Wd} {k n : Nat} {K : Int64 → Wd → Nat → Nat → Prop} (kd : Int32) (hk : kd = 6 ∨ kd = 7) (v : Int64) (h : K (numOf kd v) w k n) : cL g mX4_nearest [.int kd, .long v] w k n K := by
  refine cL_of 8 0 0 rfl (by decide +kernel) rfl (Nat.le_of_ble_eq_true rfl) (Nat.zero_le _) (Nat.zero_le _) ?_
  simp only [vX4_nearest_0, vX4_nearest_1, vX4_nearest_2, vX4_nearest_3, vX4_nearest_6, vX4_nearest_7, vX4_nearest_8, vX4_nearest_9, vX4_nearest_10, vX4_nearest_11, vX4_nearest_14, vX4_nearest_15, vX4_nearest_16, vX4_nearest_19, vX4_nearest_21, vX4_nearest_22, vX4_nearest_25, vX4_nearest_27, vX4_nearest_28, vX4_nearest_30, vX4_nearest_31, vX4_nearest_34, vX4_nearest_35, vX4_nearest_36, vX4_nearest_37, vX4_nearest_40, vX4_nearest_42, vX4_nearest_43, vX4_nearest_44, vX4_nearest_45, vX4_nearest_46, vX4_nearest_49, vX4_nearest_50, vX4_nearest_53, vX4_nearest_54, vX4_nearest_55, vX4_nearest_57, vX4_nearest_59, vX4_nearest_62, vX4_nearest_65, pI_c, pL_c, pF_c, pD_c, pA_n, pA_c, pA_rf, pR_c, pR_rf, pV_i, pV_a, pV_n, pV_rf, ldI_c, ldL_c, ldF_c, ldD_c, ldA_c, ldA_n, ldA_rf, dup2_l, dup2_ia, dup2_ir, popA_0, popA_s, getL_z, getL_s, setL_z, setL_1, setL_s, setL2_z, setL2_1, setL2_s, drop2_i, drop2_a, drop2_0, drop2_n, drop2_l, drop2_d, drop2_r, cwd_0, cwd_i, cwd_a, cwd_n, cwd_l, cwd_d, cwd_f, cwd_r, rf_s, rf_n, swi_0, swi_s, zR_b0, zR_b1, zN_b0, zN_b1, entV_i, entV_a, entV_n, entV_r, entV_f, entV_l, entV_d, entV_s, entV_0, List.length_cons, List.length_nil, List.nil_append, List.cons_append, true_and, and_true, Nat.reduceAdd, Nat.reduceLT, Nat.reduceEqDiff, Nat.reduceLeDiff, Nat.reduceSub, Nat.zero_add, Classical.not_not, ex_i, ex_l, ex_d, ex_r, ex_rs, ex_rn, ex_sm, Nat.sub_zero, eq_self, wn_sI, wn_sL, wn_sP, wsh_sI, wsh_sL, wsh_sP, wI_sL, wI_sP, wL_sI, wL_sP, wP_sI, wP_sL, wI_sI, wL_sL, Int32.reduceLT, Int32.reduceLE, true_implies, not_true_eq_false, false_implies, not_false_eq_true, i_10, lgc, lg_nn]
  refine ⟨fun q => ?_, fun q => ?_⟩
  · have hR : ∀ K0 : Option Value → Wd → Prop, (∀ r w', r = some (.long (numOf kd v)) → w' = w → K0 r w') → R g mX4_nearest K0 20 [some (.int kd), some (.long v), none, none, none, none, none, none] [.long (lN v.toInt.natAbs)] w 0 0 := by
      intro K0 hK0
      have h0 := abs_0 q
      have hlt : v.toInt.natAbs < 2 ^ 64 := by have := abs_le63 v; omega
      have hl := abs_log q
      simp only [vX4_nearest_0, vX4_nearest_1, vX4_nearest_2, vX4_nearest_3, vX4_nearest_6, vX4_nearest_7, vX4_nearest_8, vX4_nearest_9, vX4_nearest_10, vX4_nearest_11, vX4_nearest_14, vX4_nearest_15, vX4_nearest_16, vX4_nearest_19, vX4_nearest_20, vX4_nearest_21, vX4_nearest_22, vX4_nearest_25, vX4_nearest_27, vX4_nearest_28, vX4_nearest_30, vX4_nearest_31, vX4_nearest_34, vX4_nearest_35, vX4_nearest_36, vX4_nearest_37, vX4_nearest_40, vX4_nearest_42, vX4_nearest_43, vX4_nearest_44, vX4_nearest_45, vX4_nearest_46, vX4_nearest_49, vX4_nearest_50, vX4_nearest_53, vX4_nearest_55, vX4_nearest_57, vX4_nearest_59, vX4_nearest_62, vX4_nearest_65, pI_c, pL_c, pF_c, pD_c, pA_n, pA_c, pA_rf, pR_c, pR_rf, pV_i, pV_a, pV_n, pV_rf, ldI_c, ldL_c, ldF_c, ldD_c, ldA_c, ldA_n, ldA_rf, dup2_l, dup2_ia, dup2_ir, popA_0, popA_s, getL_z, getL_s, setL_z, setL_1, setL_s, setL2_z, setL2_1, setL2_s, drop2_i, drop2_a, drop2_0, drop2_n, drop2_l, drop2_d, drop2_r, cwd_0, cwd_i, cwd_a, cwd_n, cwd_l, cwd_d, cwd_f, cwd_r, rf_s, rf_n, swi_0, swi_s, zR_b0, zR_b1, zN_b0, zN_b1, entV_i, entV_a, entV_n, entV_r, entV_f, entV_l, entV_d, entV_s, entV_0, List.length_cons, List.length_nil, List.nil_append, List.cons_append, true_and, and_true, Nat.reduceAdd, Nat.reduceLT, Nat.reduceEqDiff, Nat.reduceLeDiff, Nat.reduceSub, Nat.zero_add, Classical.not_not, ex_i, ex_l, ex_d, ex_r, ex_rs, ex_rn, ex_sm, Nat.sub_zero, eq_self, wn_sI, wn_sL, wn_sP, wsh_sI, wsh_sL, wsh_sP, wI_sL, wI_sP, wL_sI, wL_sP, wP_sI, wP_sL, wI_sI, wL_sL, Int32.reduceLT, Int32.reduceLE, true_implies, not_true_eq_false, false_implies, not_false_eq_true, i_10, lg_nn]
      refine X4_topBit_ok hlt ?_
      refine X4_digitsOf_ok kd ?_
      rw [show (if kd = 6 then (24 : Int32) else 53) = nI (if kd = 6 then 24 else 53) by split <;> rfl]
      refine X4_rounded_ok h0 hlt (by split <;> decide) (by split <;> decide) ?_
      have fin : ∀ mi : Int32, mi = (if v.toInt < 0 then 1 else 0) → R g mX4_nearest K0 54 [some (.int kd), some (.long v), none, some (.long (lN v.toInt.natAbs)), none, some (.int (nI v.toInt.natAbs.log2)), some (.long (lN (fpRnd v.toInt.natAbs v.toInt.natAbs.log2 (if kd = 6 then 24 else 53)))), none] [.int mi, .int kd] w 0 0 := by
        intro mi hmi
        subst hmi
        simp only [vX4_nearest_0, vX4_nearest_1, vX4_nearest_2, vX4_nearest_3, vX4_nearest_6, vX4_nearest_7, vX4_nearest_8, vX4_nearest_9, vX4_nearest_10, vX4_nearest_11, vX4_nearest_14, vX4_nearest_15, vX4_nearest_16, vX4_nearest_19, vX4_nearest_20, vX4_nearest_21, vX4_nearest_22, vX4_nearest_25, vX4_nearest_27, vX4_nearest_28, vX4_nearest_30, vX4_nearest_31, vX4_nearest_34, vX4_nearest_35, vX4_nearest_36, vX4_nearest_37, vX4_nearest_40, vX4_nearest_42, vX4_nearest_43, vX4_nearest_44, vX4_nearest_45, vX4_nearest_46, vX4_nearest_49, vX4_nearest_50, vX4_nearest_53, vX4_nearest_54, vX4_nearest_55, vX4_nearest_57, vX4_nearest_59, vX4_nearest_62, vX4_nearest_65, pI_c, pL_c, pF_c, pD_c, pA_n, pA_c, pA_rf, pR_c, pR_rf, pV_i, pV_a, pV_n, pV_rf, ldI_c, ldL_c, ldF_c, ldD_c, ldA_c, ldA_n, ldA_rf, dup2_l, dup2_ia, dup2_ir, popA_0, popA_s, getL_z, getL_s, setL_z, setL_1, setL_s, setL2_z, setL2_1, setL2_s, drop2_i, drop2_a, drop2_0, drop2_n, drop2_l, drop2_d, drop2_r, cwd_0, cwd_i, cwd_a, cwd_n, cwd_l, cwd_d, cwd_f, cwd_r, rf_s, rf_n, swi_0, swi_s, zR_b0, zR_b1, zN_b0, zN_b1, entV_i, entV_a, entV_n, entV_r, entV_f, entV_l, entV_d, entV_s, entV_0, List.length_cons, List.length_nil, List.nil_append, List.cons_append, true_and, and_true, Nat.reduceAdd, Nat.reduceLT, Nat.reduceEqDiff, Nat.reduceLeDiff, Nat.reduceSub, Nat.zero_add, Classical.not_not, ex_i, ex_l, ex_d, ex_r, ex_rs, ex_rn, ex_sm, Nat.sub_zero, eq_self, wn_sI, wn_sL, wn_sP, wsh_sI, wsh_sL, wsh_sP, wI_sL, wI_sP, wL_sI, wL_sP, wP_sI, wP_sL, wI_sI, wL_sL, Int32.reduceLT, Int32.reduceLE, true_implies, not_true_eq_false, false_implies, not_false_eq_true, i_10]
        refine X4_composed_ok _ _ _ ?_
        refine X4_signed_ok _ _ _ ?_
        refine hK0 _ _ ?_ rfl
        have et : (nI v.toInt.natAbs.log2).toInt = (v.toInt.natAbs.log2 : Int) := nI_toInt (by omega)
        congr 2
        rcases hk with rfl | rfl
        · rw [if_pos rfl, cmpd_6 (t := v.toInt.natAbs.log2 + 126) (by omega) (by rw [et]; omega), sgnd_6 (by have := fpB32 h0 hl; unfold fpB at this; omega)]
          rw [show numOf 6 v = (FP.l2f v).toInt32.toInt64 from rfl, l2f_bits q]
          rfl
        · rw [if_neg (show ¬ (7 : Int32) = 6 by decide), cmpd_7 (t := v.toInt.natAbs.log2 + 1022) (by omega) (by rw [et]; omega), sgnd_7 (by have := fpB64 h0 hl; unfold fpB at this; omega)]
          rw [show numOf 7 v = (FP.l2d v).toInt64 from rfl, l2d_bits q]
          rfl
      refine ⟨fun z => fin 0 ?_, fun z => fin 1 ?_⟩
      · rw [if_neg]
        rw [Int64.le_iff_toInt_le] at z
        have : (0 : Int64).toInt = 0 := rfl
        omega
      · rw [if_pos]
        rw [Int64.le_iff_toInt_le] at z
        have : (0 : Int64).toInt = 0 := rfl
        omega
    refine ⟨fun z => ?_, fun z => ?_⟩
    · rw [Int64.le_iff_toInt_le] at z
      have e0 : (0 : Int64).toInt = 0 := rfl
      have := hR (fun r w' => ∃ x, r = some (.long x) ∧ K x w' k n) (fun r w' e1 e2 => ⟨_, e1, e2 ▸ h⟩)
      rw [← abs_p (by omega)] at this
      exact this
    · rw [Int64.le_iff_toInt_le] at z
      have e0 : (0 : Int64).toInt = 0 := rfl
      have := hR (fun r w' => ∃ x, r = some (.long x) ∧ K x w' k n) (fun r w' e1 e2 => ⟨_, e1, e2 ▸ h⟩)
      rw [← abs_n (by omega)] at this
      exact this
  · subst q
    rcases hk with rfl | rfl
    · rw [show numOf 6 0 = (FP.l2f 0).toInt32.toInt64 from rfl, l2f_0] at h
      exact h
    · rw [show numOf 7 0 = (FP.l2d 0).toInt64 from rfl, l2d_0] at h
      exact h
