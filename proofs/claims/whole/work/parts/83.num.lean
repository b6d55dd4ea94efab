/-! the class: Numbers -/
def wdX (a b : Nat) : Bool := decide (a ≤ 7 ∧ b ≤ 7) && wds (nI a) (nI b)
theorem wdX_T : ∀ a, a < 8 → ∀ b, b < 8 → ((nI ([1, 250, 244, 248, 240, 224, 192, 128].getD a 0) >>> (nI b &&& 31)) &&& (1 : Int32) = 1 ↔ wds (nI a) (nI b) = true) := by decide +kernel
theorem staV_0 {g : Ge} {w : Wd} (h : Cn g w) : staV g (stQ 0) = .ref (gA g 1000 0) := by
  show (if gA g 1001 0 = 0 then Value.ref (gA g 1000 0) else Value.null) = _
  rw [if_pos h.2.1.1]
set_option maxRecDepth 100000 in
set_option maxHeartbeats 4000000 in
theorem X4_isNumberKind_ok {g : Ge} {w : Wd} {k n : Nat} {K : Int32 → Wd → Nat → Nat → Prop} (v : Int32) (h : K (b2i (0 ≤ v ∧ v ≤ 7)) w k n) : cI g mX4_isNumberKind [.int v] w k n K := by
  refine cI_of 1 0 0 rfl (by decide +kernel) rfl (Nat.le_of_ble_eq_true rfl) (Nat.zero_le _) (Nat.zero_le _) ?_
  simp only [vX4_isNumberKind_0, vX4_isNumberKind_1, vX4_isNumberKind_4, vX4_isNumberKind_5, vX4_isNumberKind_7, vX4_isNumberKind_10, vX4_isNumberKind_11, vX4_isNumberKind_14, vX4_isNumberKind_15, pI_c, pL_c, pF_c, pD_c, pA_n, pA_c, pA_rf, pR_c, pR_rf, pV_i, pV_a, pV_n, pV_rf, ldI_c, ldL_c, ldF_c, ldD_c, ldA_c, ldA_n, ldA_rf, dup2_l, dup2_ia, dup2_ir, popA_0, popA_s, getL_z, getL_s, setL_z, setL_1, setL_s, setL2_z, setL2_1, setL2_s, drop2_i, drop2_a, drop2_0, drop2_n, drop2_l, drop2_d, drop2_r, cwd_0, cwd_i, cwd_a, cwd_n, cwd_l, cwd_d, cwd_f, cwd_r, rf_s, rf_n, swi_0, swi_s, zR_b0, zR_b1, zN_b0, zN_b1, entV_i, entV_a, entV_n, entV_r, entV_f, entV_l, entV_d, entV_s, entV_0, List.length_cons, List.length_nil, List.nil_append, List.cons_append, true_and, and_true, Nat.reduceAdd, Nat.reduceLT, Nat.reduceEqDiff, Nat.reduceLeDiff, Nat.reduceSub, Nat.zero_add, Classical.not_not, ex_i, ex_l, ex_d, ex_r, ex_rs, ex_rn, ex_sm, Nat.sub_zero, eq_self, wn_sI, wn_sL, wn_sP, wsh_sI, wsh_sL, wsh_sP, wI_sL, wI_sP, wL_sI, wL_sP, wP_sI, wP_sL, wI_sI, wL_sL, Int32.reduceLT, Int32.reduceLE, true_implies, not_true_eq_false, false_implies, not_false_eq_true, i_10]
  refine ⟨fun q => ?_, fun q => ⟨fun q2 => ?_, fun q2 => ?_⟩⟩
  · rwa [b2i_f (fun z => absurd q (Int32.not_lt.mpr z.1))] at h
  · rwa [b2i_f (fun z => absurd q2 (Int32.not_lt.mpr z.2))] at h
  · rwa [b2i_t ⟨Int32.not_lt.mp q, Int32.not_lt.mp q2⟩] at h
set_option maxRecDepth 100000 in
set_option maxHeartbeats 4000000 in
theorem X4_isWholeKind_ok {g : Ge} {w : Wd} {k n : Nat} {K : Int32 → Wd → Nat → Nat → Prop} (v : Int32) (h : K (b2i (1 ≤ v ∧ v ≤ 5)) w k n) : cI g mX4_isWholeKind [.int v] w k n K := by
  refine cI_of 1 0 0 rfl (by decide +kernel) rfl (Nat.le_of_ble_eq_true rfl) (Nat.zero_le _) (Nat.zero_le _) ?_
  simp only [vX4_isWholeKind_0, vX4_isWholeKind_1, vX4_isWholeKind_2, vX4_isWholeKind_5, vX4_isWholeKind_6, vX4_isWholeKind_7, vX4_isWholeKind_10, vX4_isWholeKind_11, vX4_isWholeKind_14, vX4_isWholeKind_15, pI_c, pL_c, pF_c, pD_c, pA_n, pA_c, pA_rf, pR_c, pR_rf, pV_i, pV_a, pV_n, pV_rf, ldI_c, ldL_c, ldF_c, ldD_c, ldA_c, ldA_n, ldA_rf, dup2_l, dup2_ia, dup2_ir, popA_0, popA_s, getL_z, getL_s, setL_z, setL_1, setL_s, setL2_z, setL2_1, setL2_s, drop2_i, drop2_a, drop2_0, drop2_n, drop2_l, drop2_d, drop2_r, cwd_0, cwd_i, cwd_a, cwd_n, cwd_l, cwd_d, cwd_f, cwd_r, rf_s, rf_n, swi_0, swi_s, zR_b0, zR_b1, zN_b0, zN_b1, entV_i, entV_a, entV_n, entV_r, entV_f, entV_l, entV_d, entV_s, entV_0, List.length_cons, List.length_nil, List.nil_append, List.cons_append, true_and, and_true, Nat.reduceAdd, Nat.reduceLT, Nat.reduceEqDiff, Nat.reduceLeDiff, Nat.reduceSub, Nat.zero_add, Classical.not_not, ex_i, ex_l, ex_d, ex_r, ex_rs, ex_rn, ex_sm, Nat.sub_zero, eq_self, wn_sI, wn_sL, wn_sP, wsh_sI, wsh_sL, wsh_sP, wI_sL, wI_sP, wL_sI, wL_sP, wP_sI, wP_sL, wI_sI, wL_sL, Int32.reduceLT, Int32.reduceLE, true_implies, not_true_eq_false, false_implies, not_false_eq_true, i_10]
  refine ⟨fun q => ?_, fun q => ⟨fun q2 => ?_, fun q2 => ?_⟩⟩
  · rwa [b2i_f (fun z => absurd q (Int32.not_lt.mpr z.1))] at h
  · rwa [b2i_f (fun z => absurd q2 (Int32.not_lt.mpr z.2))] at h
  · rwa [b2i_t ⟨Int32.not_lt.mp q, Int32.not_lt.mp q2⟩] at h
theorem le_7 (a : Nat) (ha : a < 2147483648) : (0 ≤ nI a ∧ nI a ≤ 7) ↔ a ≤ 7 := by
  rw [ni_0 a ha, ni_lit 7, ni_le ha (by decide)]
  exact ⟨fun h => h.2, fun h => ⟨trivial, h⟩⟩
set_option maxRecDepth 100000 in
set_option maxHeartbeats 4000000 in
theorem X4_widens_ok {g : Ge} {w : Wd} {k n : Nat} {K : Int32 → Wd → Nat → Nat → Prop} {a b : Nat} (hC : Cn g w) (ha : a ≤ 9) (hb : b ≤ 9) (h : K (bI (wdX a b)) w k n) : cI g mX4_widens [.int (nI a), .int (nI b)] w k n K := by
  unfold wdX at h
  obtain ⟨-, -, e1, e2⟩ := hC.2.1
  refine cI_of 2 0 0 rfl (by decide +kernel) rfl (Nat.le_of_ble_eq_true rfl) (Nat.zero_le _) (Nat.zero_le _) ?_
  simp only [vX4_widens_0, vX4_widens_1, pI_c, pL_c, pF_c, pD_c, pA_n, pA_c, pA_rf, pR_c, pR_rf, pV_i, pV_a, pV_n, pV_rf, ldI_c, ldL_c, ldF_c, ldD_c, ldA_c, ldA_n, ldA_rf, dup2_l, dup2_ia, dup2_ir, popA_0, popA_s, getL_z, getL_s, setL_z, setL_1, setL_s, setL2_z, setL2_1, setL2_s, drop2_i, drop2_a, drop2_0, drop2_n, drop2_l, drop2_d, drop2_r, cwd_0, cwd_i, cwd_a, cwd_n, cwd_l, cwd_d, cwd_f, cwd_r, rf_s, rf_n, swi_0, swi_s, zR_b0, zR_b1, zN_b0, zN_b1, entV_i, entV_a, entV_n, entV_r, entV_f, entV_l, entV_d, entV_s, entV_0, List.length_cons, List.length_nil, List.nil_append, List.cons_append, true_and, and_true, Nat.reduceAdd, Nat.reduceLT, Nat.reduceEqDiff, Nat.reduceLeDiff, Nat.reduceSub, Nat.zero_add, Classical.not_not, ex_i, ex_l, ex_d, ex_r, ex_rs, ex_rn, ex_sm, Nat.sub_zero, eq_self, wn_sI, wn_sL, wn_sP, wsh_sI, wsh_sL, wsh_sP, wI_sL, wI_sP, wL_sI, wL_sP, wP_sI, wP_sL, wI_sI, wL_sL, Int32.reduceLT, Int32.reduceLE, true_implies, not_true_eq_false, false_implies, not_false_eq_true, i_10]
  refine X4_isNumberKind_ok _ ?_
  by_cases qa : a ≤ 7
  · rw [b2i_t ((le_7 a (by omega)).mpr qa)]
    simp only [vX4_widens_4, vX4_widens_7, vX4_widens_8, pI_c, pL_c, pF_c, pD_c, pA_n, pA_c, pA_rf, pR_c, pR_rf, pV_i, pV_a, pV_n, pV_rf, ldI_c, ldL_c, ldF_c, ldD_c, ldA_c, ldA_n, ldA_rf, dup2_l, dup2_ia, dup2_ir, popA_0, popA_s, getL_z, getL_s, setL_z, setL_1, setL_s, setL2_z, setL2_1, setL2_s, drop2_i, drop2_a, drop2_0, drop2_n, drop2_l, drop2_d, drop2_r, cwd_0, cwd_i, cwd_a, cwd_n, cwd_l, cwd_d, cwd_f, cwd_r, rf_s, rf_n, swi_0, swi_s, zR_b0, zR_b1, zN_b0, zN_b1, entV_i, entV_a, entV_n, entV_r, entV_f, entV_l, entV_d, entV_s, entV_0, List.length_cons, List.length_nil, List.nil_append, List.cons_append, true_and, and_true, Nat.reduceAdd, Nat.reduceLT, Nat.reduceEqDiff, Nat.reduceLeDiff, Nat.reduceSub, Nat.zero_add, Classical.not_not, ex_i, ex_l, ex_d, ex_r, ex_rs, ex_rn, ex_sm, Nat.sub_zero, eq_self, wn_sI, wn_sL, wn_sP, wsh_sI, wsh_sL, wsh_sP, wI_sL, wI_sP, wL_sI, wL_sP, wP_sI, wP_sL, wI_sI, wL_sL, Int32.reduceLT, Int32.reduceLE, true_implies, not_true_eq_false, false_implies, not_false_eq_true, i_10]
    refine X4_isNumberKind_ok _ ?_
    by_cases qb : b ≤ 7
    · rw [b2i_t ((le_7 b (by omega)).mpr qb)]
      rw [decide_eq_true (show a ≤ 7 ∧ b ≤ 7 from ⟨qa, qb⟩), Bool.true_and] at h
      have e3 := e2 a (by omega)
      simp (disch := omega) only [vX4_widens_11, vX4_widens_14, vX4_widens_17, vX4_widens_18, vX4_widens_19, vX4_widens_20, vX4_widens_21, vX4_widens_22, vX4_widens_23, vX4_widens_24, vX4_widens_27, vX4_widens_28, vX4_widens_31, vX4_widens_32, pI_c, pL_c, pF_c, pD_c, pA_n, pA_c, pA_rf, pR_c, pR_rf, pV_i, pV_a, pV_n, pV_rf, ldI_c, ldL_c, ldF_c, ldD_c, ldA_c, ldA_n, ldA_rf, dup2_l, dup2_ia, dup2_ir, popA_0, popA_s, getL_z, getL_s, setL_z, setL_1, setL_s, setL2_z, setL2_1, setL2_s, drop2_i, drop2_a, drop2_0, drop2_n, drop2_l, drop2_d, drop2_r, cwd_0, cwd_i, cwd_a, cwd_n, cwd_l, cwd_d, cwd_f, cwd_r, rf_s, rf_n, swi_0, swi_s, zR_b0, zR_b1, zN_b0, zN_b1, entV_i, entV_a, entV_n, entV_r, entV_f, entV_l, entV_d, entV_s, entV_0, List.length_cons, List.length_nil, List.nil_append, List.cons_append, true_and, and_true, Nat.reduceAdd, Nat.reduceLT, Nat.reduceEqDiff, Nat.reduceLeDiff, Nat.reduceSub, Nat.zero_add, Classical.not_not, ex_i, ex_l, ex_d, ex_r, ex_rs, ex_rn, ex_sm, Nat.sub_zero, eq_self, wn_sI, wn_sL, wn_sP, wsh_sI, wsh_sL, wsh_sP, wI_sL, wI_sP, wL_sI, wL_sP, wP_sI, wP_sL, wI_sI, wL_sL, Int32.reduceLT, Int32.reduceLE, true_implies, not_true_eq_false, false_implies, not_false_eq_true, i_10, na_1, nb_1, nm_1, ns_1, nr_1, na_2, nb_2, nm_2, ns_2, nr_2, na_3, nb_3, nm_3, ns_3, nr_3, na_4, nb_4, nm_4, ns_4, nr_4, na_5, nb_5, nm_5, ns_5, nr_5, na_6, nb_6, nm_6, ns_6, nr_6, na_7, nb_7, nm_7, ns_7, nr_7, na_8, nb_8, nm_8, ns_8, nr_8, na_10, nb_10, nm_10, ns_10, nr_10, na_16, nb_16, nm_16, ns_16, nr_16, nl_m1, ni_add, ni_mul, ni_sub, ni_cl, ni_in, vp_0, vp_1, vp_2, vp_3, vp_4, vp_5, Int32.reduceToNatClampNeg, i_10, staV_0 hC, e1, e3]
      have t := wdX_T a (by omega) b (by omega)
      refine ⟨fun q => ?_, fun q => ?_⟩
      · have q' : wds (nI a) (nI b) = false := Bool.eq_false_iff.mpr fun z => q (t.mpr z)
        rw [q'] at h
        exact h
      · rw [t.mp q] at h
        exact h
    · rw [b2i_f (fun z => qb ((le_7 b (by omega)).mp z))]
      rw [decide_eq_false (fun z => qb z.2), Bool.false_and] at h
      simp only [vX4_widens_11, vX4_widens_31, vX4_widens_32, pI_c, pL_c, pF_c, pD_c, pA_n, pA_c, pA_rf, pR_c, pR_rf, pV_i, pV_a, pV_n, pV_rf, ldI_c, ldL_c, ldF_c, ldD_c, ldA_c, ldA_n, ldA_rf, dup2_l, dup2_ia, dup2_ir, popA_0, popA_s, getL_z, getL_s, setL_z, setL_1, setL_s, setL2_z, setL2_1, setL2_s, drop2_i, drop2_a, drop2_0, drop2_n, drop2_l, drop2_d, drop2_r, cwd_0, cwd_i, cwd_a, cwd_n, cwd_l, cwd_d, cwd_f, cwd_r, rf_s, rf_n, swi_0, swi_s, zR_b0, zR_b1, zN_b0, zN_b1, entV_i, entV_a, entV_n, entV_r, entV_f, entV_l, entV_d, entV_s, entV_0, List.length_cons, List.length_nil, List.nil_append, List.cons_append, true_and, and_true, Nat.reduceAdd, Nat.reduceLT, Nat.reduceEqDiff, Nat.reduceLeDiff, Nat.reduceSub, Nat.zero_add, Classical.not_not, ex_i, ex_l, ex_d, ex_r, ex_rs, ex_rn, ex_sm, Nat.sub_zero, eq_self, wn_sI, wn_sL, wn_sP, wsh_sI, wsh_sL, wsh_sP, wI_sL, wI_sP, wL_sI, wL_sP, wP_sI, wP_sL, wI_sI, wL_sL, Int32.reduceLT, Int32.reduceLE, true_implies, not_true_eq_false, false_implies, not_false_eq_true, i_10]
      exact h
  · rw [b2i_f (fun z => qa ((le_7 a (by omega)).mp z))]
    rw [decide_eq_false (fun z => qa z.1), Bool.false_and] at h
    simp only [vX4_widens_4, vX4_widens_31, vX4_widens_32, pI_c, pL_c, pF_c, pD_c, pA_n, pA_c, pA_rf, pR_c, pR_rf, pV_i, pV_a, pV_n, pV_rf, ldI_c, ldL_c, ldF_c, ldD_c, ldA_c, ldA_n, ldA_rf, dup2_l, dup2_ia, dup2_ir, popA_0, popA_s, getL_z, getL_s, setL_z, setL_1, setL_s, setL2_z, setL2_1, setL2_s, drop2_i, drop2_a, drop2_0, drop2_n, drop2_l, drop2_d, drop2_r, cwd_0, cwd_i, cwd_a, cwd_n, cwd_l, cwd_d, cwd_f, cwd_r, rf_s, rf_n, swi_0, swi_s, zR_b0, zR_b1, zN_b0, zN_b1, entV_i, entV_a, entV_n, entV_r, entV_f, entV_l, entV_d, entV_s, entV_0, List.length_cons, List.length_nil, List.nil_append, List.cons_append, true_and, and_true, Nat.reduceAdd, Nat.reduceLT, Nat.reduceEqDiff, Nat.reduceLeDiff, Nat.reduceSub, Nat.zero_add, Classical.not_not, ex_i, ex_l, ex_d, ex_r, ex_rs, ex_rn, ex_sm, Nat.sub_zero, eq_self, wn_sI, wn_sL, wn_sP, wsh_sI, wsh_sL, wsh_sP, wI_sL, wI_sP, wL_sI, wL_sP, wP_sI, wP_sL, wI_sI, wL_sL, Int32.reduceLT, Int32.reduceLE, true_implies, not_true_eq_false, false_implies, not_false_eq_true, i_10]
    exact h
/-! whole numbers by their kinds -/
theorem i64_rng (v : Int64) : -(2 ^ 63) ≤ v.toInt ∧ v.toInt < 2 ^ 63 := ⟨v.le_toInt, v.toInt_lt⟩
theorem i64_1 (v : Int64) : v.toInt32.toInt8.toInt32.toInt64 = v ↔ -128 ≤ v.toInt ∧ v.toInt < 128 := by
  rw [← Int64.toInt_inj, Int32.toInt_toInt64, Int8.toInt_toInt32, Int32.toInt_toInt8, Int64.toInt_toInt32]
  constructor
  · intro h
    rw [← h]
    exact ⟨Int.le_bmod (m := 2 ^ 8) (by decide), Int.bmod_lt (m := 2 ^ 8) (by decide)⟩
  · intro h
    rw [show (v.toInt.bmod (2 ^ 32)) = v.toInt from Int.bmod_eq_of_le (by omega) (by omega)]
    exact Int.bmod_eq_of_le (by omega) (by omega)
theorem i64_3 (v : Int64) : v.toInt32.toInt16.toInt32.toInt64 = v ↔ -32768 ≤ v.toInt ∧ v.toInt < 32768 := by
  rw [← Int64.toInt_inj, Int32.toInt_toInt64, Int16.toInt_toInt32, Int32.toInt_toInt16, Int64.toInt_toInt32]
  constructor
  · intro h
    rw [← h]
    exact ⟨Int.le_bmod (m := 2 ^ 16) (by decide), Int.bmod_lt (m := 2 ^ 16) (by decide)⟩
  · intro h
    rw [show (v.toInt.bmod (2 ^ 32)) = v.toInt from Int.bmod_eq_of_le (by omega) (by omega)]
    exact Int.bmod_eq_of_le (by omega) (by omega)
theorem i64_4 (v : Int64) : v.toInt32.toInt64 = v ↔ -2147483648 ≤ v.toInt ∧ v.toInt < 2147483648 := by
  rw [← Int64.toInt_inj, Int32.toInt_toInt64, Int64.toInt_toInt32]
  constructor
  · intro h
    rw [← h]
    exact ⟨Int.le_bmod (m := 2 ^ 32) (by decide), Int.bmod_lt (m := 2 ^ 32) (by decide)⟩
  · intro h
    exact Int.bmod_eq_of_le (by omega) (by omega)
theorem sg_and (v : Int64) : (v.toInt32.toUInt32 % 65536).toInt32.toInt64 = v &&& 65535 := by
  obtain ⟨a, ha, rfl⟩ := wb_of v
  rw [show (65535 : Int64) = lN (2 ^ 16 - 1) from rfl, wb_mask ha (by decide)]
  have e1 : (lN a).toInt32.toUInt32 % 65536 = UInt32.ofNat (a % 2 ^ 16) := by
    rw [lN_i]
    apply UInt32.toNat_inj.mp
    rw [UInt32.toNat_mod]
    show (UInt32.ofNat a).toNat % 65536 = _
    rw [UInt32.toNat_ofNat', UInt32.toNat_ofNat']
    omega
  rw [e1]
  exact u32_i64 (by omega)
theorem i64_2 (v : Int64) : (v.toInt32.toUInt32 % 65536).toInt32.toInt64 = v ↔ 0 ≤ v.toInt ∧ v.toInt < 65536 := by
  rw [sg_and]
  obtain ⟨a, ha, rfl⟩ := wb_of v
  rw [show (65535 : Int64) = lN (2 ^ 16 - 1) from rfl, wb_mask ha (by decide), lN_ti ha, lN_eq64 (by omega) ha]
  constructor
  · intro h
    split <;> omega
  · intro h
    split at h <;> omega
theorem val_0 (v : Int64) : isVal 0 v = true ↔ v = 0 ∨ v = 1 := decide_eq_true_iff.trans (by
  show (if v = 0 then (0 : Int64) else 1) = v ↔ _
  by_cases q : v = 0
  · rw [if_pos q]; exact ⟨fun z => Or.inl z.symm, fun z => q.symm⟩
  · rw [if_neg q]; exact ⟨fun z => Or.inr z.symm, fun z => z.elim (fun y => absurd y q) fun y => y.symm⟩)
theorem val_1 (v : Int64) : isVal 1 v = true ↔ -128 ≤ v.toInt ∧ v.toInt < 128 := decide_eq_true_iff.trans (i64_1 v)
theorem val_2 (v : Int64) : isVal 2 v = true ↔ 0 ≤ v.toInt ∧ v.toInt < 65536 := decide_eq_true_iff.trans (i64_2 v)
theorem val_3 (v : Int64) : isVal 3 v = true ↔ -32768 ≤ v.toInt ∧ v.toInt < 32768 := decide_eq_true_iff.trans (i64_3 v)
theorem val_4 (v : Int64) : isVal 4 v = true ↔ -2147483648 ≤ v.toInt ∧ v.toInt < 2147483648 := decide_eq_true_iff.trans (i64_4 v)
theorem val_5 (v : Int64) : isVal 5 v = true := decide_eq_true_iff.mpr rfl
/-- to a wider whole kind it is the same number -/
theorem wds_whole {a b : Nat} {v : Int64} (ha : a ≤ 7) (hb1 : 1 ≤ b) (hb : b ≤ 5) (hw : wds (nI a) (nI b) = true) (hv : isVal (nI a) v = true) : wdn (nI a) v (nI b) = v := by
  unfold wdn
  by_cases e : nI a = nI b
  · rw [if_pos e]
  · rw [if_neg e]
    have hT : ∀ a, a < 8 → ∀ b, b < 6 → ((wds (nI a) (nI b) = true ∧ ¬ nI a = nI b) ↔ (a, b) ∈ [(1, 3), (1, 4), (1, 5), (2, 4), (2, 5), (3, 4), (3, 5), (4, 5)]) := by decide +kernel
    have hm := (hT a (by omega) b (by omega)).mp ⟨hw, e⟩
    simp only [List.mem_cons, Prod.mk.injEq, List.not_mem_nil, or_false] at hm
    rcases hm with ⟨rfl, rfl⟩ | ⟨rfl, rfl⟩ | ⟨rfl, rfl⟩ | ⟨rfl, rfl⟩ | ⟨rfl, rfl⟩ | ⟨rfl, rfl⟩ | ⟨rfl, rfl⟩ | ⟨rfl, rfl⟩
    · have := (val_1 v).mp hv
      exact (i64_3 v).mpr (by omega)
    · have := (val_1 v).mp hv
      exact (i64_4 v).mpr (by omega)
    · rfl
    · have := (val_2 v).mp hv
      exact (i64_4 v).mpr (by omega)
    · rfl
    · have := (val_3 v).mp hv
      exact (i64_4 v).mpr (by omega)
    · rfl
    · rfl
set_option maxRecDepth 100000 in
set_option maxHeartbeats 4000000 in
theorem X4_byLong_ok {g : Ge} {w : Wd} {k n : Nat} {K : Int64 → Wd → Nat → Nat → Prop} {a : Nat} (ha : a ≤ 7) (v : Int64) (h : K (numOf (nI a) v) w k n) : cL g mX4_byLong [.int (nI a), .long v] w k n K := by
  refine cL_of 3 0 0 rfl (by decide +kernel) rfl (Nat.le_of_ble_eq_true rfl) (Nat.zero_le _) (Nat.zero_le _) ?_
  simp only [vX4_byLong_0, vX4_byLong_1, vX4_byLong_48, vX4_byLong_49, vX4_byLong_50, vX4_byLong_51, vX4_byLong_60, vX4_byLong_61, vX4_byLong_62, vX4_byLong_63, vX4_byLong_64, vX4_byLong_65, vX4_byLong_66, vX4_byLong_69, vX4_byLong_70, vX4_byLong_71, vX4_byLong_72, vX4_byLong_73, vX4_byLong_74, vX4_byLong_75, vX4_byLong_76, vX4_byLong_77, vX4_byLong_78, vX4_byLong_79, vX4_byLong_86, vX4_byLong_87, pI_c, pL_c, pF_c, pD_c, pA_n, pA_c, pA_rf, pR_c, pR_rf, pV_i, pV_a, pV_n, pV_rf, ldI_c, ldL_c, ldF_c, ldD_c, ldA_c, ldA_n, ldA_rf, dup2_l, dup2_ia, dup2_ir, popA_0, popA_s, getL_z, getL_s, setL_z, setL_1, setL_s, setL2_z, setL2_1, setL2_s, drop2_i, drop2_a, drop2_0, drop2_n, drop2_l, drop2_d, drop2_r, cwd_0, cwd_i, cwd_a, cwd_n, cwd_l, cwd_d, cwd_f, cwd_r, rf_s, rf_n, swi_0, swi_s, zR_b0, zR_b1, zN_b0, zN_b1, entV_i, entV_a, entV_n, entV_r, entV_f, entV_l, entV_d, entV_s, entV_0, List.length_cons, List.length_nil, List.nil_append, List.cons_append, true_and, and_true, Nat.reduceAdd, Nat.reduceLT, Nat.reduceEqDiff, Nat.reduceLeDiff, Nat.reduceSub, Nat.zero_add, Classical.not_not, ex_i, ex_l, ex_d, ex_r, ex_rs, ex_rn, ex_sm, Nat.sub_zero, eq_self, wn_sI, wn_sL, wn_sP, wsh_sI, wsh_sL, wsh_sP, wI_sL, wI_sP, wL_sI, wL_sP, wP_sI, wP_sL, wI_sI, wL_sL, Int32.reduceLT, Int32.reduceLE, true_implies, not_true_eq_false, false_implies, not_false_eq_true, i_10, lgc0, sg_and]
  have ee : ∀ (x : Int32) (b : Nat), x = nI b → b < 9 → nI a = x → a = b := fun x b e hb q => by rw [e, ni_eq (by omega) (by omega)] at q; exact q
  refine ⟨fun q => ?_, fun q0 => ⟨fun q => ?_, fun q1 => ⟨fun q => ?_, fun q2 => ⟨fun q => ?_, fun q3 => ⟨fun q => ?_, fun q4 => ⟨fun q => ?_, fun q5 => ⟨fun q => ?_, fun q6 => ⟨fun q => ?_, fun q7 => ?_⟩⟩⟩⟩⟩⟩⟩⟩
  · obtain rfl := ee _ 0 rfl (by omega) q
    replace h : K (if v = 0 then 0 else 1) w k n := h
    simp only [vX4_byLong_54, vX4_byLong_55, vX4_byLong_58, vX4_byLong_59, pI_c, pL_c, pF_c, pD_c, pA_n, pA_c, pA_rf, pR_c, pR_rf, pV_i, pV_a, pV_n, pV_rf, ldI_c, ldL_c, ldF_c, ldD_c, ldA_c, ldA_n, ldA_rf, dup2_l, dup2_ia, dup2_ir, popA_0, popA_s, getL_z, getL_s, setL_z, setL_1, setL_s, setL2_z, setL2_1, setL2_s, drop2_i, drop2_a, drop2_0, drop2_n, drop2_l, drop2_d, drop2_r, cwd_0, cwd_i, cwd_a, cwd_n, cwd_l, cwd_d, cwd_f, cwd_r, rf_s, rf_n, swi_0, swi_s, zR_b0, zR_b1, zN_b0, zN_b1, entV_i, entV_a, entV_n, entV_r, entV_f, entV_l, entV_d, entV_s, entV_0, List.length_cons, List.length_nil, List.nil_append, List.cons_append, true_and, and_true, Nat.reduceAdd, Nat.reduceLT, Nat.reduceEqDiff, Nat.reduceLeDiff, Nat.reduceSub, Nat.zero_add, Classical.not_not, ex_i, ex_l, ex_d, ex_r, ex_rs, ex_rn, ex_sm, Nat.sub_zero, eq_self, wn_sI, wn_sL, wn_sP, wsh_sI, wsh_sL, wsh_sP, wI_sL, wI_sP, wL_sI, wL_sP, wP_sI, wP_sL, wI_sI, wL_sL, Int32.reduceLT, Int32.reduceLE, true_implies, not_true_eq_false, false_implies, not_false_eq_true, i_10]
    refine ⟨fun z => ?_, fun z => ?_⟩
    · rw [if_pos z] at h; exact h
    · rw [if_neg z] at h; exact h
  · obtain rfl := ee _ 1 rfl (by omega) q; exact h
  · obtain rfl := ee _ 2 rfl (by omega) q
    replace h : K ((v.toInt32.toUInt32 % 65536).toInt32.toInt64) w k n := h
    rw [sg_and] at h
    exact h
  · obtain rfl := ee _ 3 rfl (by omega) q; exact h
  · obtain rfl := ee _ 4 rfl (by omega) q; exact h
  · obtain rfl := ee _ 5 rfl (by omega) q; exact h
  · obtain rfl := ee _ 6 rfl (by omega) q
    simp only [vX4_byLong_80, vX4_byLong_81, vX4_byLong_82, pI_c, pL_c, pF_c, pD_c, pA_n, pA_c, pA_rf, pR_c, pR_rf, pV_i, pV_a, pV_n, pV_rf, ldI_c, ldL_c, ldF_c, ldD_c, ldA_c, ldA_n, ldA_rf, dup2_l, dup2_ia, dup2_ir, popA_0, popA_s, getL_z, getL_s, setL_z, setL_1, setL_s, setL2_z, setL2_1, setL2_s, drop2_i, drop2_a, drop2_0, drop2_n, drop2_l, drop2_d, drop2_r, cwd_0, cwd_i, cwd_a, cwd_n, cwd_l, cwd_d, cwd_f, cwd_r, rf_s, rf_n, swi_0, swi_s, zR_b0, zR_b1, zN_b0, zN_b1, entV_i, entV_a, entV_n, entV_r, entV_f, entV_l, entV_d, entV_s, entV_0, List.length_cons, List.length_nil, List.nil_append, List.cons_append, true_and, and_true, Nat.reduceAdd, Nat.reduceLT, Nat.reduceEqDiff, Nat.reduceLeDiff, Nat.reduceSub, Nat.zero_add, Classical.not_not, ex_i, ex_l, ex_d, ex_r, ex_rs, ex_rn, ex_sm, Nat.sub_zero, eq_self, wn_sI, wn_sL, wn_sP, wsh_sI, wsh_sL, wsh_sP, wI_sL, wI_sP, wL_sI, wL_sP, wP_sI, wP_sL, wI_sI, wL_sL, Int32.reduceLT, Int32.reduceLE, true_implies, not_true_eq_false, false_implies, not_false_eq_true, i_10]
    refine X4_nearest_ok _ (Or.inl rfl) v ?_
    simp only [vX4_byLong_85, pI_c, pL_c, pF_c, pD_c, pA_n, pA_c, pA_rf, pR_c, pR_rf, pV_i, pV_a, pV_n, pV_rf, ldI_c, ldL_c, ldF_c, ldD_c, ldA_c, ldA_n, ldA_rf, dup2_l, dup2_ia, dup2_ir, popA_0, popA_s, getL_z, getL_s, setL_z, setL_1, setL_s, setL2_z, setL2_1, setL2_s, drop2_i, drop2_a, drop2_0, drop2_n, drop2_l, drop2_d, drop2_r, cwd_0, cwd_i, cwd_a, cwd_n, cwd_l, cwd_d, cwd_f, cwd_r, rf_s, rf_n, swi_0, swi_s, zR_b0, zR_b1, zN_b0, zN_b1, entV_i, entV_a, entV_n, entV_r, entV_f, entV_l, entV_d, entV_s, entV_0, List.length_cons, List.length_nil, List.nil_append, List.cons_append, true_and, and_true, Nat.reduceAdd, Nat.reduceLT, Nat.reduceEqDiff, Nat.reduceLeDiff, Nat.reduceSub, Nat.zero_add, Classical.not_not, ex_i, ex_l, ex_d, ex_r, ex_rs, ex_rn, ex_sm, Nat.sub_zero, eq_self, wn_sI, wn_sL, wn_sP, wsh_sI, wsh_sL, wsh_sP, wI_sL, wI_sP, wL_sI, wL_sP, wP_sI, wP_sL, wI_sI, wL_sL, Int32.reduceLT, Int32.reduceLE, true_implies, not_true_eq_false, false_implies, not_false_eq_true, i_10]
    exact h
  · obtain rfl := ee _ 7 rfl (by omega) q
    simp only [vX4_byLong_80, vX4_byLong_81, vX4_byLong_82, pI_c, pL_c, pF_c, pD_c, pA_n, pA_c, pA_rf, pR_c, pR_rf, pV_i, pV_a, pV_n, pV_rf, ldI_c, ldL_c, ldF_c, ldD_c, ldA_c, ldA_n, ldA_rf, dup2_l, dup2_ia, dup2_ir, popA_0, popA_s, getL_z, getL_s, setL_z, setL_1, setL_s, setL2_z, setL2_1, setL2_s, drop2_i, drop2_a, drop2_0, drop2_n, drop2_l, drop2_d, drop2_r, cwd_0, cwd_i, cwd_a, cwd_n, cwd_l, cwd_d, cwd_f, cwd_r, rf_s, rf_n, swi_0, swi_s, zR_b0, zR_b1, zN_b0, zN_b1, entV_i, entV_a, entV_n, entV_r, entV_f, entV_l, entV_d, entV_s, entV_0, List.length_cons, List.length_nil, List.nil_append, List.cons_append, true_and, and_true, Nat.reduceAdd, Nat.reduceLT, Nat.reduceEqDiff, Nat.reduceLeDiff, Nat.reduceSub, Nat.zero_add, Classical.not_not, ex_i, ex_l, ex_d, ex_r, ex_rs, ex_rn, ex_sm, Nat.sub_zero, eq_self, wn_sI, wn_sL, wn_sP, wsh_sI, wsh_sL, wsh_sP, wI_sL, wI_sP, wL_sI, wL_sP, wP_sI, wP_sL, wI_sI, wL_sL, Int32.reduceLT, Int32.reduceLE, true_implies, not_true_eq_false, false_implies, not_false_eq_true, i_10]
    refine X4_nearest_ok _ (Or.inr rfl) v ?_
    simp only [vX4_byLong_85, pI_c, pL_c, pF_c, pD_c, pA_n, pA_c, pA_rf, pR_c, pR_rf, pV_i, pV_a, pV_n, pV_rf, ldI_c, ldL_c, ldF_c, ldD_c, ldA_c, ldA_n, ldA_rf, dup2_l, dup2_ia, dup2_ir, popA_0, popA_s, getL_z, getL_s, setL_z, setL_1, setL_s, setL2_z, setL2_1, setL2_s, drop2_i, drop2_a, drop2_0, drop2_n, drop2_l, drop2_d, drop2_r, cwd_0, cwd_i, cwd_a, cwd_n, cwd_l, cwd_d, cwd_f, cwd_r, rf_s, rf_n, swi_0, swi_s, zR_b0, zR_b1, zN_b0, zN_b1, entV_i, entV_a, entV_n, entV_r, entV_f, entV_l, entV_d, entV_s, entV_0, List.length_cons, List.length_nil, List.nil_append, List.cons_append, true_and, and_true, Nat.reduceAdd, Nat.reduceLT, Nat.reduceEqDiff, Nat.reduceLeDiff, Nat.reduceSub, Nat.zero_add, Classical.not_not, ex_i, ex_l, ex_d, ex_r, ex_rs, ex_rn, ex_sm, Nat.sub_zero, eq_self, wn_sI, wn_sL, wn_sP, wsh_sI, wsh_sL, wsh_sP, wI_sL, wI_sP, wL_sI, wL_sP, wP_sI, wP_sL, wI_sI, wL_sL, Int32.reduceLT, Int32.reduceLE, true_implies, not_true_eq_false, false_implies, not_false_eq_true, i_10]
    exact h
  · exfalso
    have n0 : a ≠ 0 := fun z => q0 (by rw [z]; rfl)
    have n1 : a ≠ 1 := fun z => q1 (by rw [z]; rfl)
    have n2 : a ≠ 2 := fun z => q2 (by rw [z]; rfl)
    have n3 : a ≠ 3 := fun z => q3 (by rw [z]; rfl)
    have n4 : a ≠ 4 := fun z => q4 (by rw [z]; rfl)
    have n5 : a ≠ 5 := fun z => q5 (by rw [z]; rfl)
    have n6 : a ≠ 6 := fun z => q6 (by rw [z]; rfl)
    have n7 : a ≠ 7 := fun z => q7 (by rw [z]; rfl)
    omega
set_option maxRecDepth 100000 in
set_option maxHeartbeats 4000000 in
theorem X4_widened_ok {g : Ge} {w : Wd} {k n : Nat} {K : Int64 → Wd → Nat → Nat → Prop} {a b : Nat} (v : Int64) (ha : a ≤ 8) (hb : b ≤ 8) (hab : a = b ∨ b = 8 ∨ (a ≤ 7 ∧ wds (nI a) (nI b) = true)) (hv : b ≠ 8 → cvl (nI a) v) (h : K (vwC (nI a) v (nI b)) w k n) : cL g mX4_widened [.int (nI a), .int (nI b), .long v] w k n K := by
  unfold vwC at h
  have hone : (b = 8 ∨ ¬ b = 8) := Decidable.em _
  refine cL_of 4 0 0 rfl (by decide +kernel) rfl (Nat.le_of_ble_eq_true rfl) (Nat.zero_le _) (Nat.zero_le _) ?_
  simp (disch := omega) only [vX4_widened_0, vX4_widened_1, vX4_widened_2, vX4_widened_5, vX4_widened_6, vX4_widened_8, vX4_widened_11, vX4_widened_12, vX4_widened_18, vX4_widened_19, pI_c, pL_c, pF_c, pD_c, pA_n, pA_c, pA_rf, pR_c, pR_rf, pV_i, pV_a, pV_n, pV_rf, ldI_c, ldL_c, ldF_c, ldD_c, ldA_c, ldA_n, ldA_rf, dup2_l, dup2_ia, dup2_ir, popA_0, popA_s, getL_z, getL_s, setL_z, setL_1, setL_s, setL2_z, setL2_1, setL2_s, drop2_i, drop2_a, drop2_0, drop2_n, drop2_l, drop2_d, drop2_r, cwd_0, cwd_i, cwd_a, cwd_n, cwd_l, cwd_d, cwd_f, cwd_r, rf_s, rf_n, swi_0, swi_s, zR_b0, zR_b1, zN_b0, zN_b1, entV_i, entV_a, entV_n, entV_r, entV_f, entV_l, entV_d, entV_s, entV_0, List.length_cons, List.length_nil, List.nil_append, List.cons_append, true_and, and_true, Nat.reduceAdd, Nat.reduceLT, Nat.reduceEqDiff, Nat.reduceLeDiff, Nat.reduceSub, Nat.zero_add, Classical.not_not, ex_i, ex_l, ex_d, ex_r, ex_rs, ex_rn, ex_sm, Nat.sub_zero, eq_self, wn_sI, wn_sL, wn_sP, wsh_sI, wsh_sL, wsh_sP, wI_sL, wI_sP, wL_sI, wL_sP, wP_sI, wP_sL, wI_sI, wL_sL, Int32.reduceLT, Int32.reduceLE, true_implies, not_true_eq_false, false_implies, not_false_eq_true, i_10, ni_le, ni_lt, ni_eq, ni_le1, ni_le0, ni_eq0, ni_eq1, ni_eq2, ni_eq8, ni_eq9]
  refine ⟨fun q => ?_, fun q => ⟨fun q2 => ?_, fun q2 => ?_⟩⟩
  · subst q
    by_cases q8 : nI a = 8
    · rw [if_pos q8] at h; exact h
    · rw [if_neg q8] at h
      unfold wdn at h
      rw [if_pos rfl] at h
      exact h
  · subst q2
    rw [if_pos (show nI 8 = 8 from rfl)] at h
    exact h
  · have q8 : ¬ nI b = 8 := by rw [ni_eq8 (by omega)]; exact q2
    rw [if_neg q8] at h
    obtain ⟨ha7, hw⟩ : a ≤ 7 ∧ wds (nI a) (nI b) = true := by
      rcases hab with z | z | z
      · exact absurd z q
      · exact absurd z q2
      · exact z
    have ha8 : ¬ nI a = 8 := by rw [ni_eq8 (by omega)]; omega
    have hv' : isVal (nI a) v = true := by have hv := hv q2; unfold cvl at hv; rwa [if_neg ha8] at hv
    refine X4_isWholeKind_ok _ ?_
    have eqv : (1 ≤ nI b ∧ nI b ≤ 5) = (1 ≤ b ∧ b ≤ 5) := by rw [ni_lit 1, ni_lit 5, ni_le (by decide) (by omega), ni_le (by omega) (by decide)]
    by_cases qw : 1 ≤ b ∧ b ≤ 5
    · rw [b2i_t (by rw [eqv]; exact qw)]
      simp only [vX4_widened_15, vX4_widened_18, vX4_widened_19, pI_c, pL_c, pF_c, pD_c, pA_n, pA_c, pA_rf, pR_c, pR_rf, pV_i, pV_a, pV_n, pV_rf, ldI_c, ldL_c, ldF_c, ldD_c, ldA_c, ldA_n, ldA_rf, dup2_l, dup2_ia, dup2_ir, popA_0, popA_s, getL_z, getL_s, setL_z, setL_1, setL_s, setL2_z, setL2_1, setL2_s, drop2_i, drop2_a, drop2_0, drop2_n, drop2_l, drop2_d, drop2_r, cwd_0, cwd_i, cwd_a, cwd_n, cwd_l, cwd_d, cwd_f, cwd_r, rf_s, rf_n, swi_0, swi_s, zR_b0, zR_b1, zN_b0, zN_b1, entV_i, entV_a, entV_n, entV_r, entV_f, entV_l, entV_d, entV_s, entV_0, List.length_cons, List.length_nil, List.nil_append, List.cons_append, true_and, and_true, Nat.reduceAdd, Nat.reduceLT, Nat.reduceEqDiff, Nat.reduceLeDiff, Nat.reduceSub, Nat.zero_add, Classical.not_not, ex_i, ex_l, ex_d, ex_r, ex_rs, ex_rn, ex_sm, Nat.sub_zero, eq_self, wn_sI, wn_sL, wn_sP, wsh_sI, wsh_sL, wsh_sP, wI_sL, wI_sP, wL_sI, wL_sP, wP_sI, wP_sL, wI_sI, wL_sL, Int32.reduceLT, Int32.reduceLE, true_implies, not_true_eq_false, false_implies, not_false_eq_true, i_10, i_10]
      rw [wds_whole ha7 qw.1 qw.2 hw hv'] at h
      exact h
    · rw [b2i_f (by rw [eqv]; exact qw)]
      simp (disch := omega) only [vX4_widened_15, vX4_widened_20, vX4_widened_21, vX4_widened_23, vX4_widened_26, vX4_widened_27, vX4_widened_30, vX4_widened_33, vX4_widened_34, vX4_widened_35, pI_c, pL_c, pF_c, pD_c, pA_n, pA_c, pA_rf, pR_c, pR_rf, pV_i, pV_a, pV_n, pV_rf, ldI_c, ldL_c, ldF_c, ldD_c, ldA_c, ldA_n, ldA_rf, dup2_l, dup2_ia, dup2_ir, popA_0, popA_s, getL_z, getL_s, setL_z, setL_1, setL_s, setL2_z, setL2_1, setL2_s, drop2_i, drop2_a, drop2_0, drop2_n, drop2_l, drop2_d, drop2_r, cwd_0, cwd_i, cwd_a, cwd_n, cwd_l, cwd_d, cwd_f, cwd_r, rf_s, rf_n, swi_0, swi_s, zR_b0, zR_b1, zN_b0, zN_b1, entV_i, entV_a, entV_n, entV_r, entV_f, entV_l, entV_d, entV_s, entV_0, List.length_cons, List.length_nil, List.nil_append, List.cons_append, true_and, and_true, Nat.reduceAdd, Nat.reduceLT, Nat.reduceEqDiff, Nat.reduceLeDiff, Nat.reduceSub, Nat.zero_add, Classical.not_not, ex_i, ex_l, ex_d, ex_r, ex_rs, ex_rn, ex_sm, Nat.sub_zero, eq_self, wn_sI, wn_sL, wn_sP, wsh_sI, wsh_sL, wsh_sP, wI_sL, wI_sP, wL_sI, wL_sP, wP_sI, wP_sL, wI_sI, wL_sL, Int32.reduceLT, Int32.reduceLE, true_implies, not_true_eq_false, false_implies, not_false_eq_true, i_10]
      have q1 : ¬ nI a = nI b := by rw [ni_eq (by omega) (by omega)]; exact q
      unfold wdn at h
      rw [if_neg q1] at h
      refine ⟨fun z => ?_, fun z => ?_⟩
      · rw [if_neg z] at h
        have hb67 : nI b = 6 ∨ nI b = 7 := by
          have hb0 : b ≠ 0 := fun z0 => by
            subst z0
            have hT : ∀ a, a < 8 → ¬ wds (nI a) (nI 0) = true ∨ a = 0 := by decide +kernel
            exact (hT a (by omega)).elim (fun y => y hw) q
          rcases (show b = 6 ∨ b = 7 by omega) with rfl | rfl
          · exact Or.inl rfl
          · exact Or.inr rfl
        refine X4_nearest_ok _ hb67 v ?_
        simp only [vX4_widened_38, pI_c, pL_c, pF_c, pD_c, pA_n, pA_c, pA_rf, pR_c, pR_rf, pV_i, pV_a, pV_n, pV_rf, ldI_c, ldL_c, ldF_c, ldD_c, ldA_c, ldA_n, ldA_rf, dup2_l, dup2_ia, dup2_ir, popA_0, popA_s, getL_z, getL_s, setL_z, setL_1, setL_s, setL2_z, setL2_1, setL2_s, drop2_i, drop2_a, drop2_0, drop2_n, drop2_l, drop2_d, drop2_r, cwd_0, cwd_i, cwd_a, cwd_n, cwd_l, cwd_d, cwd_f, cwd_r, rf_s, rf_n, swi_0, swi_s, zR_b0, zR_b1, zN_b0, zN_b1, entV_i, entV_a, entV_n, entV_r, entV_f, entV_l, entV_d, entV_s, entV_0, List.length_cons, List.length_nil, List.nil_append, List.cons_append, true_and, and_true, Nat.reduceAdd, Nat.reduceLT, Nat.reduceEqDiff, Nat.reduceLeDiff, Nat.reduceSub, Nat.zero_add, Classical.not_not, ex_i, ex_l, ex_d, ex_r, ex_rs, ex_rn, ex_sm, Nat.sub_zero, eq_self, wn_sI, wn_sL, wn_sP, wsh_sI, wsh_sL, wsh_sP, wI_sL, wI_sP, wL_sI, wL_sP, wP_sI, wP_sL, wI_sI, wL_sL, Int32.reduceLT, Int32.reduceLE, true_implies, not_true_eq_false, false_implies, not_false_eq_true, i_10]
        exact h
      · rw [if_pos z] at h
        refine X4_dOf_ok v (by rw [z] at hv'; exact hv') ?_
        simp only [vX4_widened_30, vX4_widened_33, vX4_widened_34, vX4_widened_35, vX4_widened_38, pI_c, pL_c, pF_c, pD_c, pA_n, pA_c, pA_rf, pR_c, pR_rf, pV_i, pV_a, pV_n, pV_rf, ldI_c, ldL_c, ldF_c, ldD_c, ldA_c, ldA_n, ldA_rf, dup2_l, dup2_ia, dup2_ir, popA_0, popA_s, getL_z, getL_s, setL_z, setL_1, setL_s, setL2_z, setL2_1, setL2_s, drop2_i, drop2_a, drop2_0, drop2_n, drop2_l, drop2_d, drop2_r, cwd_0, cwd_i, cwd_a, cwd_n, cwd_l, cwd_d, cwd_f, cwd_r, rf_s, rf_n, swi_0, swi_s, zR_b0, zR_b1, zN_b0, zN_b1, entV_i, entV_a, entV_n, entV_r, entV_f, entV_l, entV_d, entV_s, entV_0, List.length_cons, List.length_nil, List.nil_append, List.cons_append, true_and, and_true, Nat.reduceAdd, Nat.reduceLT, Nat.reduceEqDiff, Nat.reduceLeDiff, Nat.reduceSub, Nat.zero_add, Classical.not_not, ex_i, ex_l, ex_d, ex_r, ex_rs, ex_rn, ex_sm, Nat.sub_zero, eq_self, wn_sI, wn_sL, wn_sP, wsh_sI, wsh_sL, wsh_sP, wI_sL, wI_sP, wL_sI, wL_sP, wP_sI, wP_sL, wI_sI, wL_sL, Int32.reduceLT, Int32.reduceLE, true_implies, not_true_eq_false, false_implies, not_false_eq_true, i_10]
        exact h
set_option maxRecDepth 100000 in
set_option maxHeartbeats 4000000 in
theorem X4_has_ok {g : Ge} {w : Wd} {k n : Nat} {K : Int32 → Wd → Nat → Nat → Prop} {a : Nat} (ha : a ≤ 7) (v : Int64) (h : K (bI (isVal (nI a) v)) w k n) : cI g mX4_has [.int (nI a), .long v] w k n K := by
  have hb : ∀ c : Bool, isVal (nI a) v = c → K (bI c) w k n := fun c z => by rw [z] at h; exact h
  have ht : ∀ p : Prop, p → (p ↔ isVal (nI a) v = true) → K 1 w k n := fun p hp z => hb true (z.mp hp)
  have hf : ∀ p : Prop, ¬ p → (p ↔ isVal (nI a) v = true) → K 0 w k n := fun p hp z => hb false (Bool.eq_false_iff.mpr fun y => hp (z.mpr y))
  have ee : ∀ (x : Int32) (b : Nat), x = nI b → b < 9 → nI a = x → a = b := fun x b e hb q => by rw [e, ni_eq (by omega) (by omega)] at q; exact q
  refine cI_of 3 0 0 rfl (by decide +kernel) rfl (Nat.le_of_ble_eq_true rfl) (Nat.zero_le _) (Nat.zero_le _) ?_
  simp only [vX4_has_0, vX4_has_1, vX4_has_48, vX4_has_49, vX4_has_50, vX4_has_51, vX4_has_54, vX4_has_55, vX4_has_56, vX4_has_57, vX4_has_60, vX4_has_61, vX4_has_64, vX4_has_65, vX4_has_66, vX4_has_67, vX4_has_68, vX4_has_69, vX4_has_70, vX4_has_71, vX4_has_72, vX4_has_75, vX4_has_76, vX4_has_79, vX4_has_80, vX4_has_81, vX4_has_82, vX4_has_83, vX4_has_84, vX4_has_87, vX4_has_88, vX4_has_91, vX4_has_92, vX4_has_95, vX4_has_96, vX4_has_99, vX4_has_100, vX4_has_101, vX4_has_102, vX4_has_103, vX4_has_104, vX4_has_105, vX4_has_106, vX4_has_107, vX4_has_110, vX4_has_111, vX4_has_114, vX4_has_115, vX4_has_116, vX4_has_117, vX4_has_118, vX4_has_119, vX4_has_120, vX4_has_121, vX4_has_124, vX4_has_125, vX4_has_128, vX4_has_129, vX4_has_130, vX4_has_131, vX4_has_132, vX4_has_133, vX4_has_134, vX4_has_135, vX4_has_138, vX4_has_139, vX4_has_141, vX4_has_142, vX4_has_145, vX4_has_146, vX4_has_149, vX4_has_150, vX4_has_153, vX4_has_154, vX4_has_157, vX4_has_158, vX4_has_159, vX4_has_160, vX4_has_162, vX4_has_163, vX4_has_166, vX4_has_167, vX4_has_170, vX4_has_171, vX4_has_174, vX4_has_175, vX4_has_178, vX4_has_179, vX4_has_180, vX4_has_181, pI_c, pL_c, pF_c, pD_c, pA_n, pA_c, pA_rf, pR_c, pR_rf, pV_i, pV_a, pV_n, pV_rf, ldI_c, ldL_c, ldF_c, ldD_c, ldA_c, ldA_n, ldA_rf, dup2_l, dup2_ia, dup2_ir, popA_0, popA_s, getL_z, getL_s, setL_z, setL_1, setL_s, setL2_z, setL2_1, setL2_s, drop2_i, drop2_a, drop2_0, drop2_n, drop2_l, drop2_d, drop2_r, cwd_0, cwd_i, cwd_a, cwd_n, cwd_l, cwd_d, cwd_f, cwd_r, rf_s, rf_n, swi_0, swi_s, zR_b0, zR_b1, zN_b0, zN_b1, entV_i, entV_a, entV_n, entV_r, entV_f, entV_l, entV_d, entV_s, entV_0, List.length_cons, List.length_nil, List.nil_append, List.cons_append, true_and, and_true, Nat.reduceAdd, Nat.reduceLT, Nat.reduceEqDiff, Nat.reduceLeDiff, Nat.reduceSub, Nat.zero_add, Classical.not_not, ex_i, ex_l, ex_d, ex_r, ex_rs, ex_rn, ex_sm, Nat.sub_zero, eq_self, wn_sI, wn_sL, wn_sP, wsh_sI, wsh_sL, wsh_sP, wI_sL, wI_sP, wL_sI, wL_sP, wP_sI, wP_sL, wI_sI, wL_sL, Int32.reduceLT, Int32.reduceLE, true_implies, not_true_eq_false, false_implies, not_false_eq_true, i_10, lgc, lgc0, i_10]
  refine ⟨fun q => ?_, fun q0 => ⟨fun q => ?_, fun q1 => ⟨fun q => ?_, fun q2 => ⟨fun q => ?_, fun q3 => ⟨fun q => ?_, fun q4 => ⟨fun q => ?_, fun q5 => ⟨fun q => ?_, fun q6 => ⟨fun q => ?_, fun q7 => ?_⟩⟩⟩⟩⟩⟩⟩⟩
  · obtain rfl := ee _ 0 rfl (by omega) q
    exact ⟨fun z => ht _ (Or.inl z) (val_0 v).symm, fun z => ⟨fun z2 => hf _ (fun y => y.elim z z2) (val_0 v).symm, fun z2 => ht _ (Or.inr z2) (val_0 v).symm⟩⟩
  · obtain rfl := ee _ 1 rfl (by omega) q
    exact ⟨fun z => hf (v.toInt32.toInt8.toInt32.toInt64 = v) (fun y => z y.symm) decide_eq_true_iff.symm, fun z => ht (v.toInt32.toInt8.toInt32.toInt64 = v) z.symm decide_eq_true_iff.symm⟩
  · obtain rfl := ee _ 2 rfl (by omega) q
    have h0 : (lg_cmp v 0 < 0) ↔ v.toInt < 0 := by
      rw [← Int32.not_le, lg_nn, Int64.le_iff_toInt_le, show (0 : Int64).toInt = 0 from rfl]
      omega
    have h1 : (0 < lg_cmp v 65535) ↔ 65535 < v.toInt := by
      rw [lg_pos, Int64.lt_iff_toInt_lt, show (65535 : Int64).toInt = 65535 by decide]
    rw [h0, h1]
    exact ⟨fun z => hf _ (fun y => by omega) (val_2 v).symm, fun z => ⟨fun z2 => hf _ (fun y => by omega) (val_2 v).symm, fun z2 => ht _ ⟨by omega, by omega⟩ (val_2 v).symm⟩⟩
  · obtain rfl := ee _ 3 rfl (by omega) q
    exact ⟨fun z => hf (v.toInt32.toInt16.toInt32.toInt64 = v) (fun y => z y.symm) decide_eq_true_iff.symm, fun z => ht (v.toInt32.toInt16.toInt32.toInt64 = v) z.symm decide_eq_true_iff.symm⟩
  · obtain rfl := ee _ 4 rfl (by omega) q
    exact ⟨fun z => hf (v.toInt32.toInt64 = v) (fun y => z y.symm) decide_eq_true_iff.symm, fun z => ht (v.toInt32.toInt64 = v) z.symm decide_eq_true_iff.symm⟩
  · obtain rfl := ee _ 5 rfl (by omega) q
    exact hb true (val_5 v)
  · obtain rfl := ee _ 6 rfl (by omega) q
    exact ⟨fun z => hf (v = v.toInt32.toInt64 ∧ ¬ (v >>> ((23 : Int32).toInt64 &&& 63)) &&& 255 = 255) (fun y => z y.1) decide_eq_true_iff.symm, fun z => ⟨fun z2 => hf (v = v.toInt32.toInt64 ∧ ¬ (v >>> ((23 : Int32).toInt64 &&& 63)) &&& 255 = 255) (fun y => y.2 z2) decide_eq_true_iff.symm, fun z2 => ht (v = v.toInt32.toInt64 ∧ ¬ (v >>> ((23 : Int32).toInt64 &&& 63)) &&& 255 = 255) ⟨z, z2⟩ decide_eq_true_iff.symm⟩⟩
  · obtain rfl := ee _ 7 rfl (by omega) q
    exact ⟨fun z => hf (¬ (v >>> ((52 : Int32).toInt64 &&& 63)) &&& 2047 = 2047) (fun y => y z) decide_eq_true_iff.symm, fun z => ht (¬ (v >>> ((52 : Int32).toInt64 &&& 63)) &&& 2047 = 2047) z decide_eq_true_iff.symm⟩
  · exfalso
    have n0 : a ≠ 0 := fun z => q0 (by rw [z]; rfl)
    have n1 : a ≠ 1 := fun z => q1 (by rw [z]; rfl)
    have n2 : a ≠ 2 := fun z => q2 (by rw [z]; rfl)
    have n3 : a ≠ 3 := fun z => q3 (by rw [z]; rfl)
    have n4 : a ≠ 4 := fun z => q4 (by rw [z]; rfl)
    have n5 : a ≠ 5 := fun z => q5 (by rw [z]; rfl)
    have n6 : a ≠ 6 := fun z => q6 (by rw [z]; rfl)
    have n7 : a ≠ 7 := fun z => q7 (by rw [z]; rfl)
    omega
set_option maxRecDepth 100000 in
set_option maxHeartbeats 4000000 in
theorem X4_width_loop {g : Ge} {w : Wd} {k n : Nat} {K : Option Value → Wd → Prop} {v : Int64} : ∀ (d a : Nat) (o3 : Option Value), a + d = 8 → 1 ≤ a → K (some (.int (nI (wdF v a d)))) w → R g mX4_width K 10 [some (.long v), none, some (.int (nI a)), o3] [] w k n := by
  intro d
  induction d with
  | zero =>
    intro a o3 ha h1 hK
    obtain rfl : a = 8 := by omega
    have e8 : (8 : Int32) ≤ nI 8 := by decide
    simp (disch := omega) only [vX4_width_10, vX4_width_11, vX4_width_13, vX4_width_42, vX4_width_44, pI_c, pL_c, pF_c, pD_c, pA_n, pA_c, pA_rf, pR_c, pR_rf, pV_i, pV_a, pV_n, pV_rf, ldI_c, ldL_c, ldF_c, ldD_c, ldA_c, ldA_n, ldA_rf, dup2_l, dup2_ia, dup2_ir, popA_0, popA_s, getL_z, getL_s, setL_z, setL_1, setL_s, setL2_z, setL2_1, setL2_s, drop2_i, drop2_a, drop2_0, drop2_n, drop2_l, drop2_d, drop2_r, cwd_0, cwd_i, cwd_a, cwd_n, cwd_l, cwd_d, cwd_f, cwd_r, rf_s, rf_n, swi_0, swi_s, zR_b0, zR_b1, zN_b0, zN_b1, entV_i, entV_a, entV_n, entV_r, entV_f, entV_l, entV_d, entV_s, entV_0, List.length_cons, List.length_nil, List.nil_append, List.cons_append, true_and, and_true, Nat.reduceAdd, Nat.reduceLT, Nat.reduceEqDiff, Nat.reduceLeDiff, Nat.reduceSub, Nat.zero_add, Classical.not_not, ex_i, ex_l, ex_d, ex_r, ex_rs, ex_rn, ex_sm, Nat.sub_zero, eq_self, wn_sI, wn_sL, wn_sP, wsh_sI, wsh_sL, wsh_sP, wI_sL, wI_sP, wL_sI, wL_sP, wP_sI, wP_sL, wI_sI, wL_sL, Int32.reduceLT, Int32.reduceLE, true_implies, not_true_eq_false, false_implies, not_false_eq_true, i_10, e8]
    exact hK
  | succ d ih =>
    intro a o3 ha h1 hK
    have e8 : ¬ (8 : Int32) ≤ nI a := by rw [ni_lit 8, ni_le (by decide) (by omega)]; omega
    have h64 : (64 : Int32) = nI 64 := rfl
    simp (disch := omega) only [vX4_width_10, vX4_width_11, vX4_width_13, vX4_width_16, vX4_width_18, vX4_width_20, vX4_width_21, vX4_width_22, vX4_width_23, vX4_width_24, vX4_width_25, vX4_width_26, vX4_width_27, vX4_width_28, vX4_width_29, vX4_width_30, vX4_width_31, pI_c, pL_c, pF_c, pD_c, pA_n, pA_c, pA_rf, pR_c, pR_rf, pV_i, pV_a, pV_n, pV_rf, ldI_c, ldL_c, ldF_c, ldD_c, ldA_c, ldA_n, ldA_rf, dup2_l, dup2_ia, dup2_ir, popA_0, popA_s, getL_z, getL_s, setL_z, setL_1, setL_s, setL2_z, setL2_1, setL2_s, drop2_i, drop2_a, drop2_0, drop2_n, drop2_l, drop2_d, drop2_r, cwd_0, cwd_i, cwd_a, cwd_n, cwd_l, cwd_d, cwd_f, cwd_r, rf_s, rf_n, swi_0, swi_s, zR_b0, zR_b1, zN_b0, zN_b1, entV_i, entV_a, entV_n, entV_r, entV_f, entV_l, entV_d, entV_s, entV_0, List.length_cons, List.length_nil, List.nil_append, List.cons_append, true_and, and_true, Nat.reduceAdd, Nat.reduceLT, Nat.reduceEqDiff, Nat.reduceLeDiff, Nat.reduceSub, Nat.zero_add, Classical.not_not, ex_i, ex_l, ex_d, ex_r, ex_rs, ex_rn, ex_sm, Nat.sub_zero, eq_self, wn_sI, wn_sL, wn_sP, wsh_sI, wsh_sL, wsh_sP, wI_sL, wI_sP, wL_sI, wL_sP, wP_sI, wP_sL, wI_sI, wL_sL, Int32.reduceLT, Int32.reduceLE, true_implies, not_true_eq_false, false_implies, not_false_eq_true, i_10, e8, nm_8, h64, ni_sub, lgc]
    unfold wdF at hK
    by_cases q : fitB v a = true
    · rw [if_pos q] at hK
      have q' := of_decide_eq_true q
      simp (disch := omega) only [vX4_width_34, vX4_width_35, pI_c, pL_c, pF_c, pD_c, pA_n, pA_c, pA_rf, pR_c, pR_rf, pV_i, pV_a, pV_n, pV_rf, ldI_c, ldL_c, ldF_c, ldD_c, ldA_c, ldA_n, ldA_rf, dup2_l, dup2_ia, dup2_ir, popA_0, popA_s, getL_z, getL_s, setL_z, setL_1, setL_s, setL2_z, setL2_1, setL2_s, drop2_i, drop2_a, drop2_0, drop2_n, drop2_l, drop2_d, drop2_r, cwd_0, cwd_i, cwd_a, cwd_n, cwd_l, cwd_d, cwd_f, cwd_r, rf_s, rf_n, swi_0, swi_s, zR_b0, zR_b1, zN_b0, zN_b1, entV_i, entV_a, entV_n, entV_r, entV_f, entV_l, entV_d, entV_s, entV_0, List.length_cons, List.length_nil, List.nil_append, List.cons_append, true_and, and_true, Nat.reduceAdd, Nat.reduceLT, Nat.reduceEqDiff, Nat.reduceLeDiff, Nat.reduceSub, Nat.zero_add, Classical.not_not, ex_i, ex_l, ex_d, ex_r, ex_rs, ex_rn, ex_sm, Nat.sub_zero, eq_self, wn_sI, wn_sL, wn_sP, wsh_sI, wsh_sL, wsh_sP, wI_sL, wI_sP, wL_sI, wL_sP, wP_sI, wP_sL, wI_sI, wL_sL, Int32.reduceLT, Int32.reduceLE, true_implies, not_true_eq_false, false_implies, not_false_eq_true, i_10, q']
      exact hK
    · rw [if_neg q] at hK
      have q' := of_decide_eq_false (Bool.eq_false_iff.mpr q)
      simp (disch := omega) only [vX4_width_36, vX4_width_39, pI_c, pL_c, pF_c, pD_c, pA_n, pA_c, pA_rf, pR_c, pR_rf, pV_i, pV_a, pV_n, pV_rf, ldI_c, ldL_c, ldF_c, ldD_c, ldA_c, ldA_n, ldA_rf, dup2_l, dup2_ia, dup2_ir, popA_0, popA_s, getL_z, getL_s, setL_z, setL_1, setL_s, setL2_z, setL2_1, setL2_s, drop2_i, drop2_a, drop2_0, drop2_n, drop2_l, drop2_d, drop2_r, cwd_0, cwd_i, cwd_a, cwd_n, cwd_l, cwd_d, cwd_f, cwd_r, rf_s, rf_n, swi_0, swi_s, zR_b0, zR_b1, zN_b0, zN_b1, entV_i, entV_a, entV_n, entV_r, entV_f, entV_l, entV_d, entV_s, entV_0, List.length_cons, List.length_nil, List.nil_append, List.cons_append, true_and, and_true, Nat.reduceAdd, Nat.reduceLT, Nat.reduceEqDiff, Nat.reduceLeDiff, Nat.reduceSub, Nat.zero_add, Classical.not_not, ex_i, ex_l, ex_d, ex_r, ex_rs, ex_rn, ex_sm, Nat.sub_zero, eq_self, wn_sI, wn_sL, wn_sP, wsh_sI, wsh_sL, wsh_sP, wI_sL, wI_sP, wL_sI, wL_sP, wP_sI, wP_sL, wI_sI, wL_sL, Int32.reduceLT, Int32.reduceLE, true_implies, not_true_eq_false, false_implies, not_false_eq_true, i_10, na_1, nb_1, nm_1, ns_1, nr_1, na_2, nb_2, nm_2, ns_2, nr_2, na_3, nb_3, nm_3, ns_3, nr_3, na_4, nb_4, nm_4, ns_4, nr_4, na_5, nb_5, nm_5, ns_5, nr_5, na_6, nb_6, nm_6, ns_6, nr_6, na_7, nb_7, nm_7, ns_7, nr_7, na_8, nb_8, nm_8, ns_8, nr_8, na_10, nb_10, nm_10, ns_10, nr_10, na_16, nb_16, nm_16, ns_16, nr_16, nl_m1, ni_add, ni_mul, ni_sub, ni_cl, ni_in, vp_0, vp_1, vp_2, vp_3, vp_4, vp_5, Int32.reduceToNatClampNeg, q']
      exact ih (a + 1) _ (by omega) (by omega) hK
set_option maxRecDepth 100000 in
set_option maxHeartbeats 4000000 in
theorem X4_width_ok {g : Ge} {w : Wd} {k n : Nat} {K : Int32 → Wd → Nat → Nat → Prop} (v : Int64) (h : K (nI (wd v)) w k n) : cI g mX4_width [.long v] w k n K := by
  unfold wd at h
  refine cI_of 4 0 0 rfl (by decide +kernel) rfl (Nat.le_of_ble_eq_true rfl) (Nat.zero_le _) (Nat.zero_le _) ?_
  simp only [vX4_width_0, vX4_width_1, vX4_width_2, vX4_width_3, vX4_width_6, vX4_width_7, vX4_width_8, vX4_width_9, pI_c, pL_c, pF_c, pD_c, pA_n, pA_c, pA_rf, pR_c, pR_rf, pV_i, pV_a, pV_n, pV_rf, ldI_c, ldL_c, ldF_c, ldD_c, ldA_c, ldA_n, ldA_rf, dup2_l, dup2_ia, dup2_ir, popA_0, popA_s, getL_z, getL_s, setL_z, setL_1, setL_s, setL2_z, setL2_1, setL2_s, drop2_i, drop2_a, drop2_0, drop2_n, drop2_l, drop2_d, drop2_r, cwd_0, cwd_i, cwd_a, cwd_n, cwd_l, cwd_d, cwd_f, cwd_r, rf_s, rf_n, swi_0, swi_s, zR_b0, zR_b1, zN_b0, zN_b1, entV_i, entV_a, entV_n, entV_r, entV_f, entV_l, entV_d, entV_s, entV_0, List.length_cons, List.length_nil, List.nil_append, List.cons_append, true_and, and_true, Nat.reduceAdd, Nat.reduceLT, Nat.reduceEqDiff, Nat.reduceLeDiff, Nat.reduceSub, Nat.zero_add, Classical.not_not, ex_i, ex_l, ex_d, ex_r, ex_rs, ex_rn, ex_sm, Nat.sub_zero, eq_self, wn_sI, wn_sL, wn_sP, wsh_sI, wsh_sL, wsh_sP, wI_sL, wI_sP, wL_sI, wL_sP, wP_sI, wP_sL, wI_sI, wL_sL, Int32.reduceLT, Int32.reduceLE, true_implies, not_true_eq_false, false_implies, not_false_eq_true, i_10, lgc0]
  refine ⟨fun q => ?_, fun q => ?_⟩
  · rw [if_neg q] at h
    exact X4_width_loop 7 1 none rfl (by decide) ⟨_, rfl, h⟩
  · rw [if_pos q] at h
    exact h
