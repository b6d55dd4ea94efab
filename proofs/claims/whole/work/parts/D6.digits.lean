/-! the library: a number appended -/
theorem ng_ti {a : Nat} (h : a < 2147483648) : (-nI a).toInt = -(a : Int) := by
  rw [Int32.toInt_neg, ni_ti h, show (2 : Nat) ^ 32 = 4294967296 from rfl, Int.bmod_eq_of_le (by omega) (by omega)]
theorem ng_le {a b : Nat} (ha : a < 2147483648) (hb : b < 2147483648) : (-nI a ≤ -nI b) = (b ≤ a) := by
  apply propext
  rw [Int32.le_iff_toInt_le, ng_ti ha, ng_ti hb]
  omega
theorem ng_lt {a b : Nat} (ha : a < 2147483648) (hb : b < 2147483648) : (-nI a < -nI b) = (b < a) := by
  apply propext
  rw [Int32.lt_iff_toInt_lt, ng_ti ha, ng_ti hb]
  omega
theorem ng_ng (a : Nat) : - -nI a = nI a := Int32.neg_neg
theorem ng_div {a : Nat} (h : a < 1000000) : -nI a / 100 = -nI (a / 100) := by
  have hq : a / 100 < 1000000 := by omega
  apply Int32.toInt_inj.mp
  rw [ng_ti (by omega), Int32.toInt_div, ng_ti (by omega), show (100 : Int32).toInt = ((100 : Nat) : Int) from rfl, Int.neg_tdiv, ← Int.ofNat_tdiv, show (2 : Nat) ^ 32 = 4294967296 from rfl, Int.bmod_eq_of_le (by omega) (by omega)]
theorem ng_rem {a : Nat} (h : a < 1000000) : -nI (a / 100) * 100 - -nI a = nI (a % 100) := by
  have e : -nI (a / 100) * 100 = -nI (a / 100 * 100) := by
    rw [Int32.neg_mul, show (100 : Int32) = nI 100 from rfl, ni_mul]
  rw [e]
  apply Int32.toInt_inj.mp
  rw [ni_ti (by omega), Int32.toInt_sub, ng_ti (by omega), ng_ti (by omega), show (2 : Nat) ^ 32 = 4294967296 from rfl, Int.bmod_eq_of_le (by omega) (by omega)]
  omega
theorem ng_mul {a : Nat} : (10 : Int32) * -nI a = -nI (10 * a) := by
  rw [Int32.mul_neg, show (10 : Int32) = nI 10 from rfl, ni_mul]
theorem num_abs {v : Int32} (h1 : -999999 ≤ v.toInt) (h2 : v.toInt ≤ 999999) : v.toInt.natAbs ≤ 999999 ∧ (v < 0 → v = -nI v.toInt.natAbs) ∧ (¬ v < 0 → v = nI v.toInt.natAbs) := by
  have hA : v.toInt.natAbs ≤ 999999 := by omega
  refine ⟨hA, fun q => ?_, fun q => ?_⟩
  · rw [Int32.lt_iff_toInt_lt, show (0 : Int32).toInt = 0 from rfl] at q
    apply Int32.toInt_inj.mp
    rw [ng_ti (by omega)]
    omega
  · rw [Int32.lt_iff_toInt_lt, show (0 : Int32).toInt = 0 from rfl] at q
    apply Int32.toInt_inj.mp
    rw [ni_ti (by omega)]
    omega
def sgN (v : Int32) : Nat := if v < 0 then 1 else 0
theorem numT_ln (v : Int32) : (numT v).length = sgN v + (lg10 v.toInt.natAbs 5 0 + 1) := by
  unfold numT decL sgN
  rw [List.length_append, List.length_map, decK_len]
  split
  · rfl
  · rfl
theorem lg_step {A d i : Nat} (hi : 1 ≤ i) : lg10 A (d + 1) (i - 1) = if A < 10 ^ i then i - 1 else lg10 A d i := by
  have hp : 10 ^ i = 10 ^ (i - 1) * 10 := by
    conv => lhs; rw [show i = i - 1 + 1 by omega]
    exact Nat.pow_succ _ _
  have h0 : 0 < 10 ^ (i - 1) := Nat.pow_pos (by decide)
  rw [lg10]
  have e : (A / 10 ^ (i - 1) ≤ 9) = (A < 10 ^ i) := by
    apply propext
    rw [hp]
    constructor
    · intro h
      have := (Nat.div_lt_iff_lt_mul h0).mp (show A / 10 ^ (i - 1) < 10 by omega)
      rw [Nat.mul_comm]
      exact this
    · intro h
      rw [Nat.mul_comm] at h
      have := (Nat.div_lt_iff_lt_mul h0).mpr h
      omega
  simp only [e]
  rw [show i - 1 + 1 = i by omega]
set_option maxRecDepth 100000 in
set_option maxHeartbeats 4000000 in
theorem J6_ss_loop {g : Ge} {k0 n0 A s : Nat} {w : Wd} {K : Option Value → Wd → Prop} (hA : A < 1000000) (hs : s ≤ 1) (hK : K (some (.int (nI (s + (lg10 A 5 0 + 1))))) w) : ∀ (d i : Nat), i + d = 6 → 1 ≤ i → lg10 A d (i - 1) = lg10 A 5 0 → (d = 5 ∨ 10 ^ (i - 1) ≤ A) → R g mJ6_stringSize_0f7a4 K 16 [some (.int (-nI A)), some (.int (nI s)), some (.int (-nI (10 ^ i))), some (.int (nI i))] [] w k0 n0 := by
  have out : ∀ i, 1 ≤ i → i ≤ 6 → A < 10 ^ i → i = lg10 A 5 0 + 1 → R g mJ6_stringSize_0f7a4 K 16 [some (.int (-nI A)), some (.int (nI s)), some (.int (-nI (10 ^ i))), some (.int (nI i))] [] w k0 n0 := fun i h1 h2 h3 h4 => by
    have hp : 10 ^ i ≤ 1000000 := Nat.le_trans (Nat.pow_le_pow_right (by decide) h2) (by decide)
    have m1 : ¬ (10 : Int32) ≤ nI i := by rw [ni_lit 10, ni_le (by decide) (by omega)]; omega
    have m2 : (-nI A ≤ -nI (10 ^ i)) = (10 ^ i ≤ A) := ng_le (by omega) (by omega)
    have m3 : ¬ 10 ^ i ≤ A := by omega
    simp only [vJ6_stringSize_0f7a4_16, vJ6_stringSize_0f7a4_17, vJ6_stringSize_0f7a4_19, vJ6_stringSize_0f7a4_22, vJ6_stringSize_0f7a4_23, vJ6_stringSize_0f7a4_24, vJ6_stringSize_0f7a4_27, vJ6_stringSize_0f7a4_28, vJ6_stringSize_0f7a4_29, vJ6_stringSize_0f7a4_30, pI_c, pL_c, pF_c, pD_c, pA_n, pA_c, pA_rf, pR_c, pR_rf, pV_i, pV_a, pV_n, pV_rf, ldI_c, ldL_c, ldF_c, ldD_c, ldA_c, ldA_n, ldA_rf, dup2_l, dup2_ia, dup2_ir, popA_0, popA_s, getL_z, getL_s, setL_z, setL_1, setL_s, setL2_z, setL2_1, setL2_s, drop2_i, drop2_a, drop2_0, drop2_n, drop2_l, drop2_d, drop2_r, cwd_0, cwd_i, cwd_a, cwd_n, cwd_l, cwd_d, cwd_f, cwd_r, rf_s, rf_n, swi_0, swi_s, zR_b0, zR_b1, zN_b0, zN_b1, entV_i, entV_a, entV_n, entV_r, entV_f, entV_l, entV_d, entV_s, entV_0, List.length_cons, List.length_nil, List.nil_append, List.cons_append, true_and, and_true, Nat.reduceAdd, Nat.reduceLT, Nat.reduceEqDiff, Nat.reduceLeDiff, Nat.reduceSub, Nat.zero_add, Classical.not_not, ex_i, ex_l, ex_d, ex_r, ex_rs, ex_rn, ex_sm, Nat.sub_zero, eq_self, wn_sI, wn_sL, wn_sP, wsh_sI, wsh_sL, wsh_sP, wI_sL, wI_sP, wL_sI, wL_sP, wP_sI, wP_sL, wI_sI, wL_sL, Int32.reduceLT, Int32.reduceLE, true_implies, not_true_eq_false, false_implies, not_false_eq_true, i_10, m1, m2, m3, ni_add]
    rw [show s + (lg10 A 5 0 + 1) = i + s by omega] at hK
    exact hK
  intro d
  induction d with
  | zero =>
    intro i hi h1 hl hb
    obtain rfl : i = 6 := by omega
    exact out 6 h1 (by decide) hA (by rw [← hl]; rfl)
  | succ d ih =>
    intro i hi h1 hl hb
    rw [lg_step h1] at hl
    by_cases q : A < 10 ^ i
    · rw [if_pos q] at hl
      exact out i h1 (by omega) q (by omega)
    · rw [if_neg q] at hl
      have hp : 10 ^ i ≤ 1000000 := Nat.le_trans (Nat.pow_le_pow_right (by decide) (show i ≤ 6 by omega)) (by decide)
      have m1 : ¬ (10 : Int32) ≤ nI i := by rw [ni_lit 10, ni_le (by decide) (by omega)]; omega
      have m2 : (-nI A ≤ -nI (10 ^ i)) = (10 ^ i ≤ A) := ng_le (by omega) (by omega)
      have m3 : 10 ^ i ≤ A := by omega
      have m4 : (10 : Int32) * -nI (10 ^ i) = -nI (10 ^ (i + 1)) := by rw [ng_mul, Nat.pow_succ, Nat.mul_comm]
      have m5 : nI i + 1 = nI (i + 1) := ni_add i 1
      simp only [vJ6_stringSize_0f7a4_16, vJ6_stringSize_0f7a4_17, vJ6_stringSize_0f7a4_19, vJ6_stringSize_0f7a4_22, vJ6_stringSize_0f7a4_23, vJ6_stringSize_0f7a4_24, pI_c, pL_c, pF_c, pD_c, pA_n, pA_c, pA_rf, pR_c, pR_rf, pV_i, pV_a, pV_n, pV_rf, ldI_c, ldL_c, ldF_c, ldD_c, ldA_c, ldA_n, ldA_rf, dup2_l, dup2_ia, dup2_ir, popA_0, popA_s, getL_z, getL_s, setL_z, setL_1, setL_s, setL2_z, setL2_1, setL2_s, drop2_i, drop2_a, drop2_0, drop2_n, drop2_l, drop2_d, drop2_r, cwd_0, cwd_i, cwd_a, cwd_n, cwd_l, cwd_d, cwd_f, cwd_r, rf_s, rf_n, swi_0, swi_s, zR_b0, zR_b1, zN_b0, zN_b1, entV_i, entV_a, entV_n, entV_r, entV_f, entV_l, entV_d, entV_s, entV_0, List.length_cons, List.length_nil, List.nil_append, List.cons_append, true_and, and_true, Nat.reduceAdd, Nat.reduceLT, Nat.reduceEqDiff, Nat.reduceLeDiff, Nat.reduceSub, Nat.zero_add, Classical.not_not, ex_i, ex_l, ex_d, ex_r, ex_rs, ex_rn, ex_sm, Nat.sub_zero, eq_self, wn_sI, wn_sL, wn_sP, wsh_sI, wsh_sL, wsh_sP, wI_sL, wI_sP, wL_sI, wL_sP, wP_sI, wP_sL, wI_sI, wL_sL, Int32.reduceLT, Int32.reduceLE, true_implies, not_true_eq_false, false_implies, not_false_eq_true, i_10, m1, m2, m3]
      simp only [vJ6_stringSize_0f7a4_31, vJ6_stringSize_0f7a4_33, vJ6_stringSize_0f7a4_34, vJ6_stringSize_0f7a4_35, vJ6_stringSize_0f7a4_36, vJ6_stringSize_0f7a4_39, pI_c, pL_c, pF_c, pD_c, pA_n, pA_c, pA_rf, pR_c, pR_rf, pV_i, pV_a, pV_n, pV_rf, ldI_c, ldL_c, ldF_c, ldD_c, ldA_c, ldA_n, ldA_rf, dup2_l, dup2_ia, dup2_ir, popA_0, popA_s, getL_z, getL_s, setL_z, setL_1, setL_s, setL2_z, setL2_1, setL2_s, drop2_i, drop2_a, drop2_0, drop2_n, drop2_l, drop2_d, drop2_r, cwd_0, cwd_i, cwd_a, cwd_n, cwd_l, cwd_d, cwd_f, cwd_r, rf_s, rf_n, swi_0, swi_s, zR_b0, zR_b1, zN_b0, zN_b1, entV_i, entV_a, entV_n, entV_r, entV_f, entV_l, entV_d, entV_s, entV_0, List.length_cons, List.length_nil, List.nil_append, List.cons_append, true_and, and_true, Nat.reduceAdd, Nat.reduceLT, Nat.reduceEqDiff, Nat.reduceLeDiff, Nat.reduceSub, Nat.zero_add, Classical.not_not, ex_i, ex_l, ex_d, ex_r, ex_rs, ex_rn, ex_sm, Nat.sub_zero, eq_self, wn_sI, wn_sL, wn_sP, wsh_sI, wsh_sL, wsh_sP, wI_sL, wI_sP, wL_sI, wL_sP, wP_sI, wP_sL, wI_sI, wL_sL, Int32.reduceLT, Int32.reduceLE, true_implies, not_true_eq_false, false_implies, not_false_eq_true, i_10, m4, m5]
      exact ih (i + 1) (by omega) (by omega) hl (Or.inr m3)
set_option maxRecDepth 100000 in
set_option maxHeartbeats 4000000 in
theorem J6_stringSize_ok {g : Ge} {w : Wd} {k n : Nat} {K : Int32 → Wd → Nat → Nat → Prop} {v : Int32} (h1 : -999999 ≤ v.toInt) (h2 : v.toInt ≤ 999999) (h : K (nI (numT v).length) w k n) : cI g mJ6_stringSize_0f7a4 [.int v] w k n K := by
  obtain ⟨hA, hn, hp⟩ := num_abs h1 h2
  rw [numT_ln] at h
  unfold sgN at h
  refine cI_of 4 0 0 rfl (by decide +kernel) rfl (Nat.le_of_ble_eq_true rfl) (Nat.zero_le _) (Nat.zero_le _) ?_
  by_cases q : v < 0
  · rw [if_pos q] at h
    have e := hn q
    simp only [vJ6_stringSize_0f7a4_0, vJ6_stringSize_0f7a4_1, vJ6_stringSize_0f7a4_2, vJ6_stringSize_0f7a4_3, vJ6_stringSize_0f7a4_11, vJ6_stringSize_0f7a4_13, vJ6_stringSize_0f7a4_14, vJ6_stringSize_0f7a4_15, pI_c, pL_c, pF_c, pD_c, pA_n, pA_c, pA_rf, pR_c, pR_rf, pV_i, pV_a, pV_n, pV_rf, ldI_c, ldL_c, ldF_c, ldD_c, ldA_c, ldA_n, ldA_rf, dup2_l, dup2_ia, dup2_ir, popA_0, popA_s, getL_z, getL_s, setL_z, setL_1, setL_s, setL2_z, setL2_1, setL2_s, drop2_i, drop2_a, drop2_0, drop2_n, drop2_l, drop2_d, drop2_r, cwd_0, cwd_i, cwd_a, cwd_n, cwd_l, cwd_d, cwd_f, cwd_r, rf_s, rf_n, swi_0, swi_s, zR_b0, zR_b1, zN_b0, zN_b1, entV_i, entV_a, entV_n, entV_r, entV_f, entV_l, entV_d, entV_s, entV_0, List.length_cons, List.length_nil, List.nil_append, List.cons_append, true_and, and_true, Nat.reduceAdd, Nat.reduceLT, Nat.reduceEqDiff, Nat.reduceLeDiff, Nat.reduceSub, Nat.zero_add, Classical.not_not, ex_i, ex_l, ex_d, ex_r, ex_rs, ex_rn, ex_sm, Nat.sub_zero, eq_self, wn_sI, wn_sL, wn_sP, wsh_sI, wsh_sL, wsh_sP, wI_sL, wI_sP, wL_sI, wL_sP, wP_sI, wP_sL, wI_sI, wL_sL, Int32.reduceLT, Int32.reduceLE, true_implies, not_true_eq_false, false_implies, not_false_eq_true, i_10, q]
    have := J6_ss_loop (g := g) (k0 := 0) (n0 := 0) (s := 1) (w := w) (K := fun r w' => ∃ x, r = some (.int x) ∧ K x w' (k - 0) (n - 0)) (show v.toInt.natAbs < 1000000 by omega) (Nat.le_refl _) ⟨_, rfl, h⟩ 5 1 rfl (Nat.le_refl _) rfl (Or.inl rfl)
    rw [← e] at this
    exact this
  · rw [if_neg q] at h
    have e := hp q
    simp only [vJ6_stringSize_0f7a4_0, vJ6_stringSize_0f7a4_1, vJ6_stringSize_0f7a4_2, vJ6_stringSize_0f7a4_3, vJ6_stringSize_0f7a4_6, vJ6_stringSize_0f7a4_7, vJ6_stringSize_0f7a4_8, vJ6_stringSize_0f7a4_9, vJ6_stringSize_0f7a4_10, vJ6_stringSize_0f7a4_11, vJ6_stringSize_0f7a4_13, vJ6_stringSize_0f7a4_14, vJ6_stringSize_0f7a4_15, pI_c, pL_c, pF_c, pD_c, pA_n, pA_c, pA_rf, pR_c, pR_rf, pV_i, pV_a, pV_n, pV_rf, ldI_c, ldL_c, ldF_c, ldD_c, ldA_c, ldA_n, ldA_rf, dup2_l, dup2_ia, dup2_ir, popA_0, popA_s, getL_z, getL_s, setL_z, setL_1, setL_s, setL2_z, setL2_1, setL2_s, drop2_i, drop2_a, drop2_0, drop2_n, drop2_l, drop2_d, drop2_r, cwd_0, cwd_i, cwd_a, cwd_n, cwd_l, cwd_d, cwd_f, cwd_r, rf_s, rf_n, swi_0, swi_s, zR_b0, zR_b1, zN_b0, zN_b1, entV_i, entV_a, entV_n, entV_r, entV_f, entV_l, entV_d, entV_s, entV_0, List.length_cons, List.length_nil, List.nil_append, List.cons_append, true_and, and_true, Nat.reduceAdd, Nat.reduceLT, Nat.reduceEqDiff, Nat.reduceLeDiff, Nat.reduceSub, Nat.zero_add, Classical.not_not, ex_i, ex_l, ex_d, ex_r, ex_rs, ex_rn, ex_sm, Nat.sub_zero, eq_self, wn_sI, wn_sL, wn_sP, wsh_sI, wsh_sL, wsh_sP, wI_sL, wI_sP, wL_sI, wL_sP, wP_sI, wP_sL, wI_sI, wL_sL, Int32.reduceLT, Int32.reduceLE, true_implies, not_true_eq_false, false_implies, not_false_eq_true, i_10, q]
    have := J6_ss_loop (g := g) (k0 := 0) (n0 := 0) (s := 0) (w := w) (K := fun r w' => ∃ x, r = some (.int x) ∧ K x w' (k - 0) (n - 0)) (show v.toInt.natAbs < 1000000 by omega) (by decide) ⟨_, rfl, h⟩ 5 1 rfl (Nat.le_refl _) rfl (Or.inl rfl)
    rw [← e] at this
    exact this
