/-! the reference: small methods -/
theorem i_10 : ((1 : Int32) = 0) = False := eq_false (by decide)
def b2i (p : Prop) [Decidable p] : Int32 := if p then 1 else 0
theorem b2i_t {p : Prop} [Decidable p] (h : p) : b2i p = 1 := if_pos h
theorem b2i_f {p : Prop} [Decidable p] (h : ¬ p) : b2i p = 0 := if_neg h
theorem b2i_z {p : Prop} [Decidable p] : (b2i p = 0) = ¬ p := by
  unfold b2i
  split
  · simp [*]
  · simp [*]
theorem zR_b2i (p : Prop) [Decidable p] : zR .boolean (b2i p) = True := by
  unfold b2i
  split
  · exact zR_b1
  · exact zR_b0
set_option maxRecDepth 100000 in
theorem X12_within_ok {g : Ge} {w : Wd} {k n : Nat} {K : Int32 → Wd → Nat → Nat → Prop} (v lo hi : Int32) (h : K (b2i (lo ≤ v ∧ v ≤ hi)) w k n) : cI g mX12_within [.int v, .int lo, .int hi] w k n K := by
  refine cI_of 3 0 0 rfl (by decide +kernel) rfl (Nat.le_of_ble_eq_true rfl) (Nat.zero_le _) (Nat.zero_le _) ?_
  simp only [vX12_within_0, vX12_within_1, vX12_within_2, vX12_within_5, vX12_within_6, vX12_within_7, vX12_within_10, vX12_within_11, vX12_within_14, vX12_within_15, pI_c, pL_c, pF_c, pD_c, pA_n, pA_c, pA_rf, pR_c, pR_rf, pV_i, pV_a, pV_n, pV_rf, ldI_c, ldL_c, ldF_c, ldD_c, ldA_c, ldA_n, ldA_rf, dup2_l, dup2_ia, dup2_ir, popA_0, popA_s, getL_z, getL_s, setL_z, setL_1, setL_s, setL2_z, setL2_1, setL2_s, drop2_i, drop2_a, drop2_0, drop2_n, drop2_l, drop2_d, drop2_r, cwd_0, cwd_i, cwd_a, cwd_n, cwd_l, cwd_d, cwd_f, cwd_r, rf_s, rf_n, swi_0, swi_s, zR_b0, zR_b1, zN_b0, zN_b1, entV_i, entV_a, entV_n, entV_r, entV_f, entV_l, entV_d, entV_s, entV_0, List.length_cons, List.length_nil, List.nil_append, List.cons_append, true_and, and_true, Nat.reduceAdd, Nat.reduceLT, Nat.reduceEqDiff, Nat.reduceLeDiff, Nat.reduceSub, Nat.zero_add, Classical.not_not, ex_i, ex_l, ex_d, ex_r, ex_rs, ex_rn, ex_sm, Nat.sub_zero, eq_self, wn_sI, wn_sL, wn_sP, wsh_sI, wsh_sL, wsh_sP, wI_sL, wI_sP, wL_sI, wL_sP, wP_sI, wP_sL, wI_sI, wL_sL, Int32.reduceLT, Int32.reduceLE, true_implies, not_true_eq_false, false_implies, not_false_eq_true, i_10]
  simp only [Int32.lt_iff_toInt_lt, Int32.le_iff_toInt_le] at h ⊢
  refine ⟨fun q => ?_, fun q => ⟨fun q2 => ?_, fun q2 => ?_⟩⟩
  · rwa [b2i_f (by omega)] at h
  · rwa [b2i_f (by omega)] at h
  · rwa [b2i_t (by omega)] at h
set_option maxRecDepth 100000 in
theorem X12_isSlot_ok {g : Ge} {w : Wd} {k n : Nat} {K : Int32 → Wd → Nat → Nat → Prop} (v : Int32) (h : K (b2i (0 ≤ v ∧ v ≤ 7)) w k n) : cI g mX12_isSlot [.int v] w k n K := by
  refine cI_of 1 0 0 rfl (by decide +kernel) rfl (Nat.le_of_ble_eq_true rfl) (Nat.zero_le _) (Nat.zero_le _) ?_
  simp only [vX12_isSlot_0, vX12_isSlot_1, vX12_isSlot_2, vX12_isSlot_4, vX12_isSlot_7, pI_c, pL_c, pF_c, pD_c, pA_n, pA_c, pA_rf, pR_c, pR_rf, pV_i, pV_a, pV_n, pV_rf, ldI_c, ldL_c, ldF_c, ldD_c, ldA_c, ldA_n, ldA_rf, dup2_l, dup2_ia, dup2_ir, popA_0, popA_s, getL_z, getL_s, setL_z, setL_1, setL_s, setL2_z, setL2_1, setL2_s, drop2_i, drop2_a, drop2_0, drop2_n, drop2_l, drop2_d, drop2_r, cwd_0, cwd_i, cwd_a, cwd_n, cwd_l, cwd_d, cwd_f, cwd_r, rf_s, rf_n, swi_0, swi_s, zR_b0, zR_b1, zN_b0, zN_b1, entV_i, entV_a, entV_n, entV_r, entV_f, entV_l, entV_d, entV_s, entV_0, List.length_cons, List.length_nil, List.nil_append, List.cons_append, true_and, and_true, Nat.reduceAdd, Nat.reduceLT, Nat.reduceEqDiff, Nat.reduceLeDiff, Nat.reduceSub, Nat.zero_add, Classical.not_not, ex_i, ex_l, ex_d, ex_r, ex_rs, ex_rn, ex_sm, Nat.sub_zero, eq_self, wn_sI, wn_sL, wn_sP, wsh_sI, wsh_sL, wsh_sP, wI_sL, wI_sP, wL_sI, wL_sP, wP_sI, wP_sL, wI_sI, wL_sL, Int32.reduceLT, Int32.reduceLE, true_implies, not_true_eq_false, false_implies, not_false_eq_true, i_10]
  refine X12_within_ok _ _ _ ?_
  simp only [zR_b2i, pI_c, pL_c, pF_c, pD_c, pA_n, pA_c, pA_rf, pR_c, pR_rf, pV_i, pV_a, pV_n, pV_rf, ldI_c, ldL_c, ldF_c, ldD_c, ldA_c, ldA_n, ldA_rf, dup2_l, dup2_ia, dup2_ir, popA_0, popA_s, getL_z, getL_s, setL_z, setL_1, setL_s, setL2_z, setL2_1, setL2_s, drop2_i, drop2_a, drop2_0, drop2_n, drop2_l, drop2_d, drop2_r, cwd_0, cwd_i, cwd_a, cwd_n, cwd_l, cwd_d, cwd_f, cwd_r, rf_s, rf_n, swi_0, swi_s, zR_b0, zR_b1, zN_b0, zN_b1, entV_i, entV_a, entV_n, entV_r, entV_f, entV_l, entV_d, entV_s, entV_0, List.length_cons, List.length_nil, List.nil_append, List.cons_append, true_and, and_true, Nat.reduceAdd, Nat.reduceLT, Nat.reduceEqDiff, Nat.reduceLeDiff, Nat.reduceSub, Nat.zero_add, Classical.not_not, ex_i, ex_l, ex_d, ex_r, ex_rs, ex_rn, ex_sm, Nat.sub_zero, eq_self, wn_sI, wn_sL, wn_sP, wsh_sI, wsh_sL, wsh_sP, wI_sL, wI_sP, wL_sI, wL_sP, wP_sI, wP_sL, wI_sI, wL_sL, Int32.reduceLT, Int32.reduceLE, true_implies, not_true_eq_false, false_implies, not_false_eq_true, i_10]
  exact h
/-! numbers of loops -/
theorem ni_in {a n : Nat} (h : a < n) (hn : n < 2147483648) : vp_in (nI a) n = True := eq_true (vp_in_nI h hn)
theorem ni_cl {a : Nat} (h : a < 2147483648) : (nI a).toNatClampNeg = a := nI_clamp h
theorem ni_le {a b : Nat} (ha : a < 2147483648) (hb : b < 2147483648) : (nI a ≤ nI b) = (a ≤ b) := propext (nI_leI ha hb)
theorem ni_lt {a b : Nat} (ha : a < 2147483648) (hb : b < 2147483648) : (nI a < nI b) = (a < b) := propext (nI_ltI ha hb)
theorem ni_eq {a b : Nat} (ha : a < 2147483648) (hb : b < 2147483648) : (nI a = nI b) = (a = b) := propext (nI_eq ha hb)
theorem ni_lit (a : Nat) : (OfNat.ofNat a : Int32) = nI a := rfl
theorem ni_1 (a : Nat) : nI a + 1 = nI (a + 1) := nI_1 a
theorem ni_add (a b : Nat) : nI a + nI b = nI (a + b) := nI_add a b
/-- how many of the first n are r -/
def cntI (f : Nat → Int32) (r : Int32) : Nat → Nat
  | 0 => 0
  | n + 1 => cntI f r n + if f n = r then 1 else 0
theorem cntI_le (f : Nat → Int32) (r : Int32) : ∀ n, cntI f r n ≤ n
  | 0 => Nat.le_refl 0
  | n + 1 => by
    have := cntI_le f r n
    unfold cntI
    split <;> omega
set_option maxRecDepth 100000 in
theorem X12_holders_loop {g : Ge} {m : Nat} {w : Wd} {k n : Nat} {K : Option Value → Wd → Prop} (hm : MS g m w) (r : Int32) (hK : K (some (.int (nI (cntI (wI w (m + 1)) r 8)))) w) : ∀ (d s : Nat), s + d = 8 → R g mX12_holders K 4 [some (.ref m), some (.int r), some (.int (nI (cntI (wI w (m + 1)) r s))), some (.int (nI s))] [] w k n := by
  intro d
  induction d with
  | zero =>
    intro s hs
    obtain rfl : s = 8 := by omega
    rw [vX12_holders_4]
    simp only [vX12_holders_0, vX12_holders_1, vX12_holders_2, vX12_holders_3, vX12_holders_5, vX12_holders_7, vX12_holders_10, vX12_holders_11, vX12_holders_14, vX12_holders_15, vX12_holders_16, vX12_holders_17, vX12_holders_20, vX12_holders_23, vX12_holders_26, vX12_holders_29, vX12_holders_30, ms_o hm, ms_b hm, ms_0 hm, mp_slot hm, ms_slot hm, pI_c, pL_c, pF_c, pD_c, pA_n, pA_c, pA_rf, pR_c, pR_rf, pV_i, pV_a, pV_n, pV_rf, ldI_c, ldL_c, ldF_c, ldD_c, ldA_c, ldA_n, ldA_rf, dup2_l, dup2_ia, dup2_ir, popA_0, popA_s, getL_z, getL_s, setL_z, setL_1, setL_s, setL2_z, setL2_1, setL2_s, drop2_i, drop2_a, drop2_0, drop2_n, drop2_l, drop2_d, drop2_r, cwd_0, cwd_i, cwd_a, cwd_n, cwd_l, cwd_d, cwd_f, cwd_r, rf_s, rf_n, swi_0, swi_s, zR_b0, zR_b1, zN_b0, zN_b1, entV_i, entV_a, entV_n, entV_r, entV_f, entV_l, entV_d, entV_s, entV_0, List.length_cons, List.length_nil, List.nil_append, List.cons_append, true_and, and_true, Nat.reduceAdd, Nat.reduceLT, Nat.reduceEqDiff, Nat.reduceLeDiff, Nat.reduceSub, Nat.zero_add, Classical.not_not, ex_i, ex_l, ex_d, ex_r, ex_rs, ex_rn, ex_sm, Nat.sub_zero, eq_self, wn_sI, wn_sL, wn_sP, wsh_sI, wsh_sL, wsh_sP, wI_sL, wI_sP, wL_sI, wL_sP, wP_sI, wP_sL, wI_sI, wL_sL, Int32.reduceLT, Int32.reduceLE, true_implies, not_true_eq_false, false_implies, not_false_eq_true, i_10]
    simp (disch := omega) only [ni_lit, ni_le, Nat.le_refl, not_true_eq_false, false_implies, true_implies, and_true]
    exact hK
  | succ d ih =>
    intro s hs
    have h8 : ¬ 8 ≤ s := by omega
    rw [vX12_holders_4]
    simp only [vX12_holders_0, vX12_holders_1, vX12_holders_2, vX12_holders_3, vX12_holders_5, vX12_holders_7, vX12_holders_10, vX12_holders_11, vX12_holders_14, vX12_holders_15, vX12_holders_16, vX12_holders_17, vX12_holders_20, vX12_holders_23, vX12_holders_26, vX12_holders_29, vX12_holders_30, ms_o hm, ms_b hm, ms_0 hm, mp_slot hm, ms_slot hm, pI_c, pL_c, pF_c, pD_c, pA_n, pA_c, pA_rf, pR_c, pR_rf, pV_i, pV_a, pV_n, pV_rf, ldI_c, ldL_c, ldF_c, ldD_c, ldA_c, ldA_n, ldA_rf, dup2_l, dup2_ia, dup2_ir, popA_0, popA_s, getL_z, getL_s, setL_z, setL_1, setL_s, setL2_z, setL2_1, setL2_s, drop2_i, drop2_a, drop2_0, drop2_n, drop2_l, drop2_d, drop2_r, cwd_0, cwd_i, cwd_a, cwd_n, cwd_l, cwd_d, cwd_f, cwd_r, rf_s, rf_n, swi_0, swi_s, zR_b0, zR_b1, zN_b0, zN_b1, entV_i, entV_a, entV_n, entV_r, entV_f, entV_l, entV_d, entV_s, entV_0, List.length_cons, List.length_nil, List.nil_append, List.cons_append, true_and, and_true, Nat.reduceAdd, Nat.reduceLT, Nat.reduceEqDiff, Nat.reduceLeDiff, Nat.reduceSub, Nat.zero_add, Classical.not_not, ex_i, ex_l, ex_d, ex_r, ex_rs, ex_rn, ex_sm, Nat.sub_zero, eq_self, wn_sI, wn_sL, wn_sP, wsh_sI, wsh_sL, wsh_sP, wI_sL, wI_sP, wL_sI, wL_sP, wP_sI, wP_sL, wI_sI, wL_sL, Int32.reduceLT, Int32.reduceLE, true_implies, not_true_eq_false, false_implies, not_false_eq_true, i_10]
    simp (disch := omega) only [ni_lit, ni_le, h8, not_false_eq_true, false_implies, true_implies, true_and, ni_cl, ni_in, ni_add]
    have := ih (s + 1) (by omega)
    unfold cntI at this
    refine ⟨fun q => ?_, fun q => ?_⟩
    · rw [if_neg q] at this
      exact this
    · rw [if_pos q] at this
      exact this
set_option maxRecDepth 100000 in
theorem X12_holders_ok {g : Ge} {m : Nat} {w : Wd} {k n : Nat} {K : Int32 → Wd → Nat → Nat → Prop} (hm : MS g m w) (r : Int32) (h : K (nI (cntI (wI w (m + 1)) r 8)) w k n) : cI g mX12_holders [.ref m, .int r] w k n K := by
  refine cI_of 4 0 0 rfl (by decide +kernel) rfl (Nat.le_of_ble_eq_true rfl) (Nat.zero_le _) (Nat.zero_le _) ?_
  simp only [vX12_holders_0, vX12_holders_1, vX12_holders_2, vX12_holders_3, vX12_holders_5, vX12_holders_7, vX12_holders_10, vX12_holders_11, vX12_holders_14, vX12_holders_15, vX12_holders_16, vX12_holders_17, vX12_holders_20, vX12_holders_23, vX12_holders_26, vX12_holders_29, vX12_holders_30, ms_o hm, ms_b hm, ms_0 hm, mp_slot hm, ms_slot hm, pI_c, pL_c, pF_c, pD_c, pA_n, pA_c, pA_rf, pR_c, pR_rf, pV_i, pV_a, pV_n, pV_rf, ldI_c, ldL_c, ldF_c, ldD_c, ldA_c, ldA_n, ldA_rf, dup2_l, dup2_ia, dup2_ir, popA_0, popA_s, getL_z, getL_s, setL_z, setL_1, setL_s, setL2_z, setL2_1, setL2_s, drop2_i, drop2_a, drop2_0, drop2_n, drop2_l, drop2_d, drop2_r, cwd_0, cwd_i, cwd_a, cwd_n, cwd_l, cwd_d, cwd_f, cwd_r, rf_s, rf_n, swi_0, swi_s, zR_b0, zR_b1, zN_b0, zN_b1, entV_i, entV_a, entV_n, entV_r, entV_f, entV_l, entV_d, entV_s, entV_0, List.length_cons, List.length_nil, List.nil_append, List.cons_append, true_and, and_true, Nat.reduceAdd, Nat.reduceLT, Nat.reduceEqDiff, Nat.reduceLeDiff, Nat.reduceSub, Nat.zero_add, Classical.not_not, ex_i, ex_l, ex_d, ex_r, ex_rs, ex_rn, ex_sm, Nat.sub_zero, eq_self, wn_sI, wn_sL, wn_sP, wsh_sI, wsh_sL, wsh_sP, wI_sL, wI_sP, wL_sI, wL_sP, wP_sI, wP_sL, wI_sI, wL_sL, Int32.reduceLT, Int32.reduceLE, true_implies, not_true_eq_false, false_implies, not_false_eq_true, i_10]
  refine X12_holders_loop hm r ?_ 8 0 rfl
  simp only [pI_c, pL_c, pF_c, pD_c, pA_n, pA_c, pA_rf, pR_c, pR_rf, pV_i, pV_a, pV_n, pV_rf, ldI_c, ldL_c, ldF_c, ldD_c, ldA_c, ldA_n, ldA_rf, dup2_l, dup2_ia, dup2_ir, popA_0, popA_s, getL_z, getL_s, setL_z, setL_1, setL_s, setL2_z, setL2_1, setL2_s, drop2_i, drop2_a, drop2_0, drop2_n, drop2_l, drop2_d, drop2_r, cwd_0, cwd_i, cwd_a, cwd_n, cwd_l, cwd_d, cwd_f, cwd_r, rf_s, rf_n, swi_0, swi_s, zR_b0, zR_b1, zN_b0, zN_b1, entV_i, entV_a, entV_n, entV_r, entV_f, entV_l, entV_d, entV_s, entV_0, List.length_cons, List.length_nil, List.nil_append, List.cons_append, true_and, and_true, Nat.reduceAdd, Nat.reduceLT, Nat.reduceEqDiff, Nat.reduceLeDiff, Nat.reduceSub, Nat.zero_add, Classical.not_not, ex_i, ex_l, ex_d, ex_r, ex_rs, ex_rn, ex_sm, Nat.sub_zero, eq_self, wn_sI, wn_sL, wn_sP, wsh_sI, wsh_sL, wsh_sP, wI_sL, wI_sP, wL_sI, wL_sP, wP_sI, wP_sL, wI_sI, wL_sL, Int32.reduceLT, Int32.reduceLE, true_implies, not_true_eq_false, false_implies, not_false_eq_true, i_10]
  exact h
