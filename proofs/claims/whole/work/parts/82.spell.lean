/-! the reference: spell -/
theorem ni_div {a b : Nat} (ha : a < 2147483648) (hb : b < 2147483648) : nI a / nI b = nI (a / b) := by
  have hab : a / b ≤ a := Nat.div_le_self a b
  refine Int32.toInt_inj.mp ?_
  rw [Int32.toInt_div, ni_ti ha, ni_ti hb, ni_ti (show a / b < 2147483648 by omega), ← Int.ofNat_tdiv, show (2 : Nat) ^ 32 = 4294967296 from rfl]
  generalize a / b = c at *
  exact Int.bmod_eq_of_le (by omega) (by omega)
theorem ni_rem {a b : Nat} (ha : a < 2147483648) (hb : b < 2147483648) : nI a - nI a / nI b * nI b = nI (a % b) := by
  have h := Nat.div_add_mod a b
  rw [Nat.mul_comm] at h
  rw [ni_div ha hb, ni_mul, ni_sub (by omega)]
  congr 1
  omega
def decK (n : Nat) : Nat → List Nat
  | 0 => [n % 10]
  | e + 1 => (n / 10 ^ (e + 1) % 10) :: decK n e
def lg10 (n : Nat) : Nat → Nat → Nat
  | 0, e => e
  | d + 1, e => if n / 10 ^ e ≤ 9 then e else lg10 n d (e + 1)
def decL (n : Nat) : List Nat := decK n (lg10 n 5 0)
def numT (v : Int32) : List Int32 := (if v < 0 then [45] else []) ++ (decL v.toInt.natAbs).map fun d => nI (48 + d)
theorem decK_len (n : Nat) : ∀ e, (decK n e).length = e + 1
  | 0 => rfl
  | e + 1 => by
    unfold decK
    rw [List.length_cons, decK_len n e]
theorem lg10_le (n : Nat) : ∀ d e, lg10 n d e ≤ d + e
  | 0, e => by
    unfold lg10
    omega
  | d + 1, e => by
    have := lg10_le n d (e + 1)
    unfold lg10
    split <;> omega
theorem numT_len (v : Int32) : (numT v).length ≤ 7 := by
  unfold numT decL
  rw [List.length_append, List.length_map, decK_len]
  have := lg10_le v.toInt.natAbs 5 0
  split
  · rw [List.length_singleton]; omega
  · rw [List.length_nil]; omega
def PapM (m : Nat) (w : Wd) (L : List Int32) : Prop := wI w m 17 = nI L.length ∧ bufH (wI w (m + 15)) 0 L
def papS (m : Nat) (a j : Nat) : Prop := (a = m ∧ j = 17) ∨ a = m + 15
set_option maxRecDepth 100000 in
set_option maxHeartbeats 4000000 in
theorem X12_says_ok {g : Ge} {w : Wd} {k n : Nat} {K : Wd → Nat → Nat → Prop} {m : Nat} (hm : MS g m w) {L : List Int32} (hL : PapM m w L) (hl : L.length < 240) (x : Int32) (h : ∀ w', Fr (papS m) w w' → PapM m w' (L ++ [x]) → K w' k n) : cV g mX12_says [.ref m, .int x] w k n K := by
  have e := hL.1
  refine cV_of 2 0 0 rfl (by decide +kernel) rfl (Nat.le_of_ble_eq_true rfl) (Nat.zero_le _) (Nat.zero_le _) ?_
  simp (disch := omega) only [vX12_says_0, vX12_says_1, vX12_says_4, vX12_says_5, vX12_says_6, vX12_says_9, vX12_says_10, vX12_says_11, vX12_says_12, vX12_says_15, vX12_says_16, vX12_says_17, ms_o hm, ms_b hm, ms_0 hm, mp_paper hm, ms_paper hm, pI_c, pL_c, pF_c, pD_c, pA_n, pA_c, pA_rf, pR_c, pR_rf, pV_i, pV_a, pV_n, pV_rf, ldI_c, ldL_c, ldF_c, ldD_c, ldA_c, ldA_n, ldA_rf, dup2_l, dup2_ia, dup2_ir, popA_0, popA_s, getL_z, getL_s, setL_z, setL_1, setL_s, setL2_z, setL2_1, setL2_s, drop2_i, drop2_a, drop2_0, drop2_n, drop2_l, drop2_d, drop2_r, cwd_0, cwd_i, cwd_a, cwd_n, cwd_l, cwd_d, cwd_f, cwd_r, rf_s, rf_n, swi_0, swi_s, zR_b0, zR_b1, zN_b0, zN_b1, entV_i, entV_a, entV_n, entV_r, entV_f, entV_l, entV_d, entV_s, entV_0, List.length_cons, List.length_nil, List.nil_append, List.cons_append, true_and, and_true, Nat.reduceAdd, Nat.reduceLT, Nat.reduceEqDiff, Nat.reduceLeDiff, Nat.reduceSub, Nat.zero_add, Classical.not_not, ex_i, ex_l, ex_d, ex_r, ex_rs, ex_rn, ex_sm, Nat.sub_zero, eq_self, wn_sI, wn_sL, wn_sP, wsh_sI, wsh_sL, wsh_sP, wI_sL, wI_sP, wL_sI, wL_sP, wP_sI, wP_sL, wI_sI, wL_sL, Int32.reduceLT, Int32.reduceLE, true_implies, not_true_eq_false, false_implies, not_false_eq_true, i_10, na_1, nb_1, nm_1, ns_1, nr_1, na_2, nb_2, nm_2, ns_2, nr_2, na_3, nb_3, nm_3, ns_3, nr_3, na_4, nb_4, nm_4, ns_4, nr_4, na_5, nb_5, nm_5, ns_5, nr_5, na_6, nb_6, nm_6, ns_6, nr_6, na_7, nb_7, nm_7, ns_7, nr_7, na_8, nb_8, nm_8, ns_8, nr_8, na_10, nb_10, nm_10, ns_10, nr_10, na_16, nb_16, nm_16, ns_16, nr_16, nl_m1, ni_add, ni_mul, ni_sub, ni_cl, ni_in, vp_0, vp_1, vp_2, vp_3, vp_4, vp_5, Int32.reduceToNatClampNeg, e]
  refine h _ ((Fr.rf.i _ (Or.inl ⟨rfl, rfl⟩)).i _ (Or.inr rfl)) ⟨?_, hL.2.push x ?_ fun i hi => ?_⟩
  · rw [wI_ne (by omega), wI_at, if_pos rfl, List.length_append, List.length_singleton]
  · rw [Nat.zero_add, wI_at, if_pos rfl]
  · rw [wI_at, if_neg (by omega), wI_ne (by omega)]
theorem take_map {L : List Nat} {i : Nat} (hi : i < L.length) : (L.take (i + 1)).map nI = (L.take i).map nI ++ [nI (L.getD i 0)] := by
  rw [List.take_succ_eq_append_getElem hi, List.map_append, List.map_singleton, List.getD_eq_getElem?_getD, List.getElem?_eq_getElem hi, Option.getD_some]
set_option maxRecDepth 100000 in
set_option maxHeartbeats 4000000 in
theorem X12_saysS_loop {g : Ge} {m k0 n0 a : Nat} {L : List Nat} {K : Option Value → Wd → Prop} (hL : L.length ≤ 8) (hx : ∀ i, i < L.length → L.getD i 0 < 128) : ∀ (d i : Nat) (w : Wd) (P : List Int32), i + d = L.length → MS g m w → TxtL w a L → gB g ≤ m → P.length ≤ 200 → PapM m w (P ++ (L.take i).map nI) → a < gB g → (∀ b, wP w a 0 = some b → b < gB g) → (∀ w', Fr (papS m) w w' → PapM m w' (P ++ L.map nI) → K none w') → R g mX12_says_ K 2 [some (.ref m), some (.ref a), some (.int (nI i))] [] w k0 n0 := by
  intro d
  induction d with
  | zero =>
    intro i w P hi hm ht hg hP hPm ha hb hK
    obtain rfl : i = L.length := by omega
    have hta := ht.1
    rw [List.take_of_length_le (Nat.le_refl _)] at hPm
    simp only [vX12_says__2, vX12_says__3, vX12_says__4, pI_c, pL_c, pF_c, pD_c, pA_n, pA_c, pA_rf, pR_c, pR_rf, pV_i, pV_a, pV_n, pV_rf, ldI_c, ldL_c, ldF_c, ldD_c, ldA_c, ldA_n, ldA_rf, dup2_l, dup2_ia, dup2_ir, popA_0, popA_s, getL_z, getL_s, setL_z, setL_1, setL_s, setL2_z, setL2_1, setL2_s, drop2_i, drop2_a, drop2_0, drop2_n, drop2_l, drop2_d, drop2_r, cwd_0, cwd_i, cwd_a, cwd_n, cwd_l, cwd_d, cwd_f, cwd_r, rf_s, rf_n, swi_0, swi_s, zR_b0, zR_b1, zN_b0, zN_b1, entV_i, entV_a, entV_n, entV_r, entV_f, entV_l, entV_d, entV_s, entV_0, List.length_cons, List.length_nil, List.nil_append, List.cons_append, true_and, and_true, Nat.reduceAdd, Nat.reduceLT, Nat.reduceEqDiff, Nat.reduceLeDiff, Nat.reduceSub, Nat.zero_add, Classical.not_not, ex_i, ex_l, ex_d, ex_r, ex_rs, ex_rn, ex_sm, Nat.sub_zero, eq_self, wn_sI, wn_sL, wn_sP, wsh_sI, wsh_sL, wsh_sP, wI_sL, wI_sP, wL_sI, wL_sP, wP_sI, wP_sL, wI_sI, wL_sL, Int32.reduceLT, Int32.reduceLE, true_implies, not_true_eq_false, false_implies, not_false_eq_true, i_10, hta]
    refine TxtL_len ht ?_
    simp (disch := omega) only [vX12_says__7, vX12_says__25, pI_c, pL_c, pF_c, pD_c, pA_n, pA_c, pA_rf, pR_c, pR_rf, pV_i, pV_a, pV_n, pV_rf, ldI_c, ldL_c, ldF_c, ldD_c, ldA_c, ldA_n, ldA_rf, dup2_l, dup2_ia, dup2_ir, popA_0, popA_s, getL_z, getL_s, setL_z, setL_1, setL_s, setL2_z, setL2_1, setL2_s, drop2_i, drop2_a, drop2_0, drop2_n, drop2_l, drop2_d, drop2_r, cwd_0, cwd_i, cwd_a, cwd_n, cwd_l, cwd_d, cwd_f, cwd_r, rf_s, rf_n, swi_0, swi_s, zR_b0, zR_b1, zN_b0, zN_b1, entV_i, entV_a, entV_n, entV_r, entV_f, entV_l, entV_d, entV_s, entV_0, List.length_cons, List.length_nil, List.nil_append, List.cons_append, true_and, and_true, Nat.reduceAdd, Nat.reduceLT, Nat.reduceEqDiff, Nat.reduceLeDiff, Nat.reduceSub, Nat.zero_add, Classical.not_not, ex_i, ex_l, ex_d, ex_r, ex_rs, ex_rn, ex_sm, Nat.sub_zero, eq_self, wn_sI, wn_sL, wn_sP, wsh_sI, wsh_sL, wsh_sP, wI_sL, wI_sP, wL_sI, wL_sP, wP_sI, wP_sL, wI_sI, wL_sL, Int32.reduceLT, Int32.reduceLE, true_implies, not_true_eq_false, false_implies, not_false_eq_true, i_10, na_1, nb_1, nm_1, ns_1, nr_1, na_2, nb_2, nm_2, ns_2, nr_2, na_3, nb_3, nm_3, ns_3, nr_3, na_4, nb_4, nm_4, ns_4, nr_4, na_5, nb_5, nm_5, ns_5, nr_5, na_6, nb_6, nm_6, ns_6, nr_6, na_7, nb_7, nm_7, ns_7, nr_7, na_8, nb_8, nm_8, ns_8, nr_8, na_10, nb_10, nm_10, ns_10, nr_10, na_16, nb_16, nm_16, ns_16, nr_16, nl_m1, ni_add, ni_mul, ni_sub, ni_cl, ni_in, vp_0, vp_1, vp_2, vp_3, vp_4, vp_5, Int32.reduceToNatClampNeg, ni_le, ni_lt, ni_eq, ni_le1, ni_le0, ni_eq0, ni_eq1, ni_eq2, ni_eq8, ni_eq9, Nat.le_refl]
    exact hK w Fr.rf hPm
  | succ d ih =>
    intro i w P hi hm ht hg hP hPm ha hb hK
    have hta := ht.1
    have hlt : ¬ L.length ≤ i := by omega
    simp only [vX12_says__2, vX12_says__3, vX12_says__4, pI_c, pL_c, pF_c, pD_c, pA_n, pA_c, pA_rf, pR_c, pR_rf, pV_i, pV_a, pV_n, pV_rf, ldI_c, ldL_c, ldF_c, ldD_c, ldA_c, ldA_n, ldA_rf, dup2_l, dup2_ia, dup2_ir, popA_0, popA_s, getL_z, getL_s, setL_z, setL_1, setL_s, setL2_z, setL2_1, setL2_s, drop2_i, drop2_a, drop2_0, drop2_n, drop2_l, drop2_d, drop2_r, cwd_0, cwd_i, cwd_a, cwd_n, cwd_l, cwd_d, cwd_f, cwd_r, rf_s, rf_n, swi_0, swi_s, zR_b0, zR_b1, zN_b0, zN_b1, entV_i, entV_a, entV_n, entV_r, entV_f, entV_l, entV_d, entV_s, entV_0, List.length_cons, List.length_nil, List.nil_append, List.cons_append, true_and, and_true, Nat.reduceAdd, Nat.reduceLT, Nat.reduceEqDiff, Nat.reduceLeDiff, Nat.reduceSub, Nat.zero_add, Classical.not_not, ex_i, ex_l, ex_d, ex_r, ex_rs, ex_rn, ex_sm, Nat.sub_zero, eq_self, wn_sI, wn_sL, wn_sP, wsh_sI, wsh_sL, wsh_sP, wI_sL, wI_sP, wL_sI, wL_sP, wP_sI, wP_sL, wI_sI, wL_sL, Int32.reduceLT, Int32.reduceLE, true_implies, not_true_eq_false, false_implies, not_false_eq_true, i_10, hta]
    refine TxtL_len ht ?_
    simp (disch := omega) only [vX12_says__7, vX12_says__10, vX12_says__11, vX12_says__12, vX12_says__13, pI_c, pL_c, pF_c, pD_c, pA_n, pA_c, pA_rf, pR_c, pR_rf, pV_i, pV_a, pV_n, pV_rf, ldI_c, ldL_c, ldF_c, ldD_c, ldA_c, ldA_n, ldA_rf, dup2_l, dup2_ia, dup2_ir, popA_0, popA_s, getL_z, getL_s, setL_z, setL_1, setL_s, setL2_z, setL2_1, setL2_s, drop2_i, drop2_a, drop2_0, drop2_n, drop2_l, drop2_d, drop2_r, cwd_0, cwd_i, cwd_a, cwd_n, cwd_l, cwd_d, cwd_f, cwd_r, rf_s, rf_n, swi_0, swi_s, zR_b0, zR_b1, zN_b0, zN_b1, entV_i, entV_a, entV_n, entV_r, entV_f, entV_l, entV_d, entV_s, entV_0, List.length_cons, List.length_nil, List.nil_append, List.cons_append, true_and, and_true, Nat.reduceAdd, Nat.reduceLT, Nat.reduceEqDiff, Nat.reduceLeDiff, Nat.reduceSub, Nat.zero_add, Classical.not_not, ex_i, ex_l, ex_d, ex_r, ex_rs, ex_rn, ex_sm, Nat.sub_zero, eq_self, wn_sI, wn_sL, wn_sP, wsh_sI, wsh_sL, wsh_sP, wI_sL, wI_sP, wL_sI, wL_sP, wP_sI, wP_sL, wI_sI, wL_sL, Int32.reduceLT, Int32.reduceLE, true_implies, not_true_eq_false, false_implies, not_false_eq_true, i_10, na_1, nb_1, nm_1, ns_1, nr_1, na_2, nb_2, nm_2, ns_2, nr_2, na_3, nb_3, nm_3, ns_3, nr_3, na_4, nb_4, nm_4, ns_4, nr_4, na_5, nb_5, nm_5, ns_5, nr_5, na_6, nb_6, nm_6, ns_6, nr_6, na_7, nb_7, nm_7, ns_7, nr_7, na_8, nb_8, nm_8, ns_8, nr_8, na_10, nb_10, nm_10, ns_10, nr_10, na_16, nb_16, nm_16, ns_16, nr_16, nl_m1, ni_add, ni_mul, ni_sub, ni_cl, ni_in, vp_0, vp_1, vp_2, vp_3, vp_4, vp_5, Int32.reduceToNatClampNeg, ni_le, ni_lt, ni_eq, ni_le1, ni_le0, ni_eq0, ni_eq1, ni_eq2, ni_eq8, ni_eq9, hlt, hta]
    refine TxtL_at ht (by omega) (by omega) (hx i (by omega)) ?_
    simp only [vX12_says__16, ms_o hm, ms_b hm, ms_0 hm, pI_c, pL_c, pF_c, pD_c, pA_n, pA_c, pA_rf, pR_c, pR_rf, pV_i, pV_a, pV_n, pV_rf, ldI_c, ldL_c, ldF_c, ldD_c, ldA_c, ldA_n, ldA_rf, dup2_l, dup2_ia, dup2_ir, popA_0, popA_s, getL_z, getL_s, setL_z, setL_1, setL_s, setL2_z, setL2_1, setL2_s, drop2_i, drop2_a, drop2_0, drop2_n, drop2_l, drop2_d, drop2_r, cwd_0, cwd_i, cwd_a, cwd_n, cwd_l, cwd_d, cwd_f, cwd_r, rf_s, rf_n, swi_0, swi_s, zR_b0, zR_b1, zN_b0, zN_b1, entV_i, entV_a, entV_n, entV_r, entV_f, entV_l, entV_d, entV_s, entV_0, List.length_cons, List.length_nil, List.nil_append, List.cons_append, true_and, and_true, Nat.reduceAdd, Nat.reduceLT, Nat.reduceEqDiff, Nat.reduceLeDiff, Nat.reduceSub, Nat.zero_add, Classical.not_not, ex_i, ex_l, ex_d, ex_r, ex_rs, ex_rn, ex_sm, Nat.sub_zero, eq_self, wn_sI, wn_sL, wn_sP, wsh_sI, wsh_sL, wsh_sP, wI_sL, wI_sP, wL_sI, wL_sP, wP_sI, wP_sL, wI_sI, wL_sL, Int32.reduceLT, Int32.reduceLE, true_implies, not_true_eq_false, false_implies, not_false_eq_true, i_10]
    refine X12_says_ok hm hPm (by rw [List.length_append, List.length_map, List.length_take]; omega) _ fun w1 hf1 hP1 => ?_
    simp (disch := omega) only [vX12_says__19, vX12_says__22, pI_c, pL_c, pF_c, pD_c, pA_n, pA_c, pA_rf, pR_c, pR_rf, pV_i, pV_a, pV_n, pV_rf, ldI_c, ldL_c, ldF_c, ldD_c, ldA_c, ldA_n, ldA_rf, dup2_l, dup2_ia, dup2_ir, popA_0, popA_s, getL_z, getL_s, setL_z, setL_1, setL_s, setL2_z, setL2_1, setL2_s, drop2_i, drop2_a, drop2_0, drop2_n, drop2_l, drop2_d, drop2_r, cwd_0, cwd_i, cwd_a, cwd_n, cwd_l, cwd_d, cwd_f, cwd_r, rf_s, rf_n, swi_0, swi_s, zR_b0, zR_b1, zN_b0, zN_b1, entV_i, entV_a, entV_n, entV_r, entV_f, entV_l, entV_d, entV_s, entV_0, List.length_cons, List.length_nil, List.nil_append, List.cons_append, true_and, and_true, Nat.reduceAdd, Nat.reduceLT, Nat.reduceEqDiff, Nat.reduceLeDiff, Nat.reduceSub, Nat.zero_add, Classical.not_not, ex_i, ex_l, ex_d, ex_r, ex_rs, ex_rn, ex_sm, Nat.sub_zero, eq_self, wn_sI, wn_sL, wn_sP, wsh_sI, wsh_sL, wsh_sP, wI_sL, wI_sP, wL_sI, wL_sP, wP_sI, wP_sL, wI_sI, wL_sL, Int32.reduceLT, Int32.reduceLE, true_implies, not_true_eq_false, false_implies, not_false_eq_true, i_10, na_1, nb_1, nm_1, ns_1, nr_1, na_2, nb_2, nm_2, ns_2, nr_2, na_3, nb_3, nm_3, ns_3, nr_3, na_4, nb_4, nm_4, ns_4, nr_4, na_5, nb_5, nm_5, ns_5, nr_5, na_6, nb_6, nm_6, ns_6, nr_6, na_7, nb_7, nm_7, ns_7, nr_7, na_8, nb_8, nm_8, ns_8, nr_8, na_10, nb_10, nm_10, ns_10, nr_10, na_16, nb_16, nm_16, ns_16, nr_16, nl_m1, ni_add, ni_mul, ni_sub, ni_cl, ni_in, vp_0, vp_1, vp_2, vp_3, vp_4, vp_5, Int32.reduceToNatClampNeg]
    rw [List.append_assoc, ← take_map (by omega)] at hP1
    obtain ⟨t1, t2, b, t3, t4, t5⟩ := ht
    have hbb := hb b t3
    refine ih (i + 1) w1 P (by omega) (hm.fr hf1) ⟨by rw [hf1.sh]; exact t1, (hf1.I _ _ (by unfold papS; omega)).trans t2, b, by rw [hf1.P]; exact t3, by rw [hf1.sh]; exact t4, fun j hj => (hf1.I _ _ (by unfold papS; omega)).trans (t5 j hj)⟩ hg hP hP1 ha (fun c hc => hb c (by rw [← hf1.P]; exact hc)) fun w' z1 z2 => hK w' (hf1.tr z1) z2
set_option maxRecDepth 100000 in
set_option maxHeartbeats 4000000 in
theorem X12_saysS_ok {g : Ge} {w : Wd} {k n : Nat} {K : Wd → Nat → Nat → Prop} {m kd : Nat} (hm : MS g m w) (hC : Cn g w) (hk : kd ≤ 8) {P : List Int32} (hP : PapM m w P) (hl : P.length ≤ 200) (h : ∀ w', Fr (papS m) w w' → PapM m w' (P ++ (wrd kd).map nI) → K w' k n) : cV g mX12_says_ [.ref m, .ref (gA g 12 (wix kd))] w k n K := by
  have h6 := (wrd_len kd hk).1
  obtain ⟨d1, d2, d3, b, d4, d5, d6, d7⟩ := hC.1 _ (wix_in kd hk)
  refine cV_of 3 0 0 rfl (by decide +kernel) rfl (Nat.le_of_ble_eq_true rfl) (Nat.zero_le _) (Nat.zero_le _) ?_
  simp only [vX12_says__0, vX12_says__1, pI_c, pL_c, pF_c, pD_c, pA_n, pA_c, pA_rf, pR_c, pR_rf, pV_i, pV_a, pV_n, pV_rf, ldI_c, ldL_c, ldF_c, ldD_c, ldA_c, ldA_n, ldA_rf, dup2_l, dup2_ia, dup2_ir, popA_0, popA_s, getL_z, getL_s, setL_z, setL_1, setL_s, setL2_z, setL2_1, setL2_s, drop2_i, drop2_a, drop2_0, drop2_n, drop2_l, drop2_d, drop2_r, cwd_0, cwd_i, cwd_a, cwd_n, cwd_l, cwd_d, cwd_f, cwd_r, rf_s, rf_n, swi_0, swi_s, zR_b0, zR_b1, zN_b0, zN_b1, entV_i, entV_a, entV_n, entV_r, entV_f, entV_l, entV_d, entV_s, entV_0, List.length_cons, List.length_nil, List.nil_append, List.cons_append, true_and, and_true, Nat.reduceAdd, Nat.reduceLT, Nat.reduceEqDiff, Nat.reduceLeDiff, Nat.reduceSub, Nat.zero_add, Classical.not_not, ex_i, ex_l, ex_d, ex_r, ex_rs, ex_rn, ex_sm, Nat.sub_zero, eq_self, wn_sI, wn_sL, wn_sP, wsh_sI, wsh_sL, wsh_sP, wI_sL, wI_sP, wL_sI, wL_sP, wP_sI, wP_sL, wI_sI, wL_sL, Int32.reduceLT, Int32.reduceLE, true_implies, not_true_eq_false, false_implies, not_false_eq_true, i_10]
  refine X12_saysS_loop (by omega) (fun i hi => by have := wrd_ch kd hk i hi; omega) _ 0 w P (Nat.zero_add _) hm (hC.w12 hk) (ms_0 hm) hl ?_ d1 (fun c hc => ?_) fun w' z1 z2 => ⟨rfl, h w' z1 z2⟩
  · rw [List.take_zero, List.map_nil, List.append_nil]
    exact hP
  · rw [d5] at hc
    cases hc
    exact d4
set_option maxRecDepth 100000 in
set_option maxHeartbeats 4000000 in
theorem J9_abs_ok {g : Ge} {w : Wd} {k n : Nat} {K : Int32 → Wd → Nat → Nat → Prop} (v : Int32) (h : K (if 0 ≤ v then v else -v) w k n) : cI g mJ9_abs_0f7a4 [.int v] w k n K := by
  refine cI_of 1 0 0 rfl (by decide +kernel) rfl (Nat.le_of_ble_eq_true rfl) (Nat.zero_le _) (Nat.zero_le _) ?_
  simp only [vJ9_abs_0f7a4_0, vJ9_abs_0f7a4_1, vJ9_abs_0f7a4_4, vJ9_abs_0f7a4_5, vJ9_abs_0f7a4_6, vJ9_abs_0f7a4_9, vJ9_abs_0f7a4_10, pI_c, pL_c, pF_c, pD_c, pA_n, pA_c, pA_rf, pR_c, pR_rf, pV_i, pV_a, pV_n, pV_rf, ldI_c, ldL_c, ldF_c, ldD_c, ldA_c, ldA_n, ldA_rf, dup2_l, dup2_ia, dup2_ir, popA_0, popA_s, getL_z, getL_s, setL_z, setL_1, setL_s, setL2_z, setL2_1, setL2_s, drop2_i, drop2_a, drop2_0, drop2_n, drop2_l, drop2_d, drop2_r, cwd_0, cwd_i, cwd_a, cwd_n, cwd_l, cwd_d, cwd_f, cwd_r, rf_s, rf_n, swi_0, swi_s, zR_b0, zR_b1, zN_b0, zN_b1, entV_i, entV_a, entV_n, entV_r, entV_f, entV_l, entV_d, entV_s, entV_0, List.length_cons, List.length_nil, List.nil_append, List.cons_append, true_and, and_true, Nat.reduceAdd, Nat.reduceLT, Nat.reduceEqDiff, Nat.reduceLeDiff, Nat.reduceSub, Nat.zero_add, Classical.not_not, ex_i, ex_l, ex_d, ex_r, ex_rs, ex_rn, ex_sm, Nat.sub_zero, eq_self, wn_sI, wn_sL, wn_sP, wsh_sI, wsh_sL, wsh_sP, wI_sL, wI_sP, wL_sI, wL_sP, wP_sI, wP_sL, wI_sI, wL_sL, Int32.reduceLT, Int32.reduceLE, true_implies, not_true_eq_false, false_implies, not_false_eq_true, i_10]
  refine ⟨fun q => ?_, fun q => ?_⟩
  · rw [if_pos q] at h; exact h
  · rw [if_neg q] at h; exact h
theorem abs_nI {v : Int32} (h1 : -999999 ≤ v.toInt) (h2 : v.toInt ≤ 999999) : (if 0 ≤ v then v else -v) = nI v.toInt.natAbs := by
  refine Int32.toInt_inj.mp ?_
  rw [ni_ti (by omega)]
  split
  next q =>
    rw [Int32.le_iff_toInt_le] at q
    have e : (0 : Int32).toInt = 0 := rfl
    omega
  next q =>
    rw [Int32.le_iff_toInt_le] at q
    have e : (0 : Int32).toInt = 0 := rfl
    rw [Int32.toInt_neg, show (2 : Nat) ^ 32 = 4294967296 from rfl, Int.bmod_eq_of_le (by omega) (by omega)]
    omega
theorem pw10 {e : Nat} (h : e ≤ 5) : 0 < 10 ^ e ∧ 10 ^ e ≤ 100000 := ⟨Nat.pow_pos (by decide), Nat.le_trans (Nat.pow_le_pow_right (by decide) h) (by decide)⟩
set_option maxRecDepth 100000 in
set_option maxHeartbeats 4000000 in
theorem X12_num_1 {g : Ge} {m k0 n0 n1 : Nat} {v : Int32} {w : Wd} {K : Option Value → Wd → Prop} (hn : n1 < 1000000) (hK : R g mX12_saysNumber K 33 [some (.ref m), some (.int v), some (.int (nI n1)), some (.int (nI (10 ^ lg10 n1 5 0)))] [] w k0 n0) : ∀ (d e : Nat), e + d = 5 → lg10 n1 d e = lg10 n1 5 0 → R g mX12_saysNumber K 17 [some (.ref m), some (.int v), some (.int (nI n1)), some (.int (nI (10 ^ e)))] [] w k0 n0 := by
  intro d
  induction d with
  | zero =>
    intro e he hl
    have hp := pw10 (show e ≤ 5 by omega)
    have hne : ¬ nI (10 ^ e) = 0 := nI_ne0 hp.1 (by omega)
    have hd : n1 / 10 ^ e ≤ 9 := by
      obtain rfl : e = 5 := by omega
      omega
    have hd9 : nI (n1 / 10 ^ e) ≤ 9 := by
      rw [ni_lit 9, ni_le (by omega) (by decide)]
      exact hd
    simp (disch := omega) only [vX12_saysNumber_17, vX12_saysNumber_18, vX12_saysNumber_19, vX12_saysNumber_20, vX12_saysNumber_22, pI_c, pL_c, pF_c, pD_c, pA_n, pA_c, pA_rf, pR_c, pR_rf, pV_i, pV_a, pV_n, pV_rf, ldI_c, ldL_c, ldF_c, ldD_c, ldA_c, ldA_n, ldA_rf, dup2_l, dup2_ia, dup2_ir, popA_0, popA_s, getL_z, getL_s, setL_z, setL_1, setL_s, setL2_z, setL2_1, setL2_s, drop2_i, drop2_a, drop2_0, drop2_n, drop2_l, drop2_d, drop2_r, cwd_0, cwd_i, cwd_a, cwd_n, cwd_l, cwd_d, cwd_f, cwd_r, rf_s, rf_n, swi_0, swi_s, zR_b0, zR_b1, zN_b0, zN_b1, entV_i, entV_a, entV_n, entV_r, entV_f, entV_l, entV_d, entV_s, entV_0, List.length_cons, List.length_nil, List.nil_append, List.cons_append, true_and, and_true, Nat.reduceAdd, Nat.reduceLT, Nat.reduceEqDiff, Nat.reduceLeDiff, Nat.reduceSub, Nat.zero_add, Classical.not_not, ex_i, ex_l, ex_d, ex_r, ex_rs, ex_rn, ex_sm, Nat.sub_zero, eq_self, wn_sI, wn_sL, wn_sP, wsh_sI, wsh_sL, wsh_sP, wI_sL, wI_sP, wL_sI, wL_sP, wP_sI, wP_sL, wI_sI, wL_sL, Int32.reduceLT, Int32.reduceLE, true_implies, not_true_eq_false, false_implies, not_false_eq_true, i_10, ni_div, hne, hd9]
    have : lg10 n1 5 0 = e := hl.symm
    rw [this] at hK
    exact hK
  | succ d ih =>
    intro e he hl
    have hp := pw10 (show e ≤ 5 by omega)
    have hne : ¬ nI (10 ^ e) = 0 := nI_ne0 hp.1 (by omega)
    have hdl : n1 / 10 ^ e ≤ n1 := Nat.div_le_self _ _
    replace hl : (if n1 / 10 ^ e ≤ 9 then e else lg10 n1 d (e + 1)) = lg10 n1 5 0 := hl
    by_cases q : n1 / 10 ^ e ≤ 9
    · rw [if_pos q] at hl
      have hd9 : nI (n1 / 10 ^ e) ≤ 9 := by
        rw [ni_lit 9, ni_le (by omega) (by decide)]
        exact q
      simp (disch := omega) only [vX12_saysNumber_17, vX12_saysNumber_18, vX12_saysNumber_19, vX12_saysNumber_20, vX12_saysNumber_22, pI_c, pL_c, pF_c, pD_c, pA_n, pA_c, pA_rf, pR_c, pR_rf, pV_i, pV_a, pV_n, pV_rf, ldI_c, ldL_c, ldF_c, ldD_c, ldA_c, ldA_n, ldA_rf, dup2_l, dup2_ia, dup2_ir, popA_0, popA_s, getL_z, getL_s, setL_z, setL_1, setL_s, setL2_z, setL2_1, setL2_s, drop2_i, drop2_a, drop2_0, drop2_n, drop2_l, drop2_d, drop2_r, cwd_0, cwd_i, cwd_a, cwd_n, cwd_l, cwd_d, cwd_f, cwd_r, rf_s, rf_n, swi_0, swi_s, zR_b0, zR_b1, zN_b0, zN_b1, entV_i, entV_a, entV_n, entV_r, entV_f, entV_l, entV_d, entV_s, entV_0, List.length_cons, List.length_nil, List.nil_append, List.cons_append, true_and, and_true, Nat.reduceAdd, Nat.reduceLT, Nat.reduceEqDiff, Nat.reduceLeDiff, Nat.reduceSub, Nat.zero_add, Classical.not_not, ex_i, ex_l, ex_d, ex_r, ex_rs, ex_rn, ex_sm, Nat.sub_zero, eq_self, wn_sI, wn_sL, wn_sP, wsh_sI, wsh_sL, wsh_sP, wI_sL, wI_sP, wL_sI, wL_sP, wP_sI, wP_sL, wI_sI, wL_sL, Int32.reduceLT, Int32.reduceLE, true_implies, not_true_eq_false, false_implies, not_false_eq_true, i_10, ni_div, hne, hd9]
      rw [← hl] at hK
      exact hK
    · rw [if_neg q] at hl
      have hd9 : ¬ nI (n1 / 10 ^ e) ≤ 9 := by
        rw [ni_lit 9, ni_le (by omega) (by decide)]
        exact q
      have h10e : (10 : Int32) = nI 10 := rfl
      simp (disch := omega) only [vX12_saysNumber_17, vX12_saysNumber_18, vX12_saysNumber_19, vX12_saysNumber_20, vX12_saysNumber_22, pI_c, pL_c, pF_c, pD_c, pA_n, pA_c, pA_rf, pR_c, pR_rf, pV_i, pV_a, pV_n, pV_rf, ldI_c, ldL_c, ldF_c, ldD_c, ldA_c, ldA_n, ldA_rf, dup2_l, dup2_ia, dup2_ir, popA_0, popA_s, getL_z, getL_s, setL_z, setL_1, setL_s, setL2_z, setL2_1, setL2_s, drop2_i, drop2_a, drop2_0, drop2_n, drop2_l, drop2_d, drop2_r, cwd_0, cwd_i, cwd_a, cwd_n, cwd_l, cwd_d, cwd_f, cwd_r, rf_s, rf_n, swi_0, swi_s, zR_b0, zR_b1, zN_b0, zN_b1, entV_i, entV_a, entV_n, entV_r, entV_f, entV_l, entV_d, entV_s, entV_0, List.length_cons, List.length_nil, List.nil_append, List.cons_append, true_and, and_true, Nat.reduceAdd, Nat.reduceLT, Nat.reduceEqDiff, Nat.reduceLeDiff, Nat.reduceSub, Nat.zero_add, Classical.not_not, ex_i, ex_l, ex_d, ex_r, ex_rs, ex_rn, ex_sm, Nat.sub_zero, eq_self, wn_sI, wn_sL, wn_sP, wsh_sI, wsh_sL, wsh_sP, wI_sL, wI_sP, wL_sI, wL_sP, wP_sI, wP_sL, wI_sI, wL_sL, Int32.reduceLT, Int32.reduceLE, true_implies, not_true_eq_false, false_implies, not_false_eq_true, i_10, ni_div, hne, hd9]
      simp (disch := omega) only [vX12_saysNumber_25, vX12_saysNumber_26, vX12_saysNumber_28, vX12_saysNumber_29, vX12_saysNumber_30, pI_c, pL_c, pF_c, pD_c, pA_n, pA_c, pA_rf, pR_c, pR_rf, pV_i, pV_a, pV_n, pV_rf, ldI_c, ldL_c, ldF_c, ldD_c, ldA_c, ldA_n, ldA_rf, dup2_l, dup2_ia, dup2_ir, popA_0, popA_s, getL_z, getL_s, setL_z, setL_1, setL_s, setL2_z, setL2_1, setL2_s, drop2_i, drop2_a, drop2_0, drop2_n, drop2_l, drop2_d, drop2_r, cwd_0, cwd_i, cwd_a, cwd_n, cwd_l, cwd_d, cwd_f, cwd_r, rf_s, rf_n, swi_0, swi_s, zR_b0, zR_b1, zN_b0, zN_b1, entV_i, entV_a, entV_n, entV_r, entV_f, entV_l, entV_d, entV_s, entV_0, List.length_cons, List.length_nil, List.nil_append, List.cons_append, true_and, and_true, Nat.reduceAdd, Nat.reduceLT, Nat.reduceEqDiff, Nat.reduceLeDiff, Nat.reduceSub, Nat.zero_add, Classical.not_not, ex_i, ex_l, ex_d, ex_r, ex_rs, ex_rn, ex_sm, Nat.sub_zero, eq_self, wn_sI, wn_sL, wn_sP, wsh_sI, wsh_sL, wsh_sP, wI_sL, wI_sP, wL_sI, wL_sP, wP_sI, wP_sL, wI_sI, wL_sL, Int32.reduceLT, Int32.reduceLE, true_implies, not_true_eq_false, false_implies, not_false_eq_true, i_10, h10e, ni_mul]
      have := ih (e + 1) (by omega) hl
      rw [Nat.pow_succ] at this
      exact this
set_option maxRecDepth 100000 in
set_option maxHeartbeats 4000000 in
theorem X12_num_2 {g : Ge} {m k0 n0 n1 : Nat} {v : Int32} {K : Option Value → Wd → Prop} (hn : n1 < 1000000) : ∀ (e : Nat) (w : Wd) (P : List Int32), e ≤ 5 → MS g m w → PapM m w P → P.length + e < 235 → (∀ w', Fr (papS m) w w' → PapM m w' (P ++ (decK n1 e).map fun d => nI (48 + d)) → K none w') → R g mX12_saysNumber K 33 [some (.ref m), some (.int v), some (.int (nI n1)), some (.int (nI (10 ^ e)))] [] w k0 n0 := by
  have step : ∀ (e : Nat) (w : Wd) (P : List Int32), e ≤ 5 → MS g m w → PapM m w P → P.length + e < 235 → (∀ w', Fr (papS m) w w' → PapM m w' (P ++ [nI (48 + n1 / 10 ^ e % 10)]) → R g mX12_saysNumber K 33 [some (.ref m), some (.int v), some (.int (nI n1)), some (.int (nI (10 ^ e / 10)))] [] w' k0 n0) → R g mX12_saysNumber K 33 [some (.ref m), some (.int v), some (.int (nI n1)), some (.int (nI (10 ^ e)))] [] w k0 n0 := by
    intro e w P he hm hP hl hK
    have hp := pw10 he
    have hne : ¬ nI (10 ^ e) = 0 := nI_ne0 hp.1 (by omega)
    have hle : ¬ nI (10 ^ e) ≤ 0 := by rw [ni_le0 (by omega)]; omega
    have h10 : ¬ nI 10 = 0 := by decide
    have hdl : n1 / 10 ^ e ≤ n1 := Nat.div_le_self _ _
    have h48 : (48 : Int32) = nI 48 := rfl
    have h10e : (10 : Int32) = nI 10 := rfl
    simp (disch := omega) only [vX12_saysNumber_33, vX12_saysNumber_34, vX12_saysNumber_37, vX12_saysNumber_38, vX12_saysNumber_40, vX12_saysNumber_41, vX12_saysNumber_42, vX12_saysNumber_43, vX12_saysNumber_45, vX12_saysNumber_46, vX12_saysNumber_47, ms_o hm, ms_b hm, ms_0 hm, pI_c, pL_c, pF_c, pD_c, pA_n, pA_c, pA_rf, pR_c, pR_rf, pV_i, pV_a, pV_n, pV_rf, ldI_c, ldL_c, ldF_c, ldD_c, ldA_c, ldA_n, ldA_rf, dup2_l, dup2_ia, dup2_ir, popA_0, popA_s, getL_z, getL_s, setL_z, setL_1, setL_s, setL2_z, setL2_1, setL2_s, drop2_i, drop2_a, drop2_0, drop2_n, drop2_l, drop2_d, drop2_r, cwd_0, cwd_i, cwd_a, cwd_n, cwd_l, cwd_d, cwd_f, cwd_r, rf_s, rf_n, swi_0, swi_s, zR_b0, zR_b1, zN_b0, zN_b1, entV_i, entV_a, entV_n, entV_r, entV_f, entV_l, entV_d, entV_s, entV_0, List.length_cons, List.length_nil, List.nil_append, List.cons_append, true_and, and_true, Nat.reduceAdd, Nat.reduceLT, Nat.reduceEqDiff, Nat.reduceLeDiff, Nat.reduceSub, Nat.zero_add, Classical.not_not, ex_i, ex_l, ex_d, ex_r, ex_rs, ex_rn, ex_sm, Nat.sub_zero, eq_self, wn_sI, wn_sL, wn_sP, wsh_sI, wsh_sL, wsh_sP, wI_sL, wI_sP, wL_sI, wL_sP, wP_sI, wP_sL, wI_sI, wL_sL, Int32.reduceLT, Int32.reduceLE, true_implies, not_true_eq_false, false_implies, not_false_eq_true, i_10, hne, hle, h48, h10e, h10, ni_div]
    have hA : nI 48 + (nI (n1 / 10 ^ e) - nI (n1 / 10 ^ e / 10) * nI 10) = nI (48 + n1 / 10 ^ e % 10) := by
      generalize n1 / 10 ^ e = A at *
      rw [ni_mul, ni_sub (by omega), ni_add]
      congr 1
      omega
    rw [hA]
    refine X12_says_ok hm hP (by omega) _ fun w1 hf1 hP1 => ?_
    simp (disch := omega) only [vX12_saysNumber_50, vX12_saysNumber_51, vX12_saysNumber_53, vX12_saysNumber_54, vX12_saysNumber_55, pI_c, pL_c, pF_c, pD_c, pA_n, pA_c, pA_rf, pR_c, pR_rf, pV_i, pV_a, pV_n, pV_rf, ldI_c, ldL_c, ldF_c, ldD_c, ldA_c, ldA_n, ldA_rf, dup2_l, dup2_ia, dup2_ir, popA_0, popA_s, getL_z, getL_s, setL_z, setL_1, setL_s, setL2_z, setL2_1, setL2_s, drop2_i, drop2_a, drop2_0, drop2_n, drop2_l, drop2_d, drop2_r, cwd_0, cwd_i, cwd_a, cwd_n, cwd_l, cwd_d, cwd_f, cwd_r, rf_s, rf_n, swi_0, swi_s, zR_b0, zR_b1, zN_b0, zN_b1, entV_i, entV_a, entV_n, entV_r, entV_f, entV_l, entV_d, entV_s, entV_0, List.length_cons, List.length_nil, List.nil_append, List.cons_append, true_and, and_true, Nat.reduceAdd, Nat.reduceLT, Nat.reduceEqDiff, Nat.reduceLeDiff, Nat.reduceSub, Nat.zero_add, Classical.not_not, ex_i, ex_l, ex_d, ex_r, ex_rs, ex_rn, ex_sm, Nat.sub_zero, eq_self, wn_sI, wn_sL, wn_sP, wsh_sI, wsh_sL, wsh_sP, wI_sL, wI_sP, wL_sI, wL_sP, wP_sI, wP_sL, wI_sI, wL_sL, Int32.reduceLT, Int32.reduceLE, true_implies, not_true_eq_false, false_implies, not_false_eq_true, i_10, h10e, h10, ni_div]
    exact hK w1 hf1 hP1
  intro e
  induction e with
  | zero =>
    intro w P he hm hP hl hK
    refine step 0 w P he hm hP hl fun w' h1 h2 => ?_
    have h0 : nI (10 ^ 0 / 10) ≤ 0 := by decide
    simp only [vX12_saysNumber_33, vX12_saysNumber_34, vX12_saysNumber_58, pI_c, pL_c, pF_c, pD_c, pA_n, pA_c, pA_rf, pR_c, pR_rf, pV_i, pV_a, pV_n, pV_rf, ldI_c, ldL_c, ldF_c, ldD_c, ldA_c, ldA_n, ldA_rf, dup2_l, dup2_ia, dup2_ir, popA_0, popA_s, getL_z, getL_s, setL_z, setL_1, setL_s, setL2_z, setL2_1, setL2_s, drop2_i, drop2_a, drop2_0, drop2_n, drop2_l, drop2_d, drop2_r, cwd_0, cwd_i, cwd_a, cwd_n, cwd_l, cwd_d, cwd_f, cwd_r, rf_s, rf_n, swi_0, swi_s, zR_b0, zR_b1, zN_b0, zN_b1, entV_i, entV_a, entV_n, entV_r, entV_f, entV_l, entV_d, entV_s, entV_0, List.length_cons, List.length_nil, List.nil_append, List.cons_append, true_and, and_true, Nat.reduceAdd, Nat.reduceLT, Nat.reduceEqDiff, Nat.reduceLeDiff, Nat.reduceSub, Nat.zero_add, Classical.not_not, ex_i, ex_l, ex_d, ex_r, ex_rs, ex_rn, ex_sm, Nat.sub_zero, eq_self, wn_sI, wn_sL, wn_sP, wsh_sI, wsh_sL, wsh_sP, wI_sL, wI_sP, wL_sI, wL_sP, wP_sI, wP_sL, wI_sI, wL_sL, Int32.reduceLT, Int32.reduceLE, true_implies, not_true_eq_false, false_implies, not_false_eq_true, i_10, h0]
    refine hK w' h1 ?_
    rw [Nat.pow_zero, Nat.div_one] at h2
    exact h2
  | succ e ih =>
    intro w P he hm hP hl hK
    refine step (e + 1) w P he hm hP hl fun w' h1 h2 => ?_
    have : 10 ^ (e + 1) / 10 = 10 ^ e := by rw [Nat.pow_succ, Nat.mul_div_cancel _ (by decide)]
    rw [this]
    refine ih w' _ (by omega) (hm.fr h1) h2 (by simp only [List.length_append, List.length_singleton]; omega) fun w2 z1 z2 => hK w2 (h1.tr z1) ?_
    rw [List.append_assoc] at z2
    exact z2
set_option maxRecDepth 100000 in
set_option maxHeartbeats 4000000 in
theorem X12_saysNumber_ok {g : Ge} {w : Wd} {k n : Nat} {K : Wd → Nat → Nat → Prop} {m : Nat} (hm : MS g m w) {P : List Int32} (hP : PapM m w P) (hl : P.length ≤ 220) {v : Int32} (h1 : -999999 ≤ v.toInt) (h2 : v.toInt ≤ 999999) (h : ∀ w', Fr (papS m) w w' → PapM m w' (P ++ numT v) → K w' k n) : cV g mX12_saysNumber [.ref m, .int v] w k n K := by
  have hg := lg10_le v.toInt.natAbs 5 0
  have tail : ∀ (w1 : Wd) (P1 : List Int32), MS g m w1 → PapM m w1 P1 → P1.length ≤ 221 → (∀ w', Fr (papS m) w1 w' → PapM m w' (P1 ++ (decL v.toInt.natAbs).map fun d => nI (48 + d)) → K w' k n) → R g mX12_saysNumber (fun r w' => r = none ∧ K w' k n) 10 [some (.ref m), some (.int v), none, none] [] w1 0 0 := by
    intro w1 P1 hm1 hP1 hl1 hK
    simp only [vX12_saysNumber_10, vX12_saysNumber_11, pI_c, pL_c, pF_c, pD_c, pA_n, pA_c, pA_rf, pR_c, pR_rf, pV_i, pV_a, pV_n, pV_rf, ldI_c, ldL_c, ldF_c, ldD_c, ldA_c, ldA_n, ldA_rf, dup2_l, dup2_ia, dup2_ir, popA_0, popA_s, getL_z, getL_s, setL_z, setL_1, setL_s, setL2_z, setL2_1, setL2_s, drop2_i, drop2_a, drop2_0, drop2_n, drop2_l, drop2_d, drop2_r, cwd_0, cwd_i, cwd_a, cwd_n, cwd_l, cwd_d, cwd_f, cwd_r, rf_s, rf_n, swi_0, swi_s, zR_b0, zR_b1, zN_b0, zN_b1, entV_i, entV_a, entV_n, entV_r, entV_f, entV_l, entV_d, entV_s, entV_0, List.length_cons, List.length_nil, List.nil_append, List.cons_append, true_and, and_true, Nat.reduceAdd, Nat.reduceLT, Nat.reduceEqDiff, Nat.reduceLeDiff, Nat.reduceSub, Nat.zero_add, Classical.not_not, ex_i, ex_l, ex_d, ex_r, ex_rs, ex_rn, ex_sm, Nat.sub_zero, eq_self, wn_sI, wn_sL, wn_sP, wsh_sI, wsh_sL, wsh_sP, wI_sL, wI_sP, wL_sI, wL_sP, wP_sI, wP_sL, wI_sI, wL_sL, Int32.reduceLT, Int32.reduceLE, true_implies, not_true_eq_false, false_implies, not_false_eq_true, i_10]
    refine J9_abs_ok v ?_
    rw [abs_nI h1 h2]
    simp only [vX12_saysNumber_14, vX12_saysNumber_15, vX12_saysNumber_16, pI_c, pL_c, pF_c, pD_c, pA_n, pA_c, pA_rf, pR_c, pR_rf, pV_i, pV_a, pV_n, pV_rf, ldI_c, ldL_c, ldF_c, ldD_c, ldA_c, ldA_n, ldA_rf, dup2_l, dup2_ia, dup2_ir, popA_0, popA_s, getL_z, getL_s, setL_z, setL_1, setL_s, setL2_z, setL2_1, setL2_s, drop2_i, drop2_a, drop2_0, drop2_n, drop2_l, drop2_d, drop2_r, cwd_0, cwd_i, cwd_a, cwd_n, cwd_l, cwd_d, cwd_f, cwd_r, rf_s, rf_n, swi_0, swi_s, zR_b0, zR_b1, zN_b0, zN_b1, entV_i, entV_a, entV_n, entV_r, entV_f, entV_l, entV_d, entV_s, entV_0, List.length_cons, List.length_nil, List.nil_append, List.cons_append, true_and, and_true, Nat.reduceAdd, Nat.reduceLT, Nat.reduceEqDiff, Nat.reduceLeDiff, Nat.reduceSub, Nat.zero_add, Classical.not_not, ex_i, ex_l, ex_d, ex_r, ex_rs, ex_rn, ex_sm, Nat.sub_zero, eq_self, wn_sI, wn_sL, wn_sP, wsh_sI, wsh_sL, wsh_sP, wI_sL, wI_sP, wL_sI, wL_sP, wP_sI, wP_sL, wI_sI, wL_sL, Int32.reduceLT, Int32.reduceLE, true_implies, not_true_eq_false, false_implies, not_false_eq_true, i_10]
    exact X12_num_1 (by omega) (X12_num_2 (by omega) _ w1 P1 (by omega) hm1 hP1 (by omega) fun w' z1 z2 => ⟨rfl, hK w' z1 z2⟩) 5 0 rfl rfl
  unfold numT at h
  refine cV_of 4 0 0 rfl (by decide +kernel) rfl (Nat.le_of_ble_eq_true rfl) (Nat.zero_le _) (Nat.zero_le _) ?_
  simp only [vX12_saysNumber_0, vX12_saysNumber_1, vX12_saysNumber_4, vX12_saysNumber_5, vX12_saysNumber_7, ms_o hm, ms_b hm, ms_0 hm, pI_c, pL_c, pF_c, pD_c, pA_n, pA_c, pA_rf, pR_c, pR_rf, pV_i, pV_a, pV_n, pV_rf, ldI_c, ldL_c, ldF_c, ldD_c, ldA_c, ldA_n, ldA_rf, dup2_l, dup2_ia, dup2_ir, popA_0, popA_s, getL_z, getL_s, setL_z, setL_1, setL_s, setL2_z, setL2_1, setL2_s, drop2_i, drop2_a, drop2_0, drop2_n, drop2_l, drop2_d, drop2_r, cwd_0, cwd_i, cwd_a, cwd_n, cwd_l, cwd_d, cwd_f, cwd_r, rf_s, rf_n, swi_0, swi_s, zR_b0, zR_b1, zN_b0, zN_b1, entV_i, entV_a, entV_n, entV_r, entV_f, entV_l, entV_d, entV_s, entV_0, List.length_cons, List.length_nil, List.nil_append, List.cons_append, true_and, and_true, Nat.reduceAdd, Nat.reduceLT, Nat.reduceEqDiff, Nat.reduceLeDiff, Nat.reduceSub, Nat.zero_add, Classical.not_not, ex_i, ex_l, ex_d, ex_r, ex_rs, ex_rn, ex_sm, Nat.sub_zero, eq_self, wn_sI, wn_sL, wn_sP, wsh_sI, wsh_sL, wsh_sP, wI_sL, wI_sP, wL_sI, wL_sP, wP_sI, wP_sL, wI_sI, wL_sL, Int32.reduceLT, Int32.reduceLE, true_implies, not_true_eq_false, false_implies, not_false_eq_true, i_10]
  refine ⟨fun q => ?_, fun q => ?_⟩
  · rw [if_neg (Int32.not_lt.mpr q), List.nil_append] at h
    exact tail w P hm hP (by omega) h
  · rw [if_pos (Int32.not_le.mp q)] at h
    refine X12_says_ok hm hP (by omega) _ fun w1 hf1 hP1 => ?_
    refine tail w1 _ (hm.fr hf1) hP1 (by simp only [List.length_append, List.length_singleton]; omega) fun w' z1 z2 => h w' (hf1.tr z1) ?_
    rw [List.append_assoc] at z2
    exact z2
/-- a field, spelled -/
def celT (c : Int32) : List Int32 := if c = 1 then [] else 91 :: ((if 0 < c then numT c else []) ++ [93])
def tldT (td by' : Int32) : List Int32 := if td = 1 then 61 :: numT by' else []
def ndT (nd : Int32) : List Int32 := if nd = 1 then [33] else []
def fldT (s : St) (f : Nat) : List Int32 := (97 + s.1 7 f) :: 58 :: ((wrd (s.1 8 f).toNatClampNeg).map nI ++ (celT (s.1 9 f) ++ (tldT (s.1 11 f) (s.1 12 f) ++ ndT (s.1 10 f))))
def spT (s : St) (v : Nat) : Nat → List Int32
  | 0 => []
  | k + 1 => spT s v k ++ ((if 0 < k then [59] else []) ++ fldT s (8 * v + k))
theorem fldT_len {s : St} {f : Nat} (hF : FldW (fun j => s.1 (7 + j) f)) : (fldT s f).length ≤ 26 := by
  obtain ⟨sl, kd, c, nd, td, hs8, hkd, hc, hnd, htd, f0, f1, -⟩ := hF
  have g1 : s.1 8 f = nI kd := f1
  have h1 := (wrd_len kd hkd).1
  have h2 : (celT (s.1 9 f)).length ≤ 9 := by
    unfold celT
    have := numT_len (s.1 9 f)
    split
    · exact Nat.zero_le _
    · rw [List.length_cons, List.length_append, List.length_singleton]
      split
      · omega
      · rw [List.length_nil]; omega
  have h3 : (tldT (s.1 11 f) (s.1 12 f)).length ≤ 8 := by
    unfold tldT
    have := numT_len (s.1 12 f)
    split
    · rw [List.length_cons]; omega
    · exact Nat.zero_le _
  have h4 : (ndT (s.1 10 f)).length ≤ 1 := by
    unfold ndT
    split
    · exact Nat.le_refl _
    · exact Nat.zero_le _
  unfold fldT
  rw [List.length_cons, List.length_cons, List.length_append, List.length_map, List.length_append, List.length_append, g1, ni_cl (by omega)]
  omega
theorem spT_len {s : St} {v n : Nat} (hV : ∀ k, k < n → FldW (fun j => s.1 (7 + j) (8 * v + k))) : ∀ k, k ≤ n → (spT s v k).length ≤ 27 * k
  | 0, _ => Nat.le_refl _
  | k + 1, h => by
    have h1 := spT_len hV k (by omega)
    have h2 := fldT_len (hV k (by omega))
    unfold spT
    rw [List.length_append, List.length_append]
    split
    · rw [List.length_singleton]; omega
    · rw [List.length_nil]; omega
set_option maxRecDepth 100000 in
set_option maxHeartbeats 4000000 in
theorem X12_spell_fld {g : Ge} {m k0 n0 v n1 kf : Nat} {s : St} {w : Wd} {P : List Int32} {K : Option Value → Wd → Prop} {o3 : Option Value} (hm : MS g m w) (hC : Cn g w) (hv : v < 6) (hV : VerS s v n1) (hS : Sv m w s) (hk : kf < n1) (hP : PapM m w P) (hl : P.length ≤ 190) (hK : ∀ w' f, Fr (papS m) w w' → PapM m w' (P ++ ((if 0 < kf then [59] else []) ++ fldT s (8 * v + kf))) → R g mX12_spell K 170 [some (.ref m), some (.int (nI v)), some (.int (nI kf)), some (.int f)] [] w' k0 n0) : R g mX12_spell K 38 [some (.ref m), some (.int (nI v)), some (.int (nI kf)), o3] [] w k0 n0 := by
  obtain ⟨hn8, hmany, hfld⟩ := hV
  obtain ⟨sl, kd, c, nd, td, hs8, hkd, hc, hnd, htd, f0, f1, f2, f3, f4, f5, f6, f7, f8⟩ := hfld kf hk
  have g7 : s.1 7 (8 * v + kf) = nI sl := f0
  have g8 : s.1 8 (8 * v + kf) = nI kd := f1
  have g9 : s.1 9 (8 * v + kf) = nI c := f2
  have g10 : s.1 10 (8 * v + kf) = nI nd := f3
  have g11 : s.1 11 (8 * v + kf) = nI td := f4
  have hge := ms_0 hm
  have SvP : ∀ w', Fr (papS m) w w' → MS g m w' ∧ Cn g w' ∧ (∀ o, 7 ≤ o → o ≤ 12 → wI w' (m + o) (8 * v + kf) = s.1 o (8 * v + kf)) := fun w' hf => ⟨hm.fr hf, hC.fr hf fun a j ha => by unfold papS; omega, fun o h1 h2 => (hf.I _ _ (by unfold papS; omega)).trans (hS o _ (by omega) h2)⟩
  have p55 : ∀ (w1 : Wd) (P1 : List Int32), Fr (papS m) w w1 → PapM m w1 P1 → P1.length ≤ 191 → (∀ w' f, Fr (papS m) w1 w' → PapM m w' (P1 ++ fldT s (8 * v + kf)) → R g mX12_spell K 170 [some (.ref m), some (.int (nI v)), some (.int (nI kf)), some (.int f)] [] w' k0 n0) → R g mX12_spell K 55 [some (.ref m), some (.int (nI v)), some (.int (nI kf)), some (.int (nI (8 * v + kf)))] [] w1 k0 n0 := by
    intro w1 P1 hf1 hP1 hl1 hK1
    obtain ⟨hm1, hC1, hS1⟩ := SvP w1 hf1
    have e7 := hS1 7 (by decide) (by decide)
    simp (disch := omega) only [vX12_spell_55, vX12_spell_56, vX12_spell_58, vX12_spell_59, vX12_spell_62, vX12_spell_63, vX12_spell_64, vX12_spell_65, ms_o hm1, ms_b hm1, ms_0 hm1, mp_slotOf hm1, ms_slotOf hm1, pI_c, pL_c, pF_c, pD_c, pA_n, pA_c, pA_rf, pR_c, pR_rf, pV_i, pV_a, pV_n, pV_rf, ldI_c, ldL_c, ldF_c, ldD_c, ldA_c, ldA_n, ldA_rf, dup2_l, dup2_ia, dup2_ir, popA_0, popA_s, getL_z, getL_s, setL_z, setL_1, setL_s, setL2_z, setL2_1, setL2_s, drop2_i, drop2_a, drop2_0, drop2_n, drop2_l, drop2_d, drop2_r, cwd_0, cwd_i, cwd_a, cwd_n, cwd_l, cwd_d, cwd_f, cwd_r, rf_s, rf_n, swi_0, swi_s, zR_b0, zR_b1, zN_b0, zN_b1, entV_i, entV_a, entV_n, entV_r, entV_f, entV_l, entV_d, entV_s, entV_0, List.length_cons, List.length_nil, List.nil_append, List.cons_append, true_and, and_true, Nat.reduceAdd, Nat.reduceLT, Nat.reduceEqDiff, Nat.reduceLeDiff, Nat.reduceSub, Nat.zero_add, Classical.not_not, ex_i, ex_l, ex_d, ex_r, ex_rs, ex_rn, ex_sm, Nat.sub_zero, eq_self, wn_sI, wn_sL, wn_sP, wsh_sI, wsh_sL, wsh_sP, wI_sL, wI_sP, wL_sI, wL_sP, wP_sI, wP_sL, wI_sI, wL_sL, Int32.reduceLT, Int32.reduceLE, true_implies, not_true_eq_false, false_implies, not_false_eq_true, i_10, na_1, nb_1, nm_1, ns_1, nr_1, na_2, nb_2, nm_2, ns_2, nr_2, na_3, nb_3, nm_3, ns_3, nr_3, na_4, nb_4, nm_4, ns_4, nr_4, na_5, nb_5, nm_5, ns_5, nr_5, na_6, nb_6, nm_6, ns_6, nr_6, na_7, nb_7, nm_7, ns_7, nr_7, na_8, nb_8, nm_8, ns_8, nr_8, na_10, nb_10, nm_10, ns_10, nr_10, na_16, nb_16, nm_16, ns_16, nr_16, nl_m1, ni_add, ni_mul, ni_sub, ni_cl, ni_in, vp_0, vp_1, vp_2, vp_3, vp_4, vp_5, Int32.reduceToNatClampNeg, e7]
    refine X12_says_ok hm1 hP1 (by omega) _ fun w2 hf2 hP2 => ?_
    have hF2 := hf1.tr hf2
    obtain ⟨hm2, hC2, hS2⟩ := SvP w2 hF2
    simp (disch := omega) only [vX12_spell_68, vX12_spell_69, vX12_spell_71, ms_o hm2, ms_b hm2, ms_0 hm2, pI_c, pL_c, pF_c, pD_c, pA_n, pA_c, pA_rf, pR_c, pR_rf, pV_i, pV_a, pV_n, pV_rf, ldI_c, ldL_c, ldF_c, ldD_c, ldA_c, ldA_n, ldA_rf, dup2_l, dup2_ia, dup2_ir, popA_0, popA_s, getL_z, getL_s, setL_z, setL_1, setL_s, setL2_z, setL2_1, setL2_s, drop2_i, drop2_a, drop2_0, drop2_n, drop2_l, drop2_d, drop2_r, cwd_0, cwd_i, cwd_a, cwd_n, cwd_l, cwd_d, cwd_f, cwd_r, rf_s, rf_n, swi_0, swi_s, zR_b0, zR_b1, zN_b0, zN_b1, entV_i, entV_a, entV_n, entV_r, entV_f, entV_l, entV_d, entV_s, entV_0, List.length_cons, List.length_nil, List.nil_append, List.cons_append, true_and, and_true, Nat.reduceAdd, Nat.reduceLT, Nat.reduceEqDiff, Nat.reduceLeDiff, Nat.reduceSub, Nat.zero_add, Classical.not_not, ex_i, ex_l, ex_d, ex_r, ex_rs, ex_rn, ex_sm, Nat.sub_zero, eq_self, wn_sI, wn_sL, wn_sP, wsh_sI, wsh_sL, wsh_sP, wI_sL, wI_sP, wL_sI, wL_sP, wP_sI, wP_sL, wI_sI, wL_sL, Int32.reduceLT, Int32.reduceLE, true_implies, not_true_eq_false, false_implies, not_false_eq_true, i_10]
    refine X12_says_ok hm2 hP2 (by simp only [List.length_append, List.length_singleton]; omega) _ fun w3 hf3 hP3 => ?_
    have hF3 := hF2.tr hf3
    obtain ⟨hm3, hC3, hS3⟩ := SvP w3 hF3
    have e8 := hS3 8 (by decide) (by decide)
    rw [g8] at e8
    simp (disch := omega) only [vX12_spell_74, vX12_spell_75, vX12_spell_76, vX12_spell_79, vX12_spell_80, vX12_spell_81, ms_o hm3, ms_b hm3, ms_0 hm3, mp_kindOf hm3, ms_kindOf hm3, pI_c, pL_c, pF_c, pD_c, pA_n, pA_c, pA_rf, pR_c, pR_rf, pV_i, pV_a, pV_n, pV_rf, ldI_c, ldL_c, ldF_c, ldD_c, ldA_c, ldA_n, ldA_rf, dup2_l, dup2_ia, dup2_ir, popA_0, popA_s, getL_z, getL_s, setL_z, setL_1, setL_s, setL2_z, setL2_1, setL2_s, drop2_i, drop2_a, drop2_0, drop2_n, drop2_l, drop2_d, drop2_r, cwd_0, cwd_i, cwd_a, cwd_n, cwd_l, cwd_d, cwd_f, cwd_r, rf_s, rf_n, swi_0, swi_s, zR_b0, zR_b1, zN_b0, zN_b1, entV_i, entV_a, entV_n, entV_r, entV_f, entV_l, entV_d, entV_s, entV_0, List.length_cons, List.length_nil, List.nil_append, List.cons_append, true_and, and_true, Nat.reduceAdd, Nat.reduceLT, Nat.reduceEqDiff, Nat.reduceLeDiff, Nat.reduceSub, Nat.zero_add, Classical.not_not, ex_i, ex_l, ex_d, ex_r, ex_rs, ex_rn, ex_sm, Nat.sub_zero, eq_self, wn_sI, wn_sL, wn_sP, wsh_sI, wsh_sL, wsh_sP, wI_sL, wI_sP, wL_sI, wL_sP, wP_sI, wP_sL, wI_sI, wL_sL, Int32.reduceLT, Int32.reduceLE, true_implies, not_true_eq_false, false_implies, not_false_eq_true, i_10, na_1, nb_1, nm_1, ns_1, nr_1, na_2, nb_2, nm_2, ns_2, nr_2, na_3, nb_3, nm_3, ns_3, nr_3, na_4, nb_4, nm_4, ns_4, nr_4, na_5, nb_5, nm_5, ns_5, nr_5, na_6, nb_6, nm_6, ns_6, nr_6, na_7, nb_7, nm_7, ns_7, nr_7, na_8, nb_8, nm_8, ns_8, nr_8, na_10, nb_10, nm_10, ns_10, nr_10, na_16, nb_16, nm_16, ns_16, nr_16, nl_m1, ni_add, ni_mul, ni_sub, ni_cl, ni_in, vp_0, vp_1, vp_2, vp_3, vp_4, vp_5, Int32.reduceToNatClampNeg, e8]
    refine X12_wordOf_ok hkd ?_
    simp (disch := omega) only [vX12_spell_84, ms_o hm3, ms_b hm3, ms_0 hm3, pI_c, pL_c, pF_c, pD_c, pA_n, pA_c, pA_rf, pR_c, pR_rf, pV_i, pV_a, pV_n, pV_rf, ldI_c, ldL_c, ldF_c, ldD_c, ldA_c, ldA_n, ldA_rf, dup2_l, dup2_ia, dup2_ir, popA_0, popA_s, getL_z, getL_s, setL_z, setL_1, setL_s, setL2_z, setL2_1, setL2_s, drop2_i, drop2_a, drop2_0, drop2_n, drop2_l, drop2_d, drop2_r, cwd_0, cwd_i, cwd_a, cwd_n, cwd_l, cwd_d, cwd_f, cwd_r, rf_s, rf_n, swi_0, swi_s, zR_b0, zR_b1, zN_b0, zN_b1, entV_i, entV_a, entV_n, entV_r, entV_f, entV_l, entV_d, entV_s, entV_0, List.length_cons, List.length_nil, List.nil_append, List.cons_append, true_and, and_true, Nat.reduceAdd, Nat.reduceLT, Nat.reduceEqDiff, Nat.reduceLeDiff, Nat.reduceSub, Nat.zero_add, Classical.not_not, ex_i, ex_l, ex_d, ex_r, ex_rs, ex_rn, ex_sm, Nat.sub_zero, eq_self, wn_sI, wn_sL, wn_sP, wsh_sI, wsh_sL, wsh_sP, wI_sL, wI_sP, wL_sI, wL_sP, wP_sI, wP_sL, wI_sI, wL_sL, Int32.reduceLT, Int32.reduceLE, true_implies, not_true_eq_false, false_implies, not_false_eq_true, i_10]
    refine X12_saysS_ok hm3 hC3 hkd hP3 (by simp only [List.length_append, List.length_singleton]; omega) fun w4 hf4 hP4 => ?_
    have hF4 := hF3.tr hf4
    have h6 := (wrd_len kd hkd).1
    have hl4 : (P1 ++ [97 + s.1 7 (8 * v + kf)] ++ [58] ++ (wrd kd).map nI).length ≤ 199 := by
      simp only [List.length_append, List.length_map, List.length_singleton]
      omega
    have p154 : ∀ (w5 : Wd) (P5 : List Int32), Fr (papS m) w w5 → PapM m w5 P5 → P5.length ≤ 220 → (∀ w' f, Fr (papS m) w5 w' → PapM m w' (P5 ++ ndT (s.1 10 (8 * v + kf))) → R g mX12_spell K 170 [some (.ref m), some (.int (nI v)), some (.int (nI kf)), some (.int f)] [] w' k0 n0) → R g mX12_spell K 154 [some (.ref m), some (.int (nI v)), some (.int (nI kf)), some (.int (nI (8 * v + kf)))] [] w5 k0 n0 := by
      intro w5 P5 hf5 hP5 hl5 hK5
      obtain ⟨hm5, hC5, hS5⟩ := SvP w5 hf5
      have e10 := hS5 10 (by decide) (by decide)
      unfold ndT at hK5
      simp (disch := omega) only [vX12_spell_154, vX12_spell_155, vX12_spell_158, vX12_spell_159, vX12_spell_160, vX12_spell_161, vX12_spell_164, vX12_spell_165, vX12_spell_167, ms_o hm5, ms_b hm5, ms_0 hm5, mp_neededOf hm5, ms_neededOf hm5, pI_c, pL_c, pF_c, pD_c, pA_n, pA_c, pA_rf, pR_c, pR_rf, pV_i, pV_a, pV_n, pV_rf, ldI_c, ldL_c, ldF_c, ldD_c, ldA_c, ldA_n, ldA_rf, dup2_l, dup2_ia, dup2_ir, popA_0, popA_s, getL_z, getL_s, setL_z, setL_1, setL_s, setL2_z, setL2_1, setL2_s, drop2_i, drop2_a, drop2_0, drop2_n, drop2_l, drop2_d, drop2_r, cwd_0, cwd_i, cwd_a, cwd_n, cwd_l, cwd_d, cwd_f, cwd_r, rf_s, rf_n, swi_0, swi_s, zR_b0, zR_b1, zN_b0, zN_b1, entV_i, entV_a, entV_n, entV_r, entV_f, entV_l, entV_d, entV_s, entV_0, List.length_cons, List.length_nil, List.nil_append, List.cons_append, true_and, and_true, Nat.reduceAdd, Nat.reduceLT, Nat.reduceEqDiff, Nat.reduceLeDiff, Nat.reduceSub, Nat.zero_add, Classical.not_not, ex_i, ex_l, ex_d, ex_r, ex_rs, ex_rn, ex_sm, Nat.sub_zero, eq_self, wn_sI, wn_sL, wn_sP, wsh_sI, wsh_sL, wsh_sP, wI_sL, wI_sP, wL_sI, wL_sP, wP_sI, wP_sL, wI_sI, wL_sL, Int32.reduceLT, Int32.reduceLE, true_implies, not_true_eq_false, false_implies, not_false_eq_true, i_10, na_1, nb_1, nm_1, ns_1, nr_1, na_2, nb_2, nm_2, ns_2, nr_2, na_3, nb_3, nm_3, ns_3, nr_3, na_4, nb_4, nm_4, ns_4, nr_4, na_5, nb_5, nm_5, ns_5, nr_5, na_6, nb_6, nm_6, ns_6, nr_6, na_7, nb_7, nm_7, ns_7, nr_7, na_8, nb_8, nm_8, ns_8, nr_8, na_10, nb_10, nm_10, ns_10, nr_10, na_16, nb_16, nm_16, ns_16, nr_16, nl_m1, ni_add, ni_mul, ni_sub, ni_cl, ni_in, vp_0, vp_1, vp_2, vp_3, vp_4, vp_5, Int32.reduceToNatClampNeg, e10]
      refine ⟨fun q => ?_, fun q => ?_⟩
      · rw [if_neg q] at hK5
        exact hK5 w5 _ Fr.rf (by rw [List.append_nil]; exact hP5)
      · rw [if_pos q] at hK5
        exact X12_says_ok hm5 hP5 (by omega) _ fun w6 hf6 hP6 => hK5 w6 _ hf6 hP6
    have p128 : ∀ (w5 : Wd) (P5 : List Int32), Fr (papS m) w w5 → PapM m w5 P5 → P5.length ≤ 210 → (∀ w' f, Fr (papS m) w5 w' → PapM m w' (P5 ++ (tldT (s.1 11 (8 * v + kf)) (s.1 12 (8 * v + kf)) ++ ndT (s.1 10 (8 * v + kf)))) → R g mX12_spell K 170 [some (.ref m), some (.int (nI v)), some (.int (nI kf)), some (.int f)] [] w' k0 n0) → R g mX12_spell K 128 [some (.ref m), some (.int (nI v)), some (.int (nI kf)), some (.int (nI (8 * v + kf)))] [] w5 k0 n0 := by
      intro w5 P5 hf5 hP5 hl5 hK5
      obtain ⟨hm5, hC5, hS5⟩ := SvP w5 hf5
      have e11 := hS5 11 (by decide) (by decide)
      unfold tldT at hK5
      simp (disch := omega) only [vX12_spell_128, vX12_spell_129, vX12_spell_132, vX12_spell_133, vX12_spell_134, vX12_spell_135, vX12_spell_138, vX12_spell_139, vX12_spell_141, ms_o hm5, ms_b hm5, ms_0 hm5, mp_toldOf hm5, ms_toldOf hm5, pI_c, pL_c, pF_c, pD_c, pA_n, pA_c, pA_rf, pR_c, pR_rf, pV_i, pV_a, pV_n, pV_rf, ldI_c, ldL_c, ldF_c, ldD_c, ldA_c, ldA_n, ldA_rf, dup2_l, dup2_ia, dup2_ir, popA_0, popA_s, getL_z, getL_s, setL_z, setL_1, setL_s, setL2_z, setL2_1, setL2_s, drop2_i, drop2_a, drop2_0, drop2_n, drop2_l, drop2_d, drop2_r, cwd_0, cwd_i, cwd_a, cwd_n, cwd_l, cwd_d, cwd_f, cwd_r, rf_s, rf_n, swi_0, swi_s, zR_b0, zR_b1, zN_b0, zN_b1, entV_i, entV_a, entV_n, entV_r, entV_f, entV_l, entV_d, entV_s, entV_0, List.length_cons, List.length_nil, List.nil_append, List.cons_append, true_and, and_true, Nat.reduceAdd, Nat.reduceLT, Nat.reduceEqDiff, Nat.reduceLeDiff, Nat.reduceSub, Nat.zero_add, Classical.not_not, ex_i, ex_l, ex_d, ex_r, ex_rs, ex_rn, ex_sm, Nat.sub_zero, eq_self, wn_sI, wn_sL, wn_sP, wsh_sI, wsh_sL, wsh_sP, wI_sL, wI_sP, wL_sI, wL_sP, wP_sI, wP_sL, wI_sI, wL_sL, Int32.reduceLT, Int32.reduceLE, true_implies, not_true_eq_false, false_implies, not_false_eq_true, i_10, na_1, nb_1, nm_1, ns_1, nr_1, na_2, nb_2, nm_2, ns_2, nr_2, na_3, nb_3, nm_3, ns_3, nr_3, na_4, nb_4, nm_4, ns_4, nr_4, na_5, nb_5, nm_5, ns_5, nr_5, na_6, nb_6, nm_6, ns_6, nr_6, na_7, nb_7, nm_7, ns_7, nr_7, na_8, nb_8, nm_8, ns_8, nr_8, na_10, nb_10, nm_10, ns_10, nr_10, na_16, nb_16, nm_16, ns_16, nr_16, nl_m1, ni_add, ni_mul, ni_sub, ni_cl, ni_in, vp_0, vp_1, vp_2, vp_3, vp_4, vp_5, Int32.reduceToNatClampNeg, e11]
      refine ⟨fun q => ?_, fun q => ?_⟩
      · rw [if_neg q, List.nil_append] at hK5
        exact p154 w5 P5 hf5 hP5 (by omega) hK5
      · rw [if_pos q] at hK5
        refine X12_says_ok hm5 hP5 (by omega) _ fun w6 hf6 hP6 => ?_
        have hF6 := hf5.tr hf6
        obtain ⟨hm6, hC6, hS6⟩ := SvP w6 hF6
        have e12 := hS6 12 (by decide) (by decide)
        simp (disch := omega) only [vX12_spell_144, vX12_spell_145, vX12_spell_146, vX12_spell_149, vX12_spell_150, vX12_spell_151, ms_o hm6, ms_b hm6, ms_0 hm6, mp_byOf hm6, ms_byOf hm6, pI_c, pL_c, pF_c, pD_c, pA_n, pA_c, pA_rf, pR_c, pR_rf, pV_i, pV_a, pV_n, pV_rf, ldI_c, ldL_c, ldF_c, ldD_c, ldA_c, ldA_n, ldA_rf, dup2_l, dup2_ia, dup2_ir, popA_0, popA_s, getL_z, getL_s, setL_z, setL_1, setL_s, setL2_z, setL2_1, setL2_s, drop2_i, drop2_a, drop2_0, drop2_n, drop2_l, drop2_d, drop2_r, cwd_0, cwd_i, cwd_a, cwd_n, cwd_l, cwd_d, cwd_f, cwd_r, rf_s, rf_n, swi_0, swi_s, zR_b0, zR_b1, zN_b0, zN_b1, entV_i, entV_a, entV_n, entV_r, entV_f, entV_l, entV_d, entV_s, entV_0, List.length_cons, List.length_nil, List.nil_append, List.cons_append, true_and, and_true, Nat.reduceAdd, Nat.reduceLT, Nat.reduceEqDiff, Nat.reduceLeDiff, Nat.reduceSub, Nat.zero_add, Classical.not_not, ex_i, ex_l, ex_d, ex_r, ex_rs, ex_rn, ex_sm, Nat.sub_zero, eq_self, wn_sI, wn_sL, wn_sP, wsh_sI, wsh_sL, wsh_sP, wI_sL, wI_sP, wL_sI, wL_sP, wP_sI, wP_sL, wI_sI, wL_sL, Int32.reduceLT, Int32.reduceLE, true_implies, not_true_eq_false, false_implies, not_false_eq_true, i_10, na_1, nb_1, nm_1, ns_1, nr_1, na_2, nb_2, nm_2, ns_2, nr_2, na_3, nb_3, nm_3, ns_3, nr_3, na_4, nb_4, nm_4, ns_4, nr_4, na_5, nb_5, nm_5, ns_5, nr_5, na_6, nb_6, nm_6, ns_6, nr_6, na_7, nb_7, nm_7, ns_7, nr_7, na_8, nb_8, nm_8, ns_8, nr_8, na_10, nb_10, nm_10, ns_10, nr_10, na_16, nb_16, nm_16, ns_16, nr_16, nl_m1, ni_add, ni_mul, ni_sub, ni_cl, ni_in, vp_0, vp_1, vp_2, vp_3, vp_4, vp_5, Int32.reduceToNatClampNeg, e12]
        have hn7 := numT_len (s.1 12 (8 * v + kf))
        refine X12_saysNumber_ok hm6 hP6 (by simp only [List.length_append, List.length_singleton]; omega) f7 f8 fun w7 hf7 hP7 => ?_
        refine p154 w7 _ (hF6.tr hf7) hP7 (by simp only [List.length_append, List.length_singleton]; omega) fun w' f z1 z2 => hK5 w' f (hf6.tr (hf7.tr z1)) ?_
        simp only [List.append_assoc, List.cons_append, List.nil_append] at z2 ⊢
        exact z2
    have p87 : R g mX12_spell K 87 [some (.ref m), some (.int (nI v)), some (.int (nI kf)), some (.int (nI (8 * v + kf)))] [] w4 k0 n0 := by
      obtain ⟨hm4, hC4, hS4⟩ := SvP w4 hF4
      have e9 := hS4 9 (by decide) (by decide)
      have hK4 : ∀ w' f, Fr (papS m) w4 w' → PapM m w' ((P1 ++ [97 + s.1 7 (8 * v + kf)] ++ [58] ++ (wrd kd).map nI) ++ (celT (s.1 9 (8 * v + kf)) ++ (tldT (s.1 11 (8 * v + kf)) (s.1 12 (8 * v + kf)) ++ ndT (s.1 10 (8 * v + kf))))) → R g mX12_spell K 170 [some (.ref m), some (.int (nI v)), some (.int (nI kf)), some (.int f)] [] w' k0 n0 := fun w' f z1 z2 => hK1 w' f (hf2.tr (hf3.tr (hf4.tr z1))) (by
        unfold fldT
        rw [g8, ni_cl (by omega)]
        simp only [List.append_assoc, List.cons_append, List.nil_append] at z2 ⊢
        exact z2)
      clear hK1 hK
      generalize (P1 ++ [97 + s.1 7 (8 * v + kf)] ++ [58] ++ (wrd kd).map nI) = Q at hP4 hl4 hK4
      unfold celT at hK4
      simp (disch := omega) only [vX12_spell_87, vX12_spell_88, vX12_spell_91, vX12_spell_92, vX12_spell_93, vX12_spell_94, vX12_spell_97, vX12_spell_98, vX12_spell_100, ms_o hm4, ms_b hm4, ms_0 hm4, mp_cellsOf hm4, ms_cellsOf hm4, pI_c, pL_c, pF_c, pD_c, pA_n, pA_c, pA_rf, pR_c, pR_rf, pV_i, pV_a, pV_n, pV_rf, ldI_c, ldL_c, ldF_c, ldD_c, ldA_c, ldA_n, ldA_rf, dup2_l, dup2_ia, dup2_ir, popA_0, popA_s, getL_z, getL_s, setL_z, setL_1, setL_s, setL2_z, setL2_1, setL2_s, drop2_i, drop2_a, drop2_0, drop2_n, drop2_l, drop2_d, drop2_r, cwd_0, cwd_i, cwd_a, cwd_n, cwd_l, cwd_d, cwd_f, cwd_r, rf_s, rf_n, swi_0, swi_s, zR_b0, zR_b1, zN_b0, zN_b1, entV_i, entV_a, entV_n, entV_r, entV_f, entV_l, entV_d, entV_s, entV_0, List.length_cons, List.length_nil, List.nil_append, List.cons_append, true_and, and_true, Nat.reduceAdd, Nat.reduceLT, Nat.reduceEqDiff, Nat.reduceLeDiff, Nat.reduceSub, Nat.zero_add, Classical.not_not, ex_i, ex_l, ex_d, ex_r, ex_rs, ex_rn, ex_sm, Nat.sub_zero, eq_self, wn_sI, wn_sL, wn_sP, wsh_sI, wsh_sL, wsh_sP, wI_sL, wI_sP, wL_sI, wL_sP, wP_sI, wP_sL, wI_sI, wL_sL, Int32.reduceLT, Int32.reduceLE, true_implies, not_true_eq_false, false_implies, not_false_eq_true, i_10, na_1, nb_1, nm_1, ns_1, nr_1, na_2, nb_2, nm_2, ns_2, nr_2, na_3, nb_3, nm_3, ns_3, nr_3, na_4, nb_4, nm_4, ns_4, nr_4, na_5, nb_5, nm_5, ns_5, nr_5, na_6, nb_6, nm_6, ns_6, nr_6, na_7, nb_7, nm_7, ns_7, nr_7, na_8, nb_8, nm_8, ns_8, nr_8, na_10, nb_10, nm_10, ns_10, nr_10, na_16, nb_16, nm_16, ns_16, nr_16, nl_m1, ni_add, ni_mul, ni_sub, ni_cl, ni_in, vp_0, vp_1, vp_2, vp_3, vp_4, vp_5, Int32.reduceToNatClampNeg, e9]
      refine ⟨fun q => ?_, fun q => ?_⟩
      · rw [if_pos q, List.nil_append] at hK4
        exact p128 w4 Q hF4 hP4 (by omega) hK4
      · rw [if_neg q] at hK4
        refine X12_says_ok hm4 hP4 (by omega) _ fun w5 hf5 hP5 => ?_
        have hF5 := hF4.tr hf5
        obtain ⟨hm5, hC5, hS5⟩ := SvP w5 hF5
        have e9' := hS5 9 (by decide) (by decide)
        have p122 : ∀ (w6 : Wd) (P6 : List Int32), Fr (papS m) w w6 → PapM m w6 P6 → P6.length ≤ 209 → (∀ w' f, Fr (papS m) w6 w' → PapM m w' (P6 ++ [93] ++ (tldT (s.1 11 (8 * v + kf)) (s.1 12 (8 * v + kf)) ++ ndT (s.1 10 (8 * v + kf)))) → R g mX12_spell K 170 [some (.ref m), some (.int (nI v)), some (.int (nI kf)), some (.int f)] [] w' k0 n0) → R g mX12_spell K 122 [some (.ref m), some (.int (nI v)), some (.int (nI kf)), some (.int (nI (8 * v + kf)))] [] w6 k0 n0 := by
          intro w6 P6 hf6 hP6 hl6 hK6
          obtain ⟨hm6, hC6, hS6⟩ := SvP w6 hf6
          simp (disch := omega) only [vX12_spell_122, vX12_spell_123, vX12_spell_125, ms_o hm6, ms_b hm6, ms_0 hm6, pI_c, pL_c, pF_c, pD_c, pA_n, pA_c, pA_rf, pR_c, pR_rf, pV_i, pV_a, pV_n, pV_rf, ldI_c, ldL_c, ldF_c, ldD_c, ldA_c, ldA_n, ldA_rf, dup2_l, dup2_ia, dup2_ir, popA_0, popA_s, getL_z, getL_s, setL_z, setL_1, setL_s, setL2_z, setL2_1, setL2_s, drop2_i, drop2_a, drop2_0, drop2_n, drop2_l, drop2_d, drop2_r, cwd_0, cwd_i, cwd_a, cwd_n, cwd_l, cwd_d, cwd_f, cwd_r, rf_s, rf_n, swi_0, swi_s, zR_b0, zR_b1, zN_b0, zN_b1, entV_i, entV_a, entV_n, entV_r, entV_f, entV_l, entV_d, entV_s, entV_0, List.length_cons, List.length_nil, List.nil_append, List.cons_append, true_and, and_true, Nat.reduceAdd, Nat.reduceLT, Nat.reduceEqDiff, Nat.reduceLeDiff, Nat.reduceSub, Nat.zero_add, Classical.not_not, ex_i, ex_l, ex_d, ex_r, ex_rs, ex_rn, ex_sm, Nat.sub_zero, eq_self, wn_sI, wn_sL, wn_sP, wsh_sI, wsh_sL, wsh_sP, wI_sL, wI_sP, wL_sI, wL_sP, wP_sI, wP_sL, wI_sI, wL_sL, Int32.reduceLT, Int32.reduceLE, true_implies, not_true_eq_false, false_implies, not_false_eq_true, i_10]
          refine X12_says_ok hm6 hP6 (by omega) _ fun w7 hf7 hP7 => ?_
          exact p128 w7 _ (hf6.tr hf7) hP7 (by simp only [List.length_append, List.length_singleton]; omega) fun w' f z1 z2 => hK6 w' f (hf7.tr z1) z2
        simp (disch := omega) only [vX12_spell_103, vX12_spell_104, vX12_spell_107, vX12_spell_108, vX12_spell_109, vX12_spell_112, vX12_spell_113, vX12_spell_114, vX12_spell_117, vX12_spell_118, vX12_spell_119, ms_o hm5, ms_b hm5, ms_0 hm5, mp_cellsOf hm5, ms_cellsOf hm5, pI_c, pL_c, pF_c, pD_c, pA_n, pA_c, pA_rf, pR_c, pR_rf, pV_i, pV_a, pV_n, pV_rf, ldI_c, ldL_c, ldF_c, ldD_c, ldA_c, ldA_n, ldA_rf, dup2_l, dup2_ia, dup2_ir, popA_0, popA_s, getL_z, getL_s, setL_z, setL_1, setL_s, setL2_z, setL2_1, setL2_s, drop2_i, drop2_a, drop2_0, drop2_n, drop2_l, drop2_d, drop2_r, cwd_0, cwd_i, cwd_a, cwd_n, cwd_l, cwd_d, cwd_f, cwd_r, rf_s, rf_n, swi_0, swi_s, zR_b0, zR_b1, zN_b0, zN_b1, entV_i, entV_a, entV_n, entV_r, entV_f, entV_l, entV_d, entV_s, entV_0, List.length_cons, List.length_nil, List.nil_append, List.cons_append, true_and, and_true, Nat.reduceAdd, Nat.reduceLT, Nat.reduceEqDiff, Nat.reduceLeDiff, Nat.reduceSub, Nat.zero_add, Classical.not_not, ex_i, ex_l, ex_d, ex_r, ex_rs, ex_rn, ex_sm, Nat.sub_zero, eq_self, wn_sI, wn_sL, wn_sP, wsh_sI, wsh_sL, wsh_sP, wI_sL, wI_sP, wL_sI, wL_sP, wP_sI, wP_sL, wI_sI, wL_sL, Int32.reduceLT, Int32.reduceLE, true_implies, not_true_eq_false, false_implies, not_false_eq_true, i_10, na_1, nb_1, nm_1, ns_1, nr_1, na_2, nb_2, nm_2, ns_2, nr_2, na_3, nb_3, nm_3, ns_3, nr_3, na_4, nb_4, nm_4, ns_4, nr_4, na_5, nb_5, nm_5, ns_5, nr_5, na_6, nb_6, nm_6, ns_6, nr_6, na_7, nb_7, nm_7, ns_7, nr_7, na_8, nb_8, nm_8, ns_8, nr_8, na_10, nb_10, nm_10, ns_10, nr_10, na_16, nb_16, nm_16, ns_16, nr_16, nl_m1, ni_add, ni_mul, ni_sub, ni_cl, ni_in, vp_0, vp_1, vp_2, vp_3, vp_4, vp_5, Int32.reduceToNatClampNeg, e9']
        refine ⟨fun q2 => ?_, fun q2 => ?_⟩
        · rw [if_neg (Int32.not_lt.mpr q2)] at hK4
          refine p122 w5 _ hF5 hP5 (by simp only [List.length_append, List.length_singleton]; omega) fun w' f z1 z2 => hK4 w' f (hf5.tr z1) ?_
          simp only [List.append_assoc, List.cons_append, List.nil_append] at z2 ⊢
          exact z2
        · rw [if_pos (Int32.not_le.mp q2)] at hK4
          have hn7 := numT_len (s.1 9 (8 * v + kf))
          refine X12_saysNumber_ok hm5 hP5 (by simp only [List.length_append, List.length_singleton]; omega) (by rw [g9, ni_ti (by omega)]; omega) (by rw [g9, ni_ti (by omega)]; omega) fun w6 hf6 hP6 => ?_
          refine p122 w6 _ (hF5.tr hf6) hP6 (by simp only [List.length_append, List.length_singleton]; omega) fun w' f z1 z2 => hK4 w' f (hf5.tr (hf6.tr z1)) ?_
          simp only [List.append_assoc, List.cons_append, List.nil_append] at z2 ⊢
          exact z2
    exact p87
  simp (disch := omega) only [vX12_spell_38, vX12_spell_40, vX12_spell_41, vX12_spell_42, vX12_spell_43, vX12_spell_44, vX12_spell_45, vX12_spell_46, vX12_spell_49, vX12_spell_50, vX12_spell_52, ms_o hm, ms_b hm, ms_0 hm, pI_c, pL_c, pF_c, pD_c, pA_n, pA_c, pA_rf, pR_c, pR_rf, pV_i, pV_a, pV_n, pV_rf, ldI_c, ldL_c, ldF_c, ldD_c, ldA_c, ldA_n, ldA_rf, dup2_l, dup2_ia, dup2_ir, popA_0, popA_s, getL_z, getL_s, setL_z, setL_1, setL_s, setL2_z, setL2_1, setL2_s, drop2_i, drop2_a, drop2_0, drop2_n, drop2_l, drop2_d, drop2_r, cwd_0, cwd_i, cwd_a, cwd_n, cwd_l, cwd_d, cwd_f, cwd_r, rf_s, rf_n, swi_0, swi_s, zR_b0, zR_b1, zN_b0, zN_b1, entV_i, entV_a, entV_n, entV_r, entV_f, entV_l, entV_d, entV_s, entV_0, List.length_cons, List.length_nil, List.nil_append, List.cons_append, true_and, and_true, Nat.reduceAdd, Nat.reduceLT, Nat.reduceEqDiff, Nat.reduceLeDiff, Nat.reduceSub, Nat.zero_add, Classical.not_not, ex_i, ex_l, ex_d, ex_r, ex_rs, ex_rn, ex_sm, Nat.sub_zero, eq_self, wn_sI, wn_sL, wn_sP, wsh_sI, wsh_sL, wsh_sP, wI_sL, wI_sP, wL_sI, wL_sP, wP_sI, wP_sL, wI_sI, wL_sL, Int32.reduceLT, Int32.reduceLE, true_implies, not_true_eq_false, false_implies, not_false_eq_true, i_10, na_1, nb_1, nm_1, ns_1, nr_1, na_2, nb_2, nm_2, ns_2, nr_2, na_3, nb_3, nm_3, ns_3, nr_3, na_4, nb_4, nm_4, ns_4, nr_4, na_5, nb_5, nm_5, ns_5, nr_5, na_6, nb_6, nm_6, ns_6, nr_6, na_7, nb_7, nm_7, ns_7, nr_7, na_8, nb_8, nm_8, ns_8, nr_8, na_10, nb_10, nm_10, ns_10, nr_10, na_16, nb_16, nm_16, ns_16, nr_16, nl_m1, ni_add, ni_mul, ni_sub, ni_cl, ni_in, vp_0, vp_1, vp_2, vp_3, vp_4, vp_5, Int32.reduceToNatClampNeg, ni_le, ni_lt, ni_eq, ni_le1, ni_le0, ni_eq0, ni_eq1, ni_eq2, ni_eq8, ni_eq9]
  refine ⟨fun q => ?_, fun q => ?_⟩
  · rw [if_neg (show ¬ 0 < kf by omega), List.nil_append] at hK
    exact p55 w P Fr.rf hP (by omega) hK
  · rw [if_pos (show 0 < kf by omega)] at hK
    refine X12_says_ok hm hP (by omega) _ fun w1 hf1 hP1 => ?_
    refine p55 w1 _ hf1 hP1 (by simp only [List.length_append, List.length_singleton]; omega) fun w' f z1 z2 => hK w' f (hf1.tr z1) ?_
    rw [List.append_assoc] at z2
    exact z2
set_option maxRecDepth 100000 in
set_option maxHeartbeats 4000000 in
theorem X12_spell_loop {g : Ge} {m k0 n0 v n1 : Nat} {s : St} {K : Option Value → Wd → Prop} (hv : v < 6) (hV : VerS s v n1) : ∀ (d kf : Nat) (w : Wd) (o3 : Option Value), kf + d = n1 → MS g m w → Cn g w → Sv m w s → PapM m w (spT s v kf) → (∀ w', Fr (papS m) w w' → PapM m w' (spT s v n1) → K (some (.int (nI (spT s v n1).length))) w') → R g mX12_spell K 28 [some (.ref m), some (.int (nI v)), some (.int (nI kf)), o3] [] w k0 n0 := by
  intro d
  induction d with
  | zero =>
    intro kf w o3 hk hm hC hS hP hK
    obtain rfl : kf = n1 := by omega
    have hn8 := hV.1
    have e6 : wI w (m + 6) v = nI kf := (hS 6 v (by decide) (by decide)).trans hV.2.1
    have e17 := hP.1
    simp (disch := omega) only [vX12_spell_28, vX12_spell_29, vX12_spell_30, vX12_spell_33, vX12_spell_34, vX12_spell_35, vX12_spell_176, vX12_spell_177, vX12_spell_180, ms_o hm, ms_b hm, ms_0 hm, mp_many hm, ms_many hm, pI_c, pL_c, pF_c, pD_c, pA_n, pA_c, pA_rf, pR_c, pR_rf, pV_i, pV_a, pV_n, pV_rf, ldI_c, ldL_c, ldF_c, ldD_c, ldA_c, ldA_n, ldA_rf, dup2_l, dup2_ia, dup2_ir, popA_0, popA_s, getL_z, getL_s, setL_z, setL_1, setL_s, setL2_z, setL2_1, setL2_s, drop2_i, drop2_a, drop2_0, drop2_n, drop2_l, drop2_d, drop2_r, cwd_0, cwd_i, cwd_a, cwd_n, cwd_l, cwd_d, cwd_f, cwd_r, rf_s, rf_n, swi_0, swi_s, zR_b0, zR_b1, zN_b0, zN_b1, entV_i, entV_a, entV_n, entV_r, entV_f, entV_l, entV_d, entV_s, entV_0, List.length_cons, List.length_nil, List.nil_append, List.cons_append, true_and, and_true, Nat.reduceAdd, Nat.reduceLT, Nat.reduceEqDiff, Nat.reduceLeDiff, Nat.reduceSub, Nat.zero_add, Classical.not_not, ex_i, ex_l, ex_d, ex_r, ex_rs, ex_rn, ex_sm, Nat.sub_zero, eq_self, wn_sI, wn_sL, wn_sP, wsh_sI, wsh_sL, wsh_sP, wI_sL, wI_sP, wL_sI, wL_sP, wP_sI, wP_sL, wI_sI, wL_sL, Int32.reduceLT, Int32.reduceLE, true_implies, not_true_eq_false, false_implies, not_false_eq_true, i_10, na_1, nb_1, nm_1, ns_1, nr_1, na_2, nb_2, nm_2, ns_2, nr_2, na_3, nb_3, nm_3, ns_3, nr_3, na_4, nb_4, nm_4, ns_4, nr_4, na_5, nb_5, nm_5, ns_5, nr_5, na_6, nb_6, nm_6, ns_6, nr_6, na_7, nb_7, nm_7, ns_7, nr_7, na_8, nb_8, nm_8, ns_8, nr_8, na_10, nb_10, nm_10, ns_10, nr_10, na_16, nb_16, nm_16, ns_16, nr_16, nl_m1, ni_add, ni_mul, ni_sub, ni_cl, ni_in, vp_0, vp_1, vp_2, vp_3, vp_4, vp_5, Int32.reduceToNatClampNeg, ni_le, ni_lt, ni_eq, ni_le1, ni_le0, ni_eq0, ni_eq1, ni_eq2, ni_eq8, ni_eq9, e6, e17, Nat.le_refl]
    exact hK w Fr.rf hP
  | succ d ih =>
    intro kf w o3 hk hm hC hS hP hK
    have hn8 := hV.1
    have hlt : ¬ n1 ≤ kf := by omega
    have hge := ms_0 hm
    have e6 : wI w (m + 6) v = nI n1 := (hS 6 v (by decide) (by decide)).trans hV.2.1
    have hl := spT_len hV.2.2 kf (by omega)
    simp (disch := omega) only [vX12_spell_28, vX12_spell_29, vX12_spell_30, vX12_spell_33, vX12_spell_34, vX12_spell_35, ms_o hm, ms_b hm, ms_0 hm, mp_many hm, ms_many hm, pI_c, pL_c, pF_c, pD_c, pA_n, pA_c, pA_rf, pR_c, pR_rf, pV_i, pV_a, pV_n, pV_rf, ldI_c, ldL_c, ldF_c, ldD_c, ldA_c, ldA_n, ldA_rf, dup2_l, dup2_ia, dup2_ir, popA_0, popA_s, getL_z, getL_s, setL_z, setL_1, setL_s, setL2_z, setL2_1, setL2_s, drop2_i, drop2_a, drop2_0, drop2_n, drop2_l, drop2_d, drop2_r, cwd_0, cwd_i, cwd_a, cwd_n, cwd_l, cwd_d, cwd_f, cwd_r, rf_s, rf_n, swi_0, swi_s, zR_b0, zR_b1, zN_b0, zN_b1, entV_i, entV_a, entV_n, entV_r, entV_f, entV_l, entV_d, entV_s, entV_0, List.length_cons, List.length_nil, List.nil_append, List.cons_append, true_and, and_true, Nat.reduceAdd, Nat.reduceLT, Nat.reduceEqDiff, Nat.reduceLeDiff, Nat.reduceSub, Nat.zero_add, Classical.not_not, ex_i, ex_l, ex_d, ex_r, ex_rs, ex_rn, ex_sm, Nat.sub_zero, eq_self, wn_sI, wn_sL, wn_sP, wsh_sI, wsh_sL, wsh_sP, wI_sL, wI_sP, wL_sI, wL_sP, wP_sI, wP_sL, wI_sI, wL_sL, Int32.reduceLT, Int32.reduceLE, true_implies, not_true_eq_false, false_implies, not_false_eq_true, i_10, na_1, nb_1, nm_1, ns_1, nr_1, na_2, nb_2, nm_2, ns_2, nr_2, na_3, nb_3, nm_3, ns_3, nr_3, na_4, nb_4, nm_4, ns_4, nr_4, na_5, nb_5, nm_5, ns_5, nr_5, na_6, nb_6, nm_6, ns_6, nr_6, na_7, nb_7, nm_7, ns_7, nr_7, na_8, nb_8, nm_8, ns_8, nr_8, na_10, nb_10, nm_10, ns_10, nr_10, na_16, nb_16, nm_16, ns_16, nr_16, nl_m1, ni_add, ni_mul, ni_sub, ni_cl, ni_in, vp_0, vp_1, vp_2, vp_3, vp_4, vp_5, Int32.reduceToNatClampNeg, ni_le, ni_lt, ni_eq, ni_le1, ni_le0, ni_eq0, ni_eq1, ni_eq2, ni_eq8, ni_eq9, e6, hlt]
    refine X12_spell_fld hm hC hv hV hS (by omega) hP (by omega) fun w' f hf hP' => ?_
    simp (disch := omega) only [vX12_spell_170, vX12_spell_173, pI_c, pL_c, pF_c, pD_c, pA_n, pA_c, pA_rf, pR_c, pR_rf, pV_i, pV_a, pV_n, pV_rf, ldI_c, ldL_c, ldF_c, ldD_c, ldA_c, ldA_n, ldA_rf, dup2_l, dup2_ia, dup2_ir, popA_0, popA_s, getL_z, getL_s, setL_z, setL_1, setL_s, setL2_z, setL2_1, setL2_s, drop2_i, drop2_a, drop2_0, drop2_n, drop2_l, drop2_d, drop2_r, cwd_0, cwd_i, cwd_a, cwd_n, cwd_l, cwd_d, cwd_f, cwd_r, rf_s, rf_n, swi_0, swi_s, zR_b0, zR_b1, zN_b0, zN_b1, entV_i, entV_a, entV_n, entV_r, entV_f, entV_l, entV_d, entV_s, entV_0, List.length_cons, List.length_nil, List.nil_append, List.cons_append, true_and, and_true, Nat.reduceAdd, Nat.reduceLT, Nat.reduceEqDiff, Nat.reduceLeDiff, Nat.reduceSub, Nat.zero_add, Classical.not_not, ex_i, ex_l, ex_d, ex_r, ex_rs, ex_rn, ex_sm, Nat.sub_zero, eq_self, wn_sI, wn_sL, wn_sP, wsh_sI, wsh_sL, wsh_sP, wI_sL, wI_sP, wL_sI, wL_sP, wP_sI, wP_sL, wI_sI, wL_sL, Int32.reduceLT, Int32.reduceLE, true_implies, not_true_eq_false, false_implies, not_false_eq_true, i_10, na_1, nb_1, nm_1, ns_1, nr_1, na_2, nb_2, nm_2, ns_2, nr_2, na_3, nb_3, nm_3, ns_3, nr_3, na_4, nb_4, nm_4, ns_4, nr_4, na_5, nb_5, nm_5, ns_5, nr_5, na_6, nb_6, nm_6, ns_6, nr_6, na_7, nb_7, nm_7, ns_7, nr_7, na_8, nb_8, nm_8, ns_8, nr_8, na_10, nb_10, nm_10, ns_10, nr_10, na_16, nb_16, nm_16, ns_16, nr_16, nl_m1, ni_add, ni_mul, ni_sub, ni_cl, ni_in, vp_0, vp_1, vp_2, vp_3, vp_4, vp_5, Int32.reduceToNatClampNeg]
    exact ih (kf + 1) w' _ (by omega) (hm.fr hf) (hC.fr hf fun a j ha => by unfold papS; omega) (hS.fr hf (by unfold papS; omega)) hP' fun w2 z1 z2 => hK w2 (hf.tr z1) z2
def SpSpell (s : St) (a ans : Int32) (s' : St) : Prop := if ¬ (0 ≤ a ∧ a ≤ 5) then ans = -1 ∧ Bt none2 s s' else if s.1 6 a.toNatClampNeg = 0 then ans = -3 ∧ Bt none2 s s' else
  ans = nI (spT s a.toNatClampNeg (s.1 6 a.toNatClampNeg).toNatClampNeg).length ∧ Bt (fun o j => (o = 0 ∧ j = 17) ∨ o = 15) s s' ∧ s'.1 0 17 = nI (spT s a.toNatClampNeg (s.1 6 a.toNatClampNeg).toNatClampNeg).length ∧ bufH (s'.1 15) 0 (spT s a.toNatClampNeg (s.1 6 a.toNatClampNeg).toNatClampNeg)
set_option maxRecDepth 100000 in
set_option maxHeartbeats 4000000 in
theorem M_spell {g : Ge} {w : Wd} {k n : Nat} {K : Int32 → Wd → Nat → Nat → Prop} {m : Nat} (hm : MS g m w) (hC : Cn g w) (hV : VW (mst m w)) (a : Int32) (h : ∀ ans w', Fr (mS m) w w' → SpSpell (mst m w) a ans (mst m w') → K ans w' k n) : cI g mX12_spell [.ref m, .int a] w k n K := by
  unfold SpSpell at h
  have hge := ms_0 hm
  refine cI_of 4 0 0 rfl (by decide +kernel) rfl (Nat.le_of_ble_eq_true rfl) (Nat.zero_le _) (Nat.zero_le _) ?_
  simp only [vX12_spell_0, vX12_spell_1, pI_c, pL_c, pF_c, pD_c, pA_n, pA_c, pA_rf, pR_c, pR_rf, pV_i, pV_a, pV_n, pV_rf, ldI_c, ldL_c, ldF_c, ldD_c, ldA_c, ldA_n, ldA_rf, dup2_l, dup2_ia, dup2_ir, popA_0, popA_s, getL_z, getL_s, setL_z, setL_1, setL_s, setL2_z, setL2_1, setL2_s, drop2_i, drop2_a, drop2_0, drop2_n, drop2_l, drop2_d, drop2_r, cwd_0, cwd_i, cwd_a, cwd_n, cwd_l, cwd_d, cwd_f, cwd_r, rf_s, rf_n, swi_0, swi_s, zR_b0, zR_b1, zN_b0, zN_b1, entV_i, entV_a, entV_n, entV_r, entV_f, entV_l, entV_d, entV_s, entV_0, List.length_cons, List.length_nil, List.nil_append, List.cons_append, true_and, and_true, Nat.reduceAdd, Nat.reduceLT, Nat.reduceEqDiff, Nat.reduceLeDiff, Nat.reduceSub, Nat.zero_add, Classical.not_not, ex_i, ex_l, ex_d, ex_r, ex_rs, ex_rn, ex_sm, Nat.sub_zero, eq_self, wn_sI, wn_sL, wn_sP, wsh_sI, wsh_sL, wsh_sP, wI_sL, wI_sP, wL_sI, wL_sP, wP_sI, wP_sL, wI_sI, wL_sL, Int32.reduceLT, Int32.reduceLE, true_implies, not_true_eq_false, false_implies, not_false_eq_true, i_10]
  refine X12_isVersion_ok _ ?_
  by_cases ha : 0 ≤ a ∧ a ≤ 5
  · obtain ⟨v, hv, rfl⟩ := i_nat (c := 5) (by decide) ha.1 ha.2
    simp only [if_neg (not_not_intro ha), ni_cl (show v < 2147483648 by omega)] at h
    rcases hV v (by omega) with e0 | ⟨n1, hn0, hn1, hW⟩
    · simp only [if_pos e0] at h
      have e6 : wI w (m + 6) v = 0 := e0
      simp (disch := omega) only [b2i_t ha, vX12_spell_4, vX12_spell_7, vX12_spell_8, vX12_spell_9, vX12_spell_10, vX12_spell_13, vX12_spell_14, vX12_spell_15, vX12_spell_18, vX12_spell_20, ms_o hm, ms_b hm, ms_0 hm, mp_many hm, ms_many hm, pI_c, pL_c, pF_c, pD_c, pA_n, pA_c, pA_rf, pR_c, pR_rf, pV_i, pV_a, pV_n, pV_rf, ldI_c, ldL_c, ldF_c, ldD_c, ldA_c, ldA_n, ldA_rf, dup2_l, dup2_ia, dup2_ir, popA_0, popA_s, getL_z, getL_s, setL_z, setL_1, setL_s, setL2_z, setL2_1, setL2_s, drop2_i, drop2_a, drop2_0, drop2_n, drop2_l, drop2_d, drop2_r, cwd_0, cwd_i, cwd_a, cwd_n, cwd_l, cwd_d, cwd_f, cwd_r, rf_s, rf_n, swi_0, swi_s, zR_b0, zR_b1, zN_b0, zN_b1, entV_i, entV_a, entV_n, entV_r, entV_f, entV_l, entV_d, entV_s, entV_0, List.length_cons, List.length_nil, List.nil_append, List.cons_append, true_and, and_true, Nat.reduceAdd, Nat.reduceLT, Nat.reduceEqDiff, Nat.reduceLeDiff, Nat.reduceSub, Nat.zero_add, Classical.not_not, ex_i, ex_l, ex_d, ex_r, ex_rs, ex_rn, ex_sm, Nat.sub_zero, eq_self, wn_sI, wn_sL, wn_sP, wsh_sI, wsh_sL, wsh_sP, wI_sL, wI_sP, wL_sI, wL_sP, wP_sI, wP_sL, wI_sI, wL_sL, Int32.reduceLT, Int32.reduceLE, true_implies, not_true_eq_false, false_implies, not_false_eq_true, i_10, na_1, nb_1, nm_1, ns_1, nr_1, na_2, nb_2, nm_2, ns_2, nr_2, na_3, nb_3, nm_3, ns_3, nr_3, na_4, nb_4, nm_4, ns_4, nr_4, na_5, nb_5, nm_5, ns_5, nr_5, na_6, nb_6, nm_6, ns_6, nr_6, na_7, nb_7, nm_7, ns_7, nr_7, na_8, nb_8, nm_8, ns_8, nr_8, na_10, nb_10, nm_10, ns_10, nr_10, na_16, nb_16, nm_16, ns_16, nr_16, nl_m1, ni_add, ni_mul, ni_sub, ni_cl, ni_in, vp_0, vp_1, vp_2, vp_3, vp_4, vp_5, Int32.reduceToNatClampNeg, e6]
      exact h _ w Fr.rf ⟨rfl, Bt.rf⟩
    · have hn8 := hW.1
      have hne : ¬ nI n1 = 0 := nI_ne0 hn0 (by omega)
      simp only [hn1, if_neg hne, ni_cl (show n1 < 2147483648 by omega)] at h
      have e6 : wI w (m + 6) v = nI n1 := hn1
      simp (disch := omega) only [b2i_t ha, vX12_spell_4, vX12_spell_7, vX12_spell_8, vX12_spell_9, vX12_spell_10, vX12_spell_13, vX12_spell_14, vX12_spell_15, vX12_spell_18, vX12_spell_20, vX12_spell_21, vX12_spell_22, vX12_spell_23, vX12_spell_26, vX12_spell_27, ms_o hm, ms_b hm, ms_0 hm, mp_many hm, ms_many hm, pI_c, pL_c, pF_c, pD_c, pA_n, pA_c, pA_rf, pR_c, pR_rf, pV_i, pV_a, pV_n, pV_rf, ldI_c, ldL_c, ldF_c, ldD_c, ldA_c, ldA_n, ldA_rf, dup2_l, dup2_ia, dup2_ir, popA_0, popA_s, getL_z, getL_s, setL_z, setL_1, setL_s, setL2_z, setL2_1, setL2_s, drop2_i, drop2_a, drop2_0, drop2_n, drop2_l, drop2_d, drop2_r, cwd_0, cwd_i, cwd_a, cwd_n, cwd_l, cwd_d, cwd_f, cwd_r, rf_s, rf_n, swi_0, swi_s, zR_b0, zR_b1, zN_b0, zN_b1, entV_i, entV_a, entV_n, entV_r, entV_f, entV_l, entV_d, entV_s, entV_0, List.length_cons, List.length_nil, List.nil_append, List.cons_append, true_and, and_true, Nat.reduceAdd, Nat.reduceLT, Nat.reduceEqDiff, Nat.reduceLeDiff, Nat.reduceSub, Nat.zero_add, Classical.not_not, ex_i, ex_l, ex_d, ex_r, ex_rs, ex_rn, ex_sm, Nat.sub_zero, eq_self, wn_sI, wn_sL, wn_sP, wsh_sI, wsh_sL, wsh_sP, wI_sL, wI_sP, wL_sI, wL_sP, wP_sI, wP_sL, wI_sI, wL_sL, Int32.reduceLT, Int32.reduceLE, true_implies, not_true_eq_false, false_implies, not_false_eq_true, i_10, na_1, nb_1, nm_1, ns_1, nr_1, na_2, nb_2, nm_2, ns_2, nr_2, na_3, nb_3, nm_3, ns_3, nr_3, na_4, nb_4, nm_4, ns_4, nr_4, na_5, nb_5, nm_5, ns_5, nr_5, na_6, nb_6, nm_6, ns_6, nr_6, na_7, nb_7, nm_7, ns_7, nr_7, na_8, nb_8, nm_8, ns_8, nr_8, na_10, nb_10, nm_10, ns_10, nr_10, na_16, nb_16, nm_16, ns_16, nr_16, nl_m1, ni_add, ni_mul, ni_sub, ni_cl, ni_in, vp_0, vp_1, vp_2, vp_3, vp_4, vp_5, Int32.reduceToNatClampNeg, e6, hne]
      have hf0 : Fr (papS m) w (sI w m 17 0) := Fr.rf.i _ (Or.inl ⟨rfl, rfl⟩)
      refine X12_spell_loop (by omega) (hW.S hn1) n1 0 _ none (by omega) (hm.fr hf0) (hC.fr hf0 fun a j ha => by unfold papS; omega) ((Sm.self m w).v.fr hf0 (by unfold papS; omega)) ⟨wI_at.trans (if_pos rfl), bufH.nil _ _⟩ fun w' hf hP => ⟨_, rfl, h _ w' ((hf0.tr hf).mo fun a j y => by unfold papS at y; unfold mS; omega) ⟨rfl, Bt.of (hf0.tr hf) fun o j hp hn => by unfold pers at hp; unfold papS; omega, hP.1, hP.2⟩⟩
  · simp only [if_pos ha] at h
    simp only [b2i_f ha, vX12_spell_4, vX12_spell_7, vX12_spell_8, pI_c, pL_c, pF_c, pD_c, pA_n, pA_c, pA_rf, pR_c, pR_rf, pV_i, pV_a, pV_n, pV_rf, ldI_c, ldL_c, ldF_c, ldD_c, ldA_c, ldA_n, ldA_rf, dup2_l, dup2_ia, dup2_ir, popA_0, popA_s, getL_z, getL_s, setL_z, setL_1, setL_s, setL2_z, setL2_1, setL2_s, drop2_i, drop2_a, drop2_0, drop2_n, drop2_l, drop2_d, drop2_r, cwd_0, cwd_i, cwd_a, cwd_n, cwd_l, cwd_d, cwd_f, cwd_r, rf_s, rf_n, swi_0, swi_s, zR_b0, zR_b1, zN_b0, zN_b1, entV_i, entV_a, entV_n, entV_r, entV_f, entV_l, entV_d, entV_s, entV_0, List.length_cons, List.length_nil, List.nil_append, List.cons_append, true_and, and_true, Nat.reduceAdd, Nat.reduceLT, Nat.reduceEqDiff, Nat.reduceLeDiff, Nat.reduceSub, Nat.zero_add, Classical.not_not, ex_i, ex_l, ex_d, ex_r, ex_rs, ex_rn, ex_sm, Nat.sub_zero, eq_self, wn_sI, wn_sL, wn_sP, wsh_sI, wsh_sL, wsh_sP, wI_sL, wI_sP, wL_sI, wL_sP, wP_sI, wP_sL, wI_sI, wL_sL, Int32.reduceLT, Int32.reduceLE, true_implies, not_true_eq_false, false_implies, not_false_eq_true, i_10]
    exact h _ w Fr.rf ⟨rfl, Bt.rf⟩
