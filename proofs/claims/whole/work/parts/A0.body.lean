/-! the class: the body -/
def OutX (x : Nat) (w : Wd) (L : List Int32) : Prop := wI w (x + 7) 1 = nI L.length ∧ bufH (wI w (x + 8)) 0 L
def outX (x : Nat) (a j : Nat) : Prop := (a = x + 7 ∧ j = 1) ∨ a = x + 8
theorem n255 : ∀ c, c < 256 → nI c &&& 255 = nI c := by decide +kernel
theorem byt_and (v : Int64) (i : Nat) : (v >>> ((nI (8 * i)).toInt64 &&& 63)).toInt32 &&& 255 = byt v i := by
  unfold byt
  rw [Int64.toInt32_and]
  rfl
theorem m1_sub (y : Int32) : y + -1 = y - 1 := (Int32.sub_eq_add_neg y 1).symm
theorem OutX.fr {S : Nat → Nat → Prop} {x : Nat} {w w' : Wd} {L : List Int32} (h : OutX x w L) (hf : Fr S w w') (h1 : ¬ S (x + 7) 1) (h2 : ∀ j, ¬ S (x + 8) j) : OutX x w' L := ⟨(hf.I _ _ h1).trans h.1, fun i hi => (h.2 i hi).trans (by rw [hf.I _ _ (h2 _)])⟩
set_option maxRecDepth 100000 in
set_option maxHeartbeats 4000000 in
theorem X0_add_ok {g : Ge} {w : Wd} {k n : Nat} {K : Wd → Nat → Nat → Prop} {x : Nat} {L : List Int32} (hx : XS g x w) (hL : OutX x w L) (hl : L.length < 1161) (b : Int32) (h : ∀ w', Fr (outX x) w w' → OutX x w' (L ++ [b &&& 255]) → K w' k n) : cV g mX0_add [.ref (x + 7), .int b] w k n K := by
  obtain ⟨h1, h2⟩ := hL
  refine cV_of 2 0 0 rfl (by decide +kernel) rfl (Nat.le_of_ble_eq_true rfl) (Nat.zero_le _) (Nat.zero_le _) ?_
  have e : ¬ (1161 : Int32) ≤ nI L.length := by rw [ni_lit 1161, ni_le (by omega) (by omega)]; omega
  simp (disch := omega) only [vX0_add_0, vX0_add_1, vX0_add_4, vX0_add_7, vX0_add_10, vX0_add_11, vX0_add_14, vX0_add_15, vX0_add_18, vX0_add_19, vX0_add_22, vX0_add_23, vX0_add_24, vX0_add_25, vX0_add_26, vX0_add_29, vX0_add_30, vX0_add_31, vX0_add_34, xs_b hx, xs_0 hx, xs_obj hx, xs_body hx, xp_packer_0 hx, xs_bytes hx, xp_body_0 hx, pI_c, pL_c, pF_c, pD_c, pA_n, pA_c, pA_rf, pR_c, pR_rf, pV_i, pV_a, pV_n, pV_rf, ldI_c, ldL_c, ldF_c, ldD_c, ldA_c, ldA_n, ldA_rf, dup2_l, dup2_ia, dup2_ir, popA_0, popA_s, getL_z, getL_s, setL_z, setL_1, setL_s, setL2_z, setL2_1, setL2_s, drop2_i, drop2_a, drop2_0, drop2_n, drop2_l, drop2_d, drop2_r, cwd_0, cwd_i, cwd_a, cwd_n, cwd_l, cwd_d, cwd_f, cwd_r, rf_s, rf_n, swi_0, swi_s, zR_b0, zR_b1, zN_b0, zN_b1, entV_i, entV_a, entV_n, entV_r, entV_f, entV_l, entV_d, entV_s, entV_0, List.length_cons, List.length_nil, List.nil_append, List.cons_append, true_and, and_true, Nat.reduceAdd, Nat.reduceLT, Nat.reduceEqDiff, Nat.reduceLeDiff, Nat.reduceSub, Nat.zero_add, Classical.not_not, ex_i, ex_l, ex_d, ex_r, ex_rs, ex_rn, ex_sm, Nat.sub_zero, eq_self, wn_sI, wn_sL, wn_sP, wsh_sI, wsh_sL, wsh_sP, wI_sL, wI_sP, wL_sI, wL_sP, wP_sI, wP_sL, wI_sI, wL_sL, Int32.reduceLT, Int32.reduceLE, true_implies, not_true_eq_false, false_implies, not_false_eq_true, i_10, na_1, nb_1, nm_1, ns_1, nr_1, na_2, nb_2, nm_2, ns_2, nr_2, na_3, nb_3, nm_3, ns_3, nr_3, na_4, nb_4, nm_4, ns_4, nr_4, na_5, nb_5, nm_5, ns_5, nr_5, na_6, nb_6, nm_6, ns_6, nr_6, na_7, nb_7, nm_7, ns_7, nr_7, na_8, nb_8, nm_8, ns_8, nr_8, na_10, nb_10, nm_10, ns_10, nr_10, na_16, nb_16, nm_16, ns_16, nr_16, nl_m1, ni_add, ni_mul, ni_sub, ni_cl, ni_in, vp_0, vp_1, vp_2, vp_3, vp_4, vp_5, Int32.reduceToNatClampNeg, up2_n1, up2_at, if_true, if_false, Nat.reduceEqDiff, eq_self, h1, e]
  refine h _ ((Fr.rf.i _ (Or.inr rfl)).i _ (Or.inl ⟨rfl, rfl⟩)) ⟨?_, h2.push (b &&& 255) ?_ fun i hi => ?_⟩
  · rw [wI_at, if_pos rfl, List.length_append]
    rfl
  · rw [wI_ne (by omega), wI_at, if_pos (by omega)]
  · rw [wI_ne (by omega), wI_at, if_neg (by omega)]
set_option maxRecDepth 100000 in
set_option maxHeartbeats 4000000 in
theorem X0_addN_loop {g : Ge} {x k n : Nat} {v : Int64} {c : Int32} {K : Option Value → Wd → Prop} : ∀ (u : Nat) (w : Wd) (L : List Int32), u ≤ 8 → XS g x w → OutX x w L → L.length + u ≤ 1161 → (∀ w', Fr (outX x) w w' → OutX x w' (L ++ byts v u) → K none w') → R g mX0_addNumber K 5 [some (.ref (x + 7)), some (.long v), none, some (.int c), some (.int (nI u - 1))] [] w k n := by
  intro u
  induction u with
  | zero =>
    intro w L hu hx hL hl hK
    have e : nI 0 - 1 < 0 := by decide
    simp (disch := omega) only [vX0_addNumber_5, vX0_addNumber_7, vX0_addNumber_28, pI_c, pL_c, pF_c, pD_c, pA_n, pA_c, pA_rf, pR_c, pR_rf, pV_i, pV_a, pV_n, pV_rf, ldI_c, ldL_c, ldF_c, ldD_c, ldA_c, ldA_n, ldA_rf, dup2_l, dup2_ia, dup2_ir, popA_0, popA_s, getL_z, getL_s, setL_z, setL_1, setL_s, setL2_z, setL2_1, setL2_s, drop2_i, drop2_a, drop2_0, drop2_n, drop2_l, drop2_d, drop2_r, cwd_0, cwd_i, cwd_a, cwd_n, cwd_l, cwd_d, cwd_f, cwd_r, rf_s, rf_n, swi_0, swi_s, zR_b0, zR_b1, zN_b0, zN_b1, entV_i, entV_a, entV_n, entV_r, entV_f, entV_l, entV_d, entV_s, entV_0, List.length_cons, List.length_nil, List.nil_append, List.cons_append, true_and, and_true, Nat.reduceAdd, Nat.reduceLT, Nat.reduceEqDiff, Nat.reduceLeDiff, Nat.reduceSub, Nat.zero_add, Classical.not_not, ex_i, ex_l, ex_d, ex_r, ex_rs, ex_rn, ex_sm, Nat.sub_zero, eq_self, wn_sI, wn_sL, wn_sP, wsh_sI, wsh_sL, wsh_sP, wI_sL, wI_sP, wL_sI, wL_sP, wP_sI, wP_sL, wI_sI, wL_sL, Int32.reduceLT, Int32.reduceLE, true_implies, not_true_eq_false, false_implies, not_false_eq_true, i_10, e]
    exact hK w Fr.rf (by rw [byts, List.append_nil]; exact hL)
  | succ u ih =>
    intro w L hu hx hL hl hK
    have e : nI (u + 1) - 1 = nI u := by rw [show (1 : Int32) = nI 1 from rfl, ni_sub (by omega)]; rfl
    have e2 : ¬ nI u < 0 := by rw [show (0 : Int32) = nI 0 from rfl, ni_lt (by omega) (by omega)]; omega
    rw [e]
    simp (disch := omega) only [vX0_addNumber_5, vX0_addNumber_7, vX0_addNumber_10, vX0_addNumber_11, vX0_addNumber_12, vX0_addNumber_14, vX0_addNumber_16, vX0_addNumber_17, vX0_addNumber_18, vX0_addNumber_19, xs_b hx, xs_0 hx, xs_obj hx, xs_body hx, xp_packer_0 hx, pI_c, pL_c, pF_c, pD_c, pA_n, pA_c, pA_rf, pR_c, pR_rf, pV_i, pV_a, pV_n, pV_rf, ldI_c, ldL_c, ldF_c, ldD_c, ldA_c, ldA_n, ldA_rf, dup2_l, dup2_ia, dup2_ir, popA_0, popA_s, getL_z, getL_s, setL_z, setL_1, setL_s, setL2_z, setL2_1, setL2_s, drop2_i, drop2_a, drop2_0, drop2_n, drop2_l, drop2_d, drop2_r, cwd_0, cwd_i, cwd_a, cwd_n, cwd_l, cwd_d, cwd_f, cwd_r, rf_s, rf_n, swi_0, swi_s, zR_b0, zR_b1, zN_b0, zN_b1, entV_i, entV_a, entV_n, entV_r, entV_f, entV_l, entV_d, entV_s, entV_0, List.length_cons, List.length_nil, List.nil_append, List.cons_append, true_and, and_true, Nat.reduceAdd, Nat.reduceLT, Nat.reduceEqDiff, Nat.reduceLeDiff, Nat.reduceSub, Nat.zero_add, Classical.not_not, ex_i, ex_l, ex_d, ex_r, ex_rs, ex_rn, ex_sm, Nat.sub_zero, eq_self, wn_sI, wn_sL, wn_sP, wsh_sI, wsh_sL, wsh_sP, wI_sL, wI_sP, wL_sI, wL_sP, wP_sI, wP_sL, wI_sI, wL_sL, Int32.reduceLT, Int32.reduceLE, true_implies, not_true_eq_false, false_implies, not_false_eq_true, i_10, na_1, nb_1, nm_1, ns_1, nr_1, na_2, nb_2, nm_2, ns_2, nr_2, na_3, nb_3, nm_3, ns_3, nr_3, na_4, nb_4, nm_4, ns_4, nr_4, na_5, nb_5, nm_5, ns_5, nr_5, na_6, nb_6, nm_6, ns_6, nr_6, na_7, nb_7, nm_7, ns_7, nr_7, na_8, nb_8, nm_8, ns_8, nr_8, na_10, nb_10, nm_10, ns_10, nr_10, na_16, nb_16, nm_16, ns_16, nr_16, nl_m1, ni_add, ni_mul, ni_sub, ni_cl, ni_in, vp_0, vp_1, vp_2, vp_3, vp_4, vp_5, Int32.reduceToNatClampNeg, e2, pL_c]
    refine X0_add_ok hx hL (by omega) _ fun w' h1 h2 => ?_
    rw [byt_and] at h2
    simp (disch := omega) only [vX0_addNumber_22, vX0_addNumber_25, pI_c, pL_c, pF_c, pD_c, pA_n, pA_c, pA_rf, pR_c, pR_rf, pV_i, pV_a, pV_n, pV_rf, ldI_c, ldL_c, ldF_c, ldD_c, ldA_c, ldA_n, ldA_rf, dup2_l, dup2_ia, dup2_ir, popA_0, popA_s, getL_z, getL_s, setL_z, setL_1, setL_s, setL2_z, setL2_1, setL2_s, drop2_i, drop2_a, drop2_0, drop2_n, drop2_l, drop2_d, drop2_r, cwd_0, cwd_i, cwd_a, cwd_n, cwd_l, cwd_d, cwd_f, cwd_r, rf_s, rf_n, swi_0, swi_s, zR_b0, zR_b1, zN_b0, zN_b1, entV_i, entV_a, entV_n, entV_r, entV_f, entV_l, entV_d, entV_s, entV_0, List.length_cons, List.length_nil, List.nil_append, List.cons_append, true_and, and_true, Nat.reduceAdd, Nat.reduceLT, Nat.reduceEqDiff, Nat.reduceLeDiff, Nat.reduceSub, Nat.zero_add, Classical.not_not, ex_i, ex_l, ex_d, ex_r, ex_rs, ex_rn, ex_sm, Nat.sub_zero, eq_self, wn_sI, wn_sL, wn_sP, wsh_sI, wsh_sL, wsh_sP, wI_sL, wI_sP, wL_sI, wL_sP, wP_sI, wP_sL, wI_sI, wL_sL, Int32.reduceLT, Int32.reduceLE, true_implies, not_true_eq_false, false_implies, not_false_eq_true, i_10, m1_sub]
    refine ih w' _ (by omega) (hx.fr h1) h2 (by rw [List.length_append, List.length_singleton]; omega) fun w2 h3 h4 => hK w2 (h1.tr h3) ?_
    rw [byts, List.append_cons]
    exact h4
set_option maxRecDepth 100000 in
set_option maxHeartbeats 4000000 in
theorem X0_addNumber_ok {g : Ge} {w : Wd} {k n : Nat} {K : Wd → Nat → Nat → Prop} {x : Nat} {L : List Int32} (hx : XS g x w) (hL : OutX x w L) (v : Int64) {u : Nat} (hu : u ≤ 8) (hl : L.length + u ≤ 1161) (h : ∀ w', Fr (outX x) w w' → OutX x w' (L ++ byts v u) → K w' k n) : cV g mX0_addNumber [.ref (x + 7), .long v, .int (nI u)] w k n K := by
  refine cV_of 5 0 0 rfl (by decide +kernel) rfl (Nat.le_of_ble_eq_true rfl) (Nat.zero_le _) (Nat.zero_le _) ?_
  simp (disch := omega) only [vX0_addNumber_0, vX0_addNumber_1, vX0_addNumber_2, vX0_addNumber_3, pI_c, pL_c, pF_c, pD_c, pA_n, pA_c, pA_rf, pR_c, pR_rf, pV_i, pV_a, pV_n, pV_rf, ldI_c, ldL_c, ldF_c, ldD_c, ldA_c, ldA_n, ldA_rf, dup2_l, dup2_ia, dup2_ir, popA_0, popA_s, getL_z, getL_s, setL_z, setL_1, setL_s, setL2_z, setL2_1, setL2_s, drop2_i, drop2_a, drop2_0, drop2_n, drop2_l, drop2_d, drop2_r, cwd_0, cwd_i, cwd_a, cwd_n, cwd_l, cwd_d, cwd_f, cwd_r, rf_s, rf_n, swi_0, swi_s, zR_b0, zR_b1, zN_b0, zN_b1, entV_i, entV_a, entV_n, entV_r, entV_f, entV_l, entV_d, entV_s, entV_0, List.length_cons, List.length_nil, List.nil_append, List.cons_append, true_and, and_true, Nat.reduceAdd, Nat.reduceLT, Nat.reduceEqDiff, Nat.reduceLeDiff, Nat.reduceSub, Nat.zero_add, Classical.not_not, ex_i, ex_l, ex_d, ex_r, ex_rs, ex_rn, ex_sm, Nat.sub_zero, eq_self, wn_sI, wn_sL, wn_sP, wsh_sI, wsh_sL, wsh_sP, wI_sL, wI_sP, wL_sI, wL_sP, wP_sI, wP_sL, wI_sI, wL_sL, Int32.reduceLT, Int32.reduceLE, true_implies, not_true_eq_false, false_implies, not_false_eq_true, i_10]
  exact X0_addN_loop u w L hu hx hL hl fun w' h1 h2 => ⟨rfl, h w' h1 h2⟩
