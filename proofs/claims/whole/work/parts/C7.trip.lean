/-! the class: trip -/
def agC (f : Nat → Bool) : Nat → Nat
  | 0 => 0
  | j + 1 => agC f j + (if f j = true then 1 else 0)
theorem agC_le (f : Nat → Bool) : ∀ j, agC f j ≤ j
  | 0 => Nat.le_refl _
  | j + 1 => by
    have := agC_le f j
    unfold agC
    split <;> omega
theorem agC_all {f : Nat → Bool} : ∀ {j : Nat}, (∀ i, i < j → f i = true) → agC f j = j
  | 0, _ => rfl
  | j + 1, h => by
    unfold agC
    rw [agC_all fun i hi => h i (by omega), if_pos (h j (Nat.lt_succ_self j))]
theorem agC_trp {s : St} {r : Nat} {C : List (Int32 × Int64)} {f : Nat → Bool} : ∀ {j : Nat}, j ≤ C.length → (∀ i x, i < j → C[i]? = some x → f i = alk (s.1 4 (16 * r + i)) (s.2 5 (16 * r + i)) x.1 x.2) → agC f j = trpC s r C j
  | 0, _, _ => rfl
  | j + 1, hj, h => by
    unfold agC trpC
    rw [agC_trp (by omega) fun i x hi => h i x (by omega), List.getElem?_eq_getElem (by omega)]
    simp only []
    rw [h j _ (Nat.lt_succ_self j) (List.getElem?_eq_getElem (by omega))]
/-- the cells of two rows, alike or not -/
def AgF (w : Wd) (a1 a2 : Nat) (f : Nat → Bool) (i : Nat) : Prop := ∃ o1 o2 v1 v2, o1 ≤ 8 ∧ o2 ≤ 8 ∧ cvl (nI o1) v1 ∧ cvl (nI o2) v2 ∧ wI w (a1 + 1) i = nI o1 ∧ wI w (a2 + 1) i = nI o2 ∧ wL w (a1 + 2) i = v1 ∧ wL w (a2 + 2) i = v2 ∧ f i = alk (nI o1) v1 (nI o2) v2
set_option maxRecDepth 100000 in
set_option maxHeartbeats 4000000 in
theorem X7_agr_loop {g : Ge} {k0 n0 a1 k1 n1 a2 k2 n2 u : Nat} {f : Nat → Bool} {w : Wd} {K : Option Value → Wd → Prop} (hr1 : RowS w a1 k1 n1) (hr2 : RowS w a2 k2 n2) (hn1 : n1 ≤ 16) (hn2 : n2 ≤ 16) (hu1 : u ≤ n1) (hu2 : u ≤ n2) (hf : ∀ i, i < u → AgF w a1 a2 f i) (hK : K (some (.int (nI (agC f u)))) w) : ∀ (d i : Nat), i + d = u → R g mX7_agreements K 17 [some (.ref a1), some (.ref a2), some (.int (nI u)), some (.int (nI (agC f i))), some (.int (nI i))] [] w k0 n0 := by
  have i_1 : ¬ (1 : Int32) = 0 := by decide
  intro d
  induction d with
  | zero =>
    intro i hi
    obtain rfl : i = u := by omega
    simp (disch := omega) only [vX7_agreements_17, vX7_agreements_19, vX7_agreements_20, vX7_agreements_42, vX7_agreements_43, pI_c, pL_c, pF_c, pD_c, pA_n, pA_c, pA_rf, pR_c, pR_rf, pV_i, pV_a, pV_n, pV_rf, ldI_c, ldL_c, ldF_c, ldD_c, ldA_c, ldA_n, ldA_rf, dup2_l, dup2_ia, dup2_ir, popA_0, popA_s, getL_z, getL_s, setL_z, setL_1, setL_s, setL2_z, setL2_1, setL2_s, drop2_i, drop2_a, drop2_0, drop2_n, drop2_l, drop2_d, drop2_r, cwd_0, cwd_i, cwd_a, cwd_n, cwd_l, cwd_d, cwd_f, cwd_r, rf_s, rf_n, swi_0, swi_s, zR_b0, zR_b1, zN_b0, zN_b1, entV_i, entV_a, entV_n, entV_r, entV_f, entV_l, entV_d, entV_s, entV_0, List.length_cons, List.length_nil, List.nil_append, List.cons_append, true_and, and_true, Nat.reduceAdd, Nat.reduceLT, Nat.reduceEqDiff, Nat.reduceLeDiff, Nat.reduceSub, Nat.zero_add, Classical.not_not, ex_i, ex_l, ex_d, ex_r, ex_rs, ex_rn, ex_sm, Nat.sub_zero, eq_self, wn_sI, wn_sL, wn_sP, wsh_sI, wsh_sL, wsh_sP, wI_sL, wI_sP, wL_sI, wL_sP, wP_sI, wP_sL, wI_sI, wL_sL, Int32.reduceLT, Int32.reduceLE, true_implies, not_true_eq_false, false_implies, not_false_eq_true, i_10, ni_le, ni_lt, ni_eq, ni_le1, ni_le0, ni_eq0, ni_eq1, ni_eq2, ni_eq8, ni_eq9, Nat.le_refl]
    exact hK
  | succ d ih =>
    intro i hi
    have hlt : ¬ u ≤ i := by omega
    have hle := agC_le f i
    obtain ⟨o1, o2, v1, v2, h1, h2, h3, h4, h5, h6, h7, h8, h9⟩ := hf i (by omega)
    simp (disch := omega) only [vX7_agreements_17, vX7_agreements_19, vX7_agreements_20, vX7_agreements_23, vX7_agreements_24, vX7_agreements_25, vX7_agreements_27, pI_c, pL_c, pF_c, pD_c, pA_n, pA_c, pA_rf, pR_c, pR_rf, pV_i, pV_a, pV_n, pV_rf, ldI_c, ldL_c, ldF_c, ldD_c, ldA_c, ldA_n, ldA_rf, dup2_l, dup2_ia, dup2_ir, popA_0, popA_s, getL_z, getL_s, setL_z, setL_1, setL_s, setL2_z, setL2_1, setL2_s, drop2_i, drop2_a, drop2_0, drop2_n, drop2_l, drop2_d, drop2_r, cwd_0, cwd_i, cwd_a, cwd_n, cwd_l, cwd_d, cwd_f, cwd_r, rf_s, rf_n, swi_0, swi_s, zR_b0, zR_b1, zN_b0, zN_b1, entV_i, entV_a, entV_n, entV_r, entV_f, entV_l, entV_d, entV_s, entV_0, List.length_cons, List.length_nil, List.nil_append, List.cons_append, true_and, and_true, Nat.reduceAdd, Nat.reduceLT, Nat.reduceEqDiff, Nat.reduceLeDiff, Nat.reduceSub, Nat.zero_add, Classical.not_not, ex_i, ex_l, ex_d, ex_r, ex_rs, ex_rn, ex_sm, Nat.sub_zero, eq_self, wn_sI, wn_sL, wn_sP, wsh_sI, wsh_sL, wsh_sP, wI_sL, wI_sP, wL_sI, wL_sP, wP_sI, wP_sL, wI_sI, wL_sL, Int32.reduceLT, Int32.reduceLE, true_implies, not_true_eq_false, false_implies, not_false_eq_true, i_10, ni_le, ni_lt, ni_eq, ni_le1, ni_le0, ni_eq0, ni_eq1, ni_eq2, ni_eq8, ni_eq9, hlt, hr1.1]
    refine X7_agrees_ok hr1 hr2 (by omega) (by omega) hn1 hn2 h5 h6 h7 h8 h1 h2 h3 h4 ?_
    rw [← h9]
    have hs := ih (i + 1) (by omega)
    unfold agC at hs
    by_cases q : f i = true
    · rw [if_pos q] at hs
      rw [q]
      simp (disch := omega) only [vX7_agreements_30, vX7_agreements_33, vX7_agreements_36, vX7_agreements_39, pI_c, pL_c, pF_c, pD_c, pA_n, pA_c, pA_rf, pR_c, pR_rf, pV_i, pV_a, pV_n, pV_rf, ldI_c, ldL_c, ldF_c, ldD_c, ldA_c, ldA_n, ldA_rf, dup2_l, dup2_ia, dup2_ir, popA_0, popA_s, getL_z, getL_s, setL_z, setL_1, setL_s, setL2_z, setL2_1, setL2_s, drop2_i, drop2_a, drop2_0, drop2_n, drop2_l, drop2_d, drop2_r, cwd_0, cwd_i, cwd_a, cwd_n, cwd_l, cwd_d, cwd_f, cwd_r, rf_s, rf_n, swi_0, swi_s, zR_b0, zR_b1, zN_b0, zN_b1, entV_i, entV_a, entV_n, entV_r, entV_f, entV_l, entV_d, entV_s, entV_0, List.length_cons, List.length_nil, List.nil_append, List.cons_append, true_and, and_true, Nat.reduceAdd, Nat.reduceLT, Nat.reduceEqDiff, Nat.reduceLeDiff, Nat.reduceSub, Nat.zero_add, Classical.not_not, ex_i, ex_l, ex_d, ex_r, ex_rs, ex_rn, ex_sm, Nat.sub_zero, eq_self, wn_sI, wn_sL, wn_sP, wsh_sI, wsh_sL, wsh_sP, wI_sL, wI_sP, wL_sI, wL_sP, wP_sI, wP_sL, wI_sI, wL_sL, Int32.reduceLT, Int32.reduceLE, true_implies, not_true_eq_false, false_implies, not_false_eq_true, i_10, na_1, nb_1, nm_1, ns_1, nr_1, na_2, nb_2, nm_2, ns_2, nr_2, na_3, nb_3, nm_3, ns_3, nr_3, na_4, nb_4, nm_4, ns_4, nr_4, na_5, nb_5, nm_5, ns_5, nr_5, na_6, nb_6, nm_6, ns_6, nr_6, na_7, nb_7, nm_7, ns_7, nr_7, na_8, nb_8, nm_8, ns_8, nr_8, na_10, nb_10, nm_10, ns_10, nr_10, na_16, nb_16, nm_16, ns_16, nr_16, nl_m1, ni_add, ni_mul, ni_sub, ni_cl, ni_in, vp_0, vp_1, vp_2, vp_3, vp_4, vp_5, Int32.reduceToNatClampNeg, bI_t, i_1]
      exact hs
    · rw [if_neg q] at hs
      rw [Bool.eq_false_iff.mpr q]
      simp (disch := omega) only [vX7_agreements_30, vX7_agreements_36, vX7_agreements_39, pI_c, pL_c, pF_c, pD_c, pA_n, pA_c, pA_rf, pR_c, pR_rf, pV_i, pV_a, pV_n, pV_rf, ldI_c, ldL_c, ldF_c, ldD_c, ldA_c, ldA_n, ldA_rf, dup2_l, dup2_ia, dup2_ir, popA_0, popA_s, getL_z, getL_s, setL_z, setL_1, setL_s, setL2_z, setL2_1, setL2_s, drop2_i, drop2_a, drop2_0, drop2_n, drop2_l, drop2_d, drop2_r, cwd_0, cwd_i, cwd_a, cwd_n, cwd_l, cwd_d, cwd_f, cwd_r, rf_s, rf_n, swi_0, swi_s, zR_b0, zR_b1, zN_b0, zN_b1, entV_i, entV_a, entV_n, entV_r, entV_f, entV_l, entV_d, entV_s, entV_0, List.length_cons, List.length_nil, List.nil_append, List.cons_append, true_and, and_true, Nat.reduceAdd, Nat.reduceLT, Nat.reduceEqDiff, Nat.reduceLeDiff, Nat.reduceSub, Nat.zero_add, Classical.not_not, ex_i, ex_l, ex_d, ex_r, ex_rs, ex_rn, ex_sm, Nat.sub_zero, eq_self, wn_sI, wn_sL, wn_sP, wsh_sI, wsh_sL, wsh_sP, wI_sL, wI_sP, wL_sI, wL_sP, wP_sI, wP_sL, wI_sI, wL_sL, Int32.reduceLT, Int32.reduceLE, true_implies, not_true_eq_false, false_implies, not_false_eq_true, i_10, na_1, nb_1, nm_1, ns_1, nr_1, na_2, nb_2, nm_2, ns_2, nr_2, na_3, nb_3, nm_3, ns_3, nr_3, na_4, nb_4, nm_4, ns_4, nr_4, na_5, nb_5, nm_5, ns_5, nr_5, na_6, nb_6, nm_6, ns_6, nr_6, na_7, nb_7, nm_7, ns_7, nr_7, na_8, nb_8, nm_8, ns_8, nr_8, na_10, nb_10, nm_10, ns_10, nr_10, na_16, nb_16, nm_16, ns_16, nr_16, nl_m1, ni_add, ni_mul, ni_sub, ni_cl, ni_in, vp_0, vp_1, vp_2, vp_3, vp_4, vp_5, Int32.reduceToNatClampNeg, bI_f]
      exact hs
set_option maxRecDepth 100000 in
set_option maxHeartbeats 4000000 in
theorem X7_agreements_ok {g : Ge} {w : Wd} {k n : Nat} {K : Int32 → Wd → Nat → Nat → Prop} {a1 k1 n1 a2 k2 n2 : Nat} {f : Nat → Bool} (hr1 : RowS w a1 k1 n1) (hr2 : RowS w a2 k2 n2) (hn1 : n1 ≤ 16) (hn2 : n2 ≤ 16) (hf : ∀ i, i < min n1 n2 → AgF w a1 a2 f i) (h : K (nI (agC f (min n1 n2))) w k n) : cI g mX7_agreements [.ref a1, .ref a2] w k n K := by
  refine cI_of 5 0 0 rfl (by decide +kernel) rfl (Nat.le_of_ble_eq_true rfl) (Nat.zero_le _) (Nat.zero_le _) ?_
  simp (disch := omega) only [vX7_agreements_0, vX7_agreements_1, pI_c, pL_c, pF_c, pD_c, pA_n, pA_c, pA_rf, pR_c, pR_rf, pV_i, pV_a, pV_n, pV_rf, ldI_c, ldL_c, ldF_c, ldD_c, ldA_c, ldA_n, ldA_rf, dup2_l, dup2_ia, dup2_ir, popA_0, popA_s, getL_z, getL_s, setL_z, setL_1, setL_s, setL2_z, setL2_1, setL2_s, drop2_i, drop2_a, drop2_0, drop2_n, drop2_l, drop2_d, drop2_r, cwd_0, cwd_i, cwd_a, cwd_n, cwd_l, cwd_d, cwd_f, cwd_r, rf_s, rf_n, swi_0, swi_s, zR_b0, zR_b1, zN_b0, zN_b1, entV_i, entV_a, entV_n, entV_r, entV_f, entV_l, entV_d, entV_s, entV_0, List.length_cons, List.length_nil, List.nil_append, List.cons_append, true_and, and_true, Nat.reduceAdd, Nat.reduceLT, Nat.reduceEqDiff, Nat.reduceLeDiff, Nat.reduceSub, Nat.zero_add, Classical.not_not, ex_i, ex_l, ex_d, ex_r, ex_rs, ex_rn, ex_sm, Nat.sub_zero, eq_self, wn_sI, wn_sL, wn_sP, wsh_sI, wsh_sL, wsh_sP, wI_sL, wI_sP, wL_sI, wL_sP, wP_sI, wP_sL, wI_sI, wL_sL, Int32.reduceLT, Int32.reduceLE, true_implies, not_true_eq_false, false_implies, not_false_eq_true, i_10, hr1.1]
  refine X7_size_ok hr1 ?_
  simp (disch := omega) only [vX7_agreements_4, vX7_agreements_5, pI_c, pL_c, pF_c, pD_c, pA_n, pA_c, pA_rf, pR_c, pR_rf, pV_i, pV_a, pV_n, pV_rf, ldI_c, ldL_c, ldF_c, ldD_c, ldA_c, ldA_n, ldA_rf, dup2_l, dup2_ia, dup2_ir, popA_0, popA_s, getL_z, getL_s, setL_z, setL_1, setL_s, setL2_z, setL2_1, setL2_s, drop2_i, drop2_a, drop2_0, drop2_n, drop2_l, drop2_d, drop2_r, cwd_0, cwd_i, cwd_a, cwd_n, cwd_l, cwd_d, cwd_f, cwd_r, rf_s, rf_n, swi_0, swi_s, zR_b0, zR_b1, zN_b0, zN_b1, entV_i, entV_a, entV_n, entV_r, entV_f, entV_l, entV_d, entV_s, entV_0, List.length_cons, List.length_nil, List.nil_append, List.cons_append, true_and, and_true, Nat.reduceAdd, Nat.reduceLT, Nat.reduceEqDiff, Nat.reduceLeDiff, Nat.reduceSub, Nat.zero_add, Classical.not_not, ex_i, ex_l, ex_d, ex_r, ex_rs, ex_rn, ex_sm, Nat.sub_zero, eq_self, wn_sI, wn_sL, wn_sP, wsh_sI, wsh_sL, wsh_sP, wI_sL, wI_sP, wL_sI, wL_sP, wP_sI, wP_sL, wI_sI, wL_sL, Int32.reduceLT, Int32.reduceLE, true_implies, not_true_eq_false, false_implies, not_false_eq_true, i_10, hr2.1]
  refine X7_size_ok hr2 ?_
  simp (disch := omega) only [vX7_agreements_8, pI_c, pL_c, pF_c, pD_c, pA_n, pA_c, pA_rf, pR_c, pR_rf, pV_i, pV_a, pV_n, pV_rf, ldI_c, ldL_c, ldF_c, ldD_c, ldA_c, ldA_n, ldA_rf, dup2_l, dup2_ia, dup2_ir, popA_0, popA_s, getL_z, getL_s, setL_z, setL_1, setL_s, setL2_z, setL2_1, setL2_s, drop2_i, drop2_a, drop2_0, drop2_n, drop2_l, drop2_d, drop2_r, cwd_0, cwd_i, cwd_a, cwd_n, cwd_l, cwd_d, cwd_f, cwd_r, rf_s, rf_n, swi_0, swi_s, zR_b0, zR_b1, zN_b0, zN_b1, entV_i, entV_a, entV_n, entV_r, entV_f, entV_l, entV_d, entV_s, entV_0, List.length_cons, List.length_nil, List.nil_append, List.cons_append, true_and, and_true, Nat.reduceAdd, Nat.reduceLT, Nat.reduceEqDiff, Nat.reduceLeDiff, Nat.reduceSub, Nat.zero_add, Classical.not_not, ex_i, ex_l, ex_d, ex_r, ex_rs, ex_rn, ex_sm, Nat.sub_zero, eq_self, wn_sI, wn_sL, wn_sP, wsh_sI, wsh_sL, wsh_sP, wI_sL, wI_sP, wL_sI, wL_sP, wP_sI, wP_sL, wI_sI, wL_sL, Int32.reduceLT, Int32.reduceLE, true_implies, not_true_eq_false, false_implies, not_false_eq_true, i_10]
  refine J9_min_n (by omega) (by omega) ?_
  simp (disch := omega) only [vX7_agreements_11, vX7_agreements_12, vX7_agreements_13, vX7_agreements_14, vX7_agreements_15, pI_c, pL_c, pF_c, pD_c, pA_n, pA_c, pA_rf, pR_c, pR_rf, pV_i, pV_a, pV_n, pV_rf, ldI_c, ldL_c, ldF_c, ldD_c, ldA_c, ldA_n, ldA_rf, dup2_l, dup2_ia, dup2_ir, popA_0, popA_s, getL_z, getL_s, setL_z, setL_1, setL_s, setL2_z, setL2_1, setL2_s, drop2_i, drop2_a, drop2_0, drop2_n, drop2_l, drop2_d, drop2_r, cwd_0, cwd_i, cwd_a, cwd_n, cwd_l, cwd_d, cwd_f, cwd_r, rf_s, rf_n, swi_0, swi_s, zR_b0, zR_b1, zN_b0, zN_b1, entV_i, entV_a, entV_n, entV_r, entV_f, entV_l, entV_d, entV_s, entV_0, List.length_cons, List.length_nil, List.nil_append, List.cons_append, true_and, and_true, Nat.reduceAdd, Nat.reduceLT, Nat.reduceEqDiff, Nat.reduceLeDiff, Nat.reduceSub, Nat.zero_add, Classical.not_not, ex_i, ex_l, ex_d, ex_r, ex_rs, ex_rn, ex_sm, Nat.sub_zero, eq_self, wn_sI, wn_sL, wn_sP, wsh_sI, wsh_sL, wsh_sP, wI_sL, wI_sP, wL_sI, wL_sP, wP_sI, wP_sL, wI_sI, wL_sL, Int32.reduceLT, Int32.reduceLE, true_implies, not_true_eq_false, false_implies, not_false_eq_true, i_10]
  rw [show (0 : Int32) = nI 0 from rfl]
  exact X7_agr_loop (f := f) hr1 hr2 hn1 hn2 (Nat.min_le_left _ _) (Nat.min_le_right _ _) hf ⟨_, rfl, h⟩ (min n1 n2) 0 (Nat.zero_add _)
theorem alk_self {o : Nat} {v : Int64} (h : o ≤ 8) (hv : cvl (nI o) v) : alk (nI o) v (nI o) v = true := by
  unfold alk
  split
  · exact decide_eq_true ⟨rfl, rfl⟩
  next q =>
    split
    · exact decide_eq_true rfl
    · have h8 : ¬ o = 8 := fun z => q (Or.inl (by rw [z]; rfl))
      have h0 : ¬ o = 0 := fun z => q (Or.inr (Or.inr (Or.inl (by rw [z]; rfl))))
      have ha := agV (show o ≤ 7 by omega) h0 hv
      exact decide_eq_true ((alk_bits ha ha).mpr (Or.inl rfl))
set_option maxRecDepth 100000 in
set_option maxHeartbeats 4000000 in
theorem X11_kept_loop {g : Ge} {k0 n0 x u A c nb b : Nat} {s : St} {D : List (Option (List (Int32 × Int64)))} {w : Wd} {K : Option Value → Wd → Prop} (hx : XS g x w) (hA : AbsX x w s) (hV : VerO (x + 81) w A c nb b s) (hN : NewsX x u w b s D) (hDl : D.length = nb) (hOK : LOK D) (hK : K (some (.int (nI (trpN s b nb D 8)))) w) : ∀ (d t : Nat) (o4 o5 o6 : Option Value), t + d = 8 → R g mX11_cellsKept K 4 [some (.ref x), some (.ref A), some (.int (nI (trpN s b nb D t))), some (.int (nI t)), o4, o5, o6] [] w k0 n0 := by
  have hn8 := hV.n8
  have hD16 : ∀ (k : Nat) (C : List (Int32 × Int64)), D[k]? = some (some C) → C.length ≤ 16 := fun k C h => by
    obtain ⟨A1, -, -, -, h4, -⟩ := hN.1 k _ h
    exact h4
  obtain ⟨ra, hR⟩ := hA.rows
  intro d
  induction d with
  | zero =>
    intro t o4 o5 o6 ht
    obtain rfl : t = 8 := by omega
    have e8 : (8 : Int32) ≤ nI 8 := by decide
    simp (disch := omega) only [vX11_cellsKept_4, vX11_cellsKept_5, vX11_cellsKept_7, vX11_cellsKept_73, vX11_cellsKept_74, pI_c, pL_c, pF_c, pD_c, pA_n, pA_c, pA_rf, pR_c, pR_rf, pV_i, pV_a, pV_n, pV_rf, ldI_c, ldL_c, ldF_c, ldD_c, ldA_c, ldA_n, ldA_rf, dup2_l, dup2_ia, dup2_ir, popA_0, popA_s, getL_z, getL_s, setL_z, setL_1, setL_s, setL2_z, setL2_1, setL2_s, drop2_i, drop2_a, drop2_0, drop2_n, drop2_l, drop2_d, drop2_r, cwd_0, cwd_i, cwd_a, cwd_n, cwd_l, cwd_d, cwd_f, cwd_r, rf_s, rf_n, swi_0, swi_s, zR_b0, zR_b1, zN_b0, zN_b1, entV_i, entV_a, entV_n, entV_r, entV_f, entV_l, entV_d, entV_s, entV_0, List.length_cons, List.length_nil, List.nil_append, List.cons_append, true_and, and_true, Nat.reduceAdd, Nat.reduceLT, Nat.reduceEqDiff, Nat.reduceLeDiff, Nat.reduceSub, Nat.zero_add, Classical.not_not, ex_i, ex_l, ex_d, ex_r, ex_rs, ex_rn, ex_sm, Nat.sub_zero, eq_self, wn_sI, wn_sL, wn_sP, wsh_sI, wsh_sL, wsh_sP, wI_sL, wI_sP, wL_sI, wL_sP, wP_sI, wP_sL, wI_sI, wL_sL, Int32.reduceLT, Int32.reduceLE, true_implies, not_true_eq_false, false_implies, not_false_eq_true, i_10, e8]
    exact hK
  | succ d ih =>
    intro t o4 o5 o6 ht
    have hle := trpN_le hA.RW (b := b) (nb := nb) hD16 t (by omega)
    have e8 : ¬ (8 : Int32) ≤ nI t := by rw [ni_lit 8, ni_le (by decide) (by omega)]; omega
    have go67 : ∀ (o4 o5 o6 : Option Value), trpS s b nb D t = 0 → R g mX11_cellsKept K 67 [some (.ref x), some (.ref A), some (.int (nI (trpN s b nb D t))), some (.int (nI t)), o4, o5, o6] [] w k0 n0 := fun o4 o5 o6 e => by
      simp (disch := omega) only [vX11_cellsKept_67, vX11_cellsKept_70, pI_c, pL_c, pF_c, pD_c, pA_n, pA_c, pA_rf, pR_c, pR_rf, pV_i, pV_a, pV_n, pV_rf, ldI_c, ldL_c, ldF_c, ldD_c, ldA_c, ldA_n, ldA_rf, dup2_l, dup2_ia, dup2_ir, popA_0, popA_s, getL_z, getL_s, setL_z, setL_1, setL_s, setL2_z, setL2_1, setL2_s, drop2_i, drop2_a, drop2_0, drop2_n, drop2_l, drop2_d, drop2_r, cwd_0, cwd_i, cwd_a, cwd_n, cwd_l, cwd_d, cwd_f, cwd_r, rf_s, rf_n, swi_0, swi_s, zR_b0, zR_b1, zN_b0, zN_b1, entV_i, entV_a, entV_n, entV_r, entV_f, entV_l, entV_d, entV_s, entV_0, List.length_cons, List.length_nil, List.nil_append, List.cons_append, true_and, and_true, Nat.reduceAdd, Nat.reduceLT, Nat.reduceEqDiff, Nat.reduceLeDiff, Nat.reduceSub, Nat.zero_add, Classical.not_not, ex_i, ex_l, ex_d, ex_r, ex_rs, ex_rn, ex_sm, Nat.sub_zero, eq_self, wn_sI, wn_sL, wn_sP, wsh_sI, wsh_sL, wsh_sP, wI_sL, wI_sP, wL_sI, wL_sP, wP_sI, wP_sL, wI_sI, wL_sL, Int32.reduceLT, Int32.reduceLE, true_implies, not_true_eq_false, false_implies, not_false_eq_true, i_10, na_1, nb_1, nm_1, ns_1, nr_1, na_2, nb_2, nm_2, ns_2, nr_2, na_3, nb_3, nm_3, ns_3, nr_3, na_4, nb_4, nm_4, ns_4, nr_4, na_5, nb_5, nm_5, ns_5, nr_5, na_6, nb_6, nm_6, ns_6, nr_6, na_7, nb_7, nm_7, ns_7, nr_7, na_8, nb_8, nm_8, ns_8, nr_8, na_10, nb_10, nm_10, ns_10, nr_10, na_16, nb_16, nm_16, ns_16, nr_16, nl_m1, ni_add, ni_mul, ni_sub, ni_cl, ni_in, vp_0, vp_1, vp_2, vp_3, vp_4, vp_5, Int32.reduceToNatClampNeg]
      have := ih (t + 1) o4 o5 o6 (by omega)
      unfold trpN at this
      rw [e] at this
      exact this
    have gox : ∀ (y : Nat) (o4 o5 o6 : Option Value), y ≤ 16 → trpS s b nb D t = y → R g mX11_cellsKept K 65 [some (.ref x), some (.ref A), some (.int (nI (trpN s b nb D t))), some (.int (nI t)), o4, o5, o6] [.int (nI y), .int (nI (trpN s b nb D t))] w k0 n0 := fun y o4 o5 o6 hy e => by
      simp (disch := omega) only [vX11_cellsKept_65, vX11_cellsKept_66, vX11_cellsKept_67, vX11_cellsKept_70, pI_c, pL_c, pF_c, pD_c, pA_n, pA_c, pA_rf, pR_c, pR_rf, pV_i, pV_a, pV_n, pV_rf, ldI_c, ldL_c, ldF_c, ldD_c, ldA_c, ldA_n, ldA_rf, dup2_l, dup2_ia, dup2_ir, popA_0, popA_s, getL_z, getL_s, setL_z, setL_1, setL_s, setL2_z, setL2_1, setL2_s, drop2_i, drop2_a, drop2_0, drop2_n, drop2_l, drop2_d, drop2_r, cwd_0, cwd_i, cwd_a, cwd_n, cwd_l, cwd_d, cwd_f, cwd_r, rf_s, rf_n, swi_0, swi_s, zR_b0, zR_b1, zN_b0, zN_b1, entV_i, entV_a, entV_n, entV_r, entV_f, entV_l, entV_d, entV_s, entV_0, List.length_cons, List.length_nil, List.nil_append, List.cons_append, true_and, and_true, Nat.reduceAdd, Nat.reduceLT, Nat.reduceEqDiff, Nat.reduceLeDiff, Nat.reduceSub, Nat.zero_add, Classical.not_not, ex_i, ex_l, ex_d, ex_r, ex_rs, ex_rn, ex_sm, Nat.sub_zero, eq_self, wn_sI, wn_sL, wn_sP, wsh_sI, wsh_sL, wsh_sP, wI_sL, wI_sP, wL_sI, wL_sP, wP_sI, wP_sL, wI_sI, wL_sL, Int32.reduceLT, Int32.reduceLE, true_implies, not_true_eq_false, false_implies, not_false_eq_true, i_10, na_1, nb_1, nm_1, ns_1, nr_1, na_2, nb_2, nm_2, ns_2, nr_2, na_3, nb_3, nm_3, ns_3, nr_3, na_4, nb_4, nm_4, ns_4, nr_4, na_5, nb_5, nm_5, ns_5, nr_5, na_6, nb_6, nm_6, ns_6, nr_6, na_7, nb_7, nm_7, ns_7, nr_7, na_8, nb_8, nm_8, ns_8, nr_8, na_10, nb_10, nm_10, ns_10, nr_10, na_16, nb_16, nm_16, ns_16, nr_16, nl_m1, ni_add, ni_mul, ni_sub, ni_cl, ni_in, vp_0, vp_1, vp_2, vp_3, vp_4, vp_5, Int32.reduceToNatClampNeg]
      have := ih (t + 1) o4 o5 o6 (by omega)
      unfold trpN at this
      rw [e] at this
      exact this
    have goM : ∀ (M kd nn : Nat), wP w (x + 1) t = some M → RowS w M kd nn → nn ≤ 16 → (∀ i, i < nn → ∃ o v, o ≤ 8 ∧ cvl (nI o) v ∧ wI w (M + 1) i = nI o ∧ wL w (M + 2) i = v) → (trpS s b nb D t = match fldIx (fun j => s.1 7 (8 * b + j)) (nI t) nb 0 with
        | none => nn
        | some j => match D[j]? with
          | some (some C) => agC (fun i => match C[i]? with
            | some y => alk (wI w (M + 1) i) (wL w (M + 2) i) y.1 y.2
            | none => false) (min nn C.length)
          | _ => 0) → R g mX11_cellsKept K 15 [some (.ref x), some (.ref A), some (.int (nI (trpN s b nb D t))), some (.int (nI t)), o4, o5, o6] [.int (ixI2 (fldIx (fun j => s.1 7 (8 * b + j)) (nI t) nb 0))] w k0 n0 := fun M kd nn hM hr hnn hc hS => by
      cases hp : fldIx (fun j => s.1 7 (8 * b + j)) (nI t) nb 0 with
      | none =>
        rw [hp] at hS
        simp only [] at hS
        have m1 : ¬ (0 : Int32) ≤ -1 := by decide
        simp (disch := omega) only [vX11_cellsKept_15, vX11_cellsKept_17, vX11_cellsKept_18, vX11_cellsKept_21, vX11_cellsKept_22, vX11_cellsKept_23, vX11_cellsKept_25, vX11_cellsKept_27, vX11_cellsKept_30, vX11_cellsKept_32, vX11_cellsKept_35, vX11_cellsKept_36, vX11_cellsKept_39, vX11_cellsKept_42, vX11_cellsKept_44, vX11_cellsKept_45, vX11_cellsKept_47, vX11_cellsKept_49, vX11_cellsKept_52, vX11_cellsKept_54, vX11_cellsKept_57, vX11_cellsKept_58, vX11_cellsKept_60, vX11_cellsKept_62, xs_b hx, xs_0 hx, xs_obj hx, xs_slots hx, xp_x_0 hx, pI_c, pL_c, pF_c, pD_c, pA_n, pA_c, pA_rf, pR_c, pR_rf, pV_i, pV_a, pV_n, pV_rf, ldI_c, ldL_c, ldF_c, ldD_c, ldA_c, ldA_n, ldA_rf, dup2_l, dup2_ia, dup2_ir, popA_0, popA_s, getL_z, getL_s, setL_z, setL_1, setL_s, setL2_z, setL2_1, setL2_s, drop2_i, drop2_a, drop2_0, drop2_n, drop2_l, drop2_d, drop2_r, cwd_0, cwd_i, cwd_a, cwd_n, cwd_l, cwd_d, cwd_f, cwd_r, rf_s, rf_n, swi_0, swi_s, zR_b0, zR_b1, zN_b0, zN_b1, entV_i, entV_a, entV_n, entV_r, entV_f, entV_l, entV_d, entV_s, entV_0, List.length_cons, List.length_nil, List.nil_append, List.cons_append, true_and, and_true, Nat.reduceAdd, Nat.reduceLT, Nat.reduceEqDiff, Nat.reduceLeDiff, Nat.reduceSub, Nat.zero_add, Classical.not_not, ex_i, ex_l, ex_d, ex_r, ex_rs, ex_rn, ex_sm, Nat.sub_zero, eq_self, wn_sI, wn_sL, wn_sP, wsh_sI, wsh_sL, wsh_sP, wI_sL, wI_sP, wL_sI, wL_sP, wP_sI, wP_sL, wI_sI, wL_sL, Int32.reduceLT, Int32.reduceLE, true_implies, not_true_eq_false, false_implies, not_false_eq_true, i_10, na_1, nb_1, nm_1, ns_1, nr_1, na_2, nb_2, nm_2, ns_2, nr_2, na_3, nb_3, nm_3, ns_3, nr_3, na_4, nb_4, nm_4, ns_4, nr_4, na_5, nb_5, nm_5, ns_5, nr_5, na_6, nb_6, nm_6, ns_6, nr_6, na_7, nb_7, nm_7, ns_7, nr_7, na_8, nb_8, nm_8, ns_8, nr_8, na_10, nb_10, nm_10, ns_10, nr_10, na_16, nb_16, nm_16, ns_16, nr_16, nl_m1, ni_add, ni_mul, ni_sub, ni_cl, ni_in, vp_0, vp_1, vp_2, vp_3, vp_4, vp_5, Int32.reduceToNatClampNeg, ni_le, ni_lt, ni_eq, ni_le1, ni_le0, ni_eq0, ni_eq1, ni_eq2, ni_eq8, ni_eq9, so_n, hM, ixI2, m1, hr.1]
        refine X7_agreements_ok (f := fun _ => true) hr hr hnn hnn (fun i hi => ?_) ?_
        · obtain ⟨o, v, h1, h2, h3, h4⟩ := hc i (by omega)
          exact ⟨o, o, v, v, h1, h1, h2, h2, h3, h3, h4, h4, (alk_self h1 h2).symm⟩
        · rw [agC_all fun _ _ => rfl, Nat.min_self]
          exact gox nn _ _ _ hnn hS
      | some j =>
        obtain ⟨j1, j2, j3⟩ := fldIx_lt hp
        have m1 : (0 : Int32) ≤ nI j := by rw [ni_lit 0, ni_le (by decide) (by omega)]; omega
        have hg := List.getElem?_eq_getElem (show j < D.length by omega)
        rw [hp] at hS
        simp only [hg] at hS
        have hn := hN.1 j _ hg
        have hok := hOK j
        rw [hg] at hok
        cases hC : D[j]'(by omega) with
        | none =>
          rw [hC] at hn hS
          simp (disch := omega) only [vX11_cellsKept_15, vX11_cellsKept_17, vX11_cellsKept_18, vX11_cellsKept_21, vX11_cellsKept_22, vX11_cellsKept_23, vX11_cellsKept_25, vX11_cellsKept_27, vX11_cellsKept_30, vX11_cellsKept_32, vX11_cellsKept_35, vX11_cellsKept_36, vX11_cellsKept_39, vX11_cellsKept_42, vX11_cellsKept_44, vX11_cellsKept_45, vX11_cellsKept_47, vX11_cellsKept_49, vX11_cellsKept_52, vX11_cellsKept_54, xs_b hx, xs_0 hx, xs_obj hx, xs_slots hx, xp_x_0 hx, xs_taker hx, xp_x_7 hx, xs_rows hx, xp_taker_0 hx, pI_c, pL_c, pF_c, pD_c, pA_n, pA_c, pA_rf, pR_c, pR_rf, pV_i, pV_a, pV_n, pV_rf, ldI_c, ldL_c, ldF_c, ldD_c, ldA_c, ldA_n, ldA_rf, dup2_l, dup2_ia, dup2_ir, popA_0, popA_s, getL_z, getL_s, setL_z, setL_1, setL_s, setL2_z, setL2_1, setL2_s, drop2_i, drop2_a, drop2_0, drop2_n, drop2_l, drop2_d, drop2_r, cwd_0, cwd_i, cwd_a, cwd_n, cwd_l, cwd_d, cwd_f, cwd_r, rf_s, rf_n, swi_0, swi_s, zR_b0, zR_b1, zN_b0, zN_b1, entV_i, entV_a, entV_n, entV_r, entV_f, entV_l, entV_d, entV_s, entV_0, List.length_cons, List.length_nil, List.nil_append, List.cons_append, true_and, and_true, Nat.reduceAdd, Nat.reduceLT, Nat.reduceEqDiff, Nat.reduceLeDiff, Nat.reduceSub, Nat.zero_add, Classical.not_not, ex_i, ex_l, ex_d, ex_r, ex_rs, ex_rn, ex_sm, Nat.sub_zero, eq_self, wn_sI, wn_sL, wn_sP, wsh_sI, wsh_sL, wsh_sP, wI_sL, wI_sP, wL_sI, wL_sP, wP_sI, wP_sL, wI_sI, wL_sL, Int32.reduceLT, Int32.reduceLE, true_implies, not_true_eq_false, false_implies, not_false_eq_true, i_10, na_1, nb_1, nm_1, ns_1, nr_1, na_2, nb_2, nm_2, ns_2, nr_2, na_3, nb_3, nm_3, ns_3, nr_3, na_4, nb_4, nm_4, ns_4, nr_4, na_5, nb_5, nm_5, ns_5, nr_5, na_6, nb_6, nm_6, ns_6, nr_6, na_7, nb_7, nm_7, ns_7, nr_7, na_8, nb_8, nm_8, ns_8, nr_8, na_10, nb_10, nm_10, ns_10, nr_10, na_16, nb_16, nm_16, ns_16, nr_16, nl_m1, ni_add, ni_mul, ni_sub, ni_cl, ni_in, vp_0, vp_1, vp_2, vp_3, vp_4, vp_5, Int32.reduceToNatClampNeg, ni_le, ni_lt, ni_eq, ni_le1, ni_le0, ni_eq0, ni_eq1, ni_eq2, ni_eq8, ni_eq9, so_n, hM, ixI2, m1, (show wP w (x + 35) j = none from hn)]
          exact go67 _ _ _ hS
        | some C =>
          rw [hC] at hn hS
          obtain ⟨A1, c1, c2, c3, c4, c5, c6⟩ := hn
          have hcel := hok C (by rw [hC])
          simp (disch := omega) only [vX11_cellsKept_15, vX11_cellsKept_17, vX11_cellsKept_18, vX11_cellsKept_21, vX11_cellsKept_22, vX11_cellsKept_23, vX11_cellsKept_25, vX11_cellsKept_27, vX11_cellsKept_30, vX11_cellsKept_32, vX11_cellsKept_35, vX11_cellsKept_36, vX11_cellsKept_39, vX11_cellsKept_42, vX11_cellsKept_44, vX11_cellsKept_45, vX11_cellsKept_47, vX11_cellsKept_49, vX11_cellsKept_52, vX11_cellsKept_54, vX11_cellsKept_57, vX11_cellsKept_58, vX11_cellsKept_60, vX11_cellsKept_62, xs_b hx, xs_0 hx, xs_obj hx, xs_slots hx, xp_x_0 hx, xs_taker hx, xp_x_7 hx, xs_rows hx, xp_taker_0 hx, pI_c, pL_c, pF_c, pD_c, pA_n, pA_c, pA_rf, pR_c, pR_rf, pV_i, pV_a, pV_n, pV_rf, ldI_c, ldL_c, ldF_c, ldD_c, ldA_c, ldA_n, ldA_rf, dup2_l, dup2_ia, dup2_ir, popA_0, popA_s, getL_z, getL_s, setL_z, setL_1, setL_s, setL2_z, setL2_1, setL2_s, drop2_i, drop2_a, drop2_0, drop2_n, drop2_l, drop2_d, drop2_r, cwd_0, cwd_i, cwd_a, cwd_n, cwd_l, cwd_d, cwd_f, cwd_r, rf_s, rf_n, swi_0, swi_s, zR_b0, zR_b1, zN_b0, zN_b1, entV_i, entV_a, entV_n, entV_r, entV_f, entV_l, entV_d, entV_s, entV_0, List.length_cons, List.length_nil, List.nil_append, List.cons_append, true_and, and_true, Nat.reduceAdd, Nat.reduceLT, Nat.reduceEqDiff, Nat.reduceLeDiff, Nat.reduceSub, Nat.zero_add, Classical.not_not, ex_i, ex_l, ex_d, ex_r, ex_rs, ex_rn, ex_sm, Nat.sub_zero, eq_self, wn_sI, wn_sL, wn_sP, wsh_sI, wsh_sL, wsh_sP, wI_sL, wI_sP, wL_sI, wL_sP, wP_sI, wP_sL, wI_sI, wL_sL, Int32.reduceLT, Int32.reduceLE, true_implies, not_true_eq_false, false_implies, not_false_eq_true, i_10, na_1, nb_1, nm_1, ns_1, nr_1, na_2, nb_2, nm_2, ns_2, nr_2, na_3, nb_3, nm_3, ns_3, nr_3, na_4, nb_4, nm_4, ns_4, nr_4, na_5, nb_5, nm_5, ns_5, nr_5, na_6, nb_6, nm_6, ns_6, nr_6, na_7, nb_7, nm_7, ns_7, nr_7, na_8, nb_8, nm_8, ns_8, nr_8, na_10, nb_10, nm_10, ns_10, nr_10, na_16, nb_16, nm_16, ns_16, nr_16, nl_m1, ni_add, ni_mul, ni_sub, ni_cl, ni_in, vp_0, vp_1, vp_2, vp_3, vp_4, vp_5, Int32.reduceToNatClampNeg, ni_le, ni_lt, ni_eq, ni_le1, ni_le0, ni_eq0, ni_eq1, ni_eq2, ni_eq8, ni_eq9, so_n, hM, ixI2, m1, c1, hr.1, c5.1]
          refine X7_agreements_ok hr c5 hnn c4 (f := fun i => match C[i]? with
            | some y => alk (wI w (M + 1) i) (wL w (M + 2) i) y.1 y.2
            | none => false) (fun i hi => ?_) ?_
          · obtain ⟨o, v, h1, h2, h3, h4⟩ := hc i (by omega)
            have hCi := List.getElem?_eq_getElem (show i < C.length by omega)
            obtain ⟨⟨o2, p1, p2⟩, p3⟩ := hcel _ (List.getElem_mem (show i < C.length by omega))
            have c6i := c6 i (by omega)
            rw [hCi] at c6i
            have c6i' := Option.some.inj c6i
            rw [Nat.zero_add] at c6i'
            refine ⟨o, o2, v, (C[i]'(by omega)).2, h1, p1, h2, by rw [← p2]; exact p3, h3, ?_, h4, ?_, ?_⟩
            · rw [← p2, c6i']
            · rw [c6i']
            · simp only [hCi]
              rw [h3, h4, p2]
          · exact gox _ _ _ _ (Nat.le_trans (agC_le _ _) (by omega)) hS
    simp (disch := omega) only [vX11_cellsKept_4, vX11_cellsKept_5, vX11_cellsKept_7, vX11_cellsKept_10, vX11_cellsKept_11, vX11_cellsKept_12, pI_c, pL_c, pF_c, pD_c, pA_n, pA_c, pA_rf, pR_c, pR_rf, pV_i, pV_a, pV_n, pV_rf, ldI_c, ldL_c, ldF_c, ldD_c, ldA_c, ldA_n, ldA_rf, dup2_l, dup2_ia, dup2_ir, popA_0, popA_s, getL_z, getL_s, setL_z, setL_1, setL_s, setL2_z, setL2_1, setL2_s, drop2_i, drop2_a, drop2_0, drop2_n, drop2_l, drop2_d, drop2_r, cwd_0, cwd_i, cwd_a, cwd_n, cwd_l, cwd_d, cwd_f, cwd_r, rf_s, rf_n, swi_0, swi_s, zR_b0, zR_b1, zN_b0, zN_b1, entV_i, entV_a, entV_n, entV_r, entV_f, entV_l, entV_d, entV_s, entV_0, List.length_cons, List.length_nil, List.nil_append, List.cons_append, true_and, and_true, Nat.reduceAdd, Nat.reduceLT, Nat.reduceEqDiff, Nat.reduceLeDiff, Nat.reduceSub, Nat.zero_add, Classical.not_not, ex_i, ex_l, ex_d, ex_r, ex_rs, ex_rn, ex_sm, Nat.sub_zero, eq_self, wn_sI, wn_sL, wn_sP, wsh_sI, wsh_sL, wsh_sP, wI_sL, wI_sP, wL_sI, wL_sP, wP_sI, wP_sL, wI_sI, wL_sL, Int32.reduceLT, Int32.reduceLE, true_implies, not_true_eq_false, false_implies, not_false_eq_true, i_10, na_1, nb_1, nm_1, ns_1, nr_1, na_2, nb_2, nm_2, ns_2, nr_2, na_3, nb_3, nm_3, ns_3, nr_3, na_4, nb_4, nm_4, ns_4, nr_4, na_5, nb_5, nm_5, ns_5, nr_5, na_6, nb_6, nm_6, ns_6, nr_6, na_7, nb_7, nm_7, ns_7, nr_7, na_8, nb_8, nm_8, ns_8, nr_8, na_10, nb_10, nm_10, ns_10, nr_10, na_16, nb_16, nm_16, ns_16, nr_16, nl_m1, ni_add, ni_mul, ni_sub, ni_cl, ni_in, vp_0, vp_1, vp_2, vp_3, vp_4, vp_5, Int32.reduceToNatClampNeg, e8, hV.2.2.2.2.1]
    refine X10_placeOf_ok hV (nI t) ?_
    rcases hR.slot (t := t) (by omega) with ⟨z1, z2⟩ | ⟨z1, Ar, z2, z3, z4⟩ | ⟨r, kd, nn, hr, z1, z2, z3, z4, z5, z6, z7, z8, z9⟩
    · have e0 : trpS s b nb D t = 0 := by unfold trpS; rw [if_pos (by rw [z1]; decide)]
      cases hp : fldIx (fun j => s.1 7 (8 * b + j)) (nI t) nb 0 with
      | none =>
        have m1 : ¬ (0 : Int32) ≤ -1 := by decide
        simp (disch := omega) only [vX11_cellsKept_15, vX11_cellsKept_17, vX11_cellsKept_18, vX11_cellsKept_21, vX11_cellsKept_22, vX11_cellsKept_23, vX11_cellsKept_25, vX11_cellsKept_27, vX11_cellsKept_30, vX11_cellsKept_32, vX11_cellsKept_35, vX11_cellsKept_36, vX11_cellsKept_39, vX11_cellsKept_42, vX11_cellsKept_44, vX11_cellsKept_45, vX11_cellsKept_47, vX11_cellsKept_49, xs_b hx, xs_0 hx, xs_obj hx, xs_slots hx, xp_x_0 hx, xs_taker hx, xp_x_7 hx, xs_rows hx, xp_taker_0 hx, pI_c, pL_c, pF_c, pD_c, pA_n, pA_c, pA_rf, pR_c, pR_rf, pV_i, pV_a, pV_n, pV_rf, ldI_c, ldL_c, ldF_c, ldD_c, ldA_c, ldA_n, ldA_rf, dup2_l, dup2_ia, dup2_ir, popA_0, popA_s, getL_z, getL_s, setL_z, setL_1, setL_s, setL2_z, setL2_1, setL2_s, drop2_i, drop2_a, drop2_0, drop2_n, drop2_l, drop2_d, drop2_r, cwd_0, cwd_i, cwd_a, cwd_n, cwd_l, cwd_d, cwd_f, cwd_r, rf_s, rf_n, swi_0, swi_s, zR_b0, zR_b1, zN_b0, zN_b1, entV_i, entV_a, entV_n, entV_r, entV_f, entV_l, entV_d, entV_s, entV_0, List.length_cons, List.length_nil, List.nil_append, List.cons_append, true_and, and_true, Nat.reduceAdd, Nat.reduceLT, Nat.reduceEqDiff, Nat.reduceLeDiff, Nat.reduceSub, Nat.zero_add, Classical.not_not, ex_i, ex_l, ex_d, ex_r, ex_rs, ex_rn, ex_sm, Nat.sub_zero, eq_self, wn_sI, wn_sL, wn_sP, wsh_sI, wsh_sL, wsh_sP, wI_sL, wI_sP, wL_sI, wL_sP, wP_sI, wP_sL, wI_sI, wL_sL, Int32.reduceLT, Int32.reduceLE, true_implies, not_true_eq_false, false_implies, not_false_eq_true, i_10, na_1, nb_1, nm_1, ns_1, nr_1, na_2, nb_2, nm_2, ns_2, nr_2, na_3, nb_3, nm_3, ns_3, nr_3, na_4, nb_4, nm_4, ns_4, nr_4, na_5, nb_5, nm_5, ns_5, nr_5, na_6, nb_6, nm_6, ns_6, nr_6, na_7, nb_7, nm_7, ns_7, nr_7, na_8, nb_8, nm_8, ns_8, nr_8, na_10, nb_10, nm_10, ns_10, nr_10, na_16, nb_16, nm_16, ns_16, nr_16, nl_m1, ni_add, ni_mul, ni_sub, ni_cl, ni_in, vp_0, vp_1, vp_2, vp_3, vp_4, vp_5, Int32.reduceToNatClampNeg, ni_le, ni_lt, ni_eq, ni_le1, ni_le0, ni_eq0, ni_eq1, ni_eq2, ni_eq8, ni_eq9, z2, ixI2, m1]
        exact go67 _ _ _ e0
      | some j =>
        obtain ⟨j1, j2, j3⟩ := fldIx_lt hp
        have m1 : (0 : Int32) ≤ nI j := by rw [ni_lit 0, ni_le (by decide) (by omega)]; omega
        simp (disch := omega) only [vX11_cellsKept_15, vX11_cellsKept_17, vX11_cellsKept_18, vX11_cellsKept_21, vX11_cellsKept_22, vX11_cellsKept_23, vX11_cellsKept_25, vX11_cellsKept_27, vX11_cellsKept_30, vX11_cellsKept_32, vX11_cellsKept_35, vX11_cellsKept_36, vX11_cellsKept_39, vX11_cellsKept_42, vX11_cellsKept_44, vX11_cellsKept_45, vX11_cellsKept_47, vX11_cellsKept_49, xs_b hx, xs_0 hx, xs_obj hx, xs_slots hx, xp_x_0 hx, xs_taker hx, xp_x_7 hx, xs_rows hx, xp_taker_0 hx, pI_c, pL_c, pF_c, pD_c, pA_n, pA_c, pA_rf, pR_c, pR_rf, pV_i, pV_a, pV_n, pV_rf, ldI_c, ldL_c, ldF_c, ldD_c, ldA_c, ldA_n, ldA_rf, dup2_l, dup2_ia, dup2_ir, popA_0, popA_s, getL_z, getL_s, setL_z, setL_1, setL_s, setL2_z, setL2_1, setL2_s, drop2_i, drop2_a, drop2_0, drop2_n, drop2_l, drop2_d, drop2_r, cwd_0, cwd_i, cwd_a, cwd_n, cwd_l, cwd_d, cwd_f, cwd_r, rf_s, rf_n, swi_0, swi_s, zR_b0, zR_b1, zN_b0, zN_b1, entV_i, entV_a, entV_n, entV_r, entV_f, entV_l, entV_d, entV_s, entV_0, List.length_cons, List.length_nil, List.nil_append, List.cons_append, true_and, and_true, Nat.reduceAdd, Nat.reduceLT, Nat.reduceEqDiff, Nat.reduceLeDiff, Nat.reduceSub, Nat.zero_add, Classical.not_not, ex_i, ex_l, ex_d, ex_r, ex_rs, ex_rn, ex_sm, Nat.sub_zero, eq_self, wn_sI, wn_sL, wn_sP, wsh_sI, wsh_sL, wsh_sP, wI_sL, wI_sP, wL_sI, wL_sP, wP_sI, wP_sL, wI_sI, wL_sL, Int32.reduceLT, Int32.reduceLE, true_implies, not_true_eq_false, false_implies, not_false_eq_true, i_10, na_1, nb_1, nm_1, ns_1, nr_1, na_2, nb_2, nm_2, ns_2, nr_2, na_3, nb_3, nm_3, ns_3, nr_3, na_4, nb_4, nm_4, ns_4, nr_4, na_5, nb_5, nm_5, ns_5, nr_5, na_6, nb_6, nm_6, ns_6, nr_6, na_7, nb_7, nm_7, ns_7, nr_7, na_8, nb_8, nm_8, ns_8, nr_8, na_10, nb_10, nm_10, ns_10, nr_10, na_16, nb_16, nm_16, ns_16, nr_16, nl_m1, ni_add, ni_mul, ni_sub, ni_cl, ni_in, vp_0, vp_1, vp_2, vp_3, vp_4, vp_5, Int32.reduceToNatClampNeg, ni_le, ni_lt, ni_eq, ni_le1, ni_le0, ni_eq0, ni_eq1, ni_eq2, ni_eq8, ni_eq9, z2, ixI2, m1]
        exact go67 _ _ _ e0
    · refine goM Ar 9 0 z3 z4 (by decide) (fun i hi => absurd hi (Nat.not_lt_zero i)) ?_
      have e0 : trpS s b nb D t = 0 := by unfold trpS; rw [if_pos (by rw [z1]; decide)]
      rw [e0]
      split
      · rfl
      · split
        · rw [Nat.zero_min]
          rfl
        · rfl
    · refine goM (ra r) kd nn z2 z8 z7 (fun i hi => ?_) ?_
      · obtain ⟨o, o1, o2, o3, o4, o5, o6⟩ := z9 i hi
        exact ⟨o, _, o1, o4, o5, o6⟩
      · have hrow : 0 ≤ s.1 1 t ∧ s.1 1 t ≤ 7 := by
          rw [z1, ni_lit 0, ni_lit 7, ni_le (by omega) (by omega), ni_le (by omega) (by omega)]
          omega
        unfold trpS
        rw [if_neg (not_not_intro hrow), z1, ni_cl (show r < 2147483648 by omega), z5, ni_cl (show nn < 2147483648 by omega)]
        cases hp : fldIx (fun j => s.1 7 (8 * b + j)) (nI t) nb 0 with
        | none => rfl
        | some j =>
          simp only []
          cases hC : D[j]? with
          | none => rfl
          | some y =>
            cases y with
            | none => rfl
            | some C =>
              simp only []
              exact (agC_trp (Nat.min_le_right _ _) fun i y hi hy => by
                obtain ⟨o, o1, o2, o3, o4, o5, o6⟩ := z9 i (by omega)
                rw [hy]
                simp only []
                rw [o5, o6, o2]).symm
set_option maxRecDepth 100000 in
set_option maxHeartbeats 4000000 in
theorem X11_cellsKept_ok {g : Ge} {w : Wd} {k n : Nat} {K : Int32 → Wd → Nat → Nat → Prop} {x u A c nb b : Nat} {s : St} {D : List (Option (List (Int32 × Int64)))} (hx : XS g x w) (hA : AbsX x w s) (hV : VerO (x + 81) w A c nb b s) (hN : NewsX x u w b s D) (hDl : D.length = nb) (hOK : LOK D) (h : K (nI (trpN s b nb D 8)) w k n) : cI g mX11_cellsKept [.ref x, .ref A] w k n K := by
  refine cI_of 7 0 0 rfl (by decide +kernel) rfl (Nat.le_of_ble_eq_true rfl) (Nat.zero_le _) (Nat.zero_le _) ?_
  simp only [vX11_cellsKept_0, vX11_cellsKept_1, vX11_cellsKept_2, vX11_cellsKept_3, pI_c, pL_c, pF_c, pD_c, pA_n, pA_c, pA_rf, pR_c, pR_rf, pV_i, pV_a, pV_n, pV_rf, ldI_c, ldL_c, ldF_c, ldD_c, ldA_c, ldA_n, ldA_rf, dup2_l, dup2_ia, dup2_ir, popA_0, popA_s, getL_z, getL_s, setL_z, setL_1, setL_s, setL2_z, setL2_1, setL2_s, drop2_i, drop2_a, drop2_0, drop2_n, drop2_l, drop2_d, drop2_r, cwd_0, cwd_i, cwd_a, cwd_n, cwd_l, cwd_d, cwd_f, cwd_r, rf_s, rf_n, swi_0, swi_s, zR_b0, zR_b1, zN_b0, zN_b1, entV_i, entV_a, entV_n, entV_r, entV_f, entV_l, entV_d, entV_s, entV_0, List.length_cons, List.length_nil, List.nil_append, List.cons_append, true_and, and_true, Nat.reduceAdd, Nat.reduceLT, Nat.reduceEqDiff, Nat.reduceLeDiff, Nat.reduceSub, Nat.zero_add, Classical.not_not, ex_i, ex_l, ex_d, ex_r, ex_rs, ex_rn, ex_sm, Nat.sub_zero, eq_self, wn_sI, wn_sL, wn_sP, wsh_sI, wsh_sL, wsh_sP, wI_sL, wI_sP, wL_sI, wL_sP, wP_sI, wP_sL, wI_sI, wL_sL, Int32.reduceLT, Int32.reduceLE, true_implies, not_true_eq_false, false_implies, not_false_eq_true, i_10]
  rw [show (0 : Int32) = nI 0 from rfl]
  exact X11_kept_loop hx hA hV hN hDl hOK ⟨_, rfl, h⟩ 8 0 _ _ _ rfl
theorem bys_ats {L : List Int32} (h : bys L) : AtB (fun i => (L[i]?.getD 0).toNatClampNeg) 0 L := fun i hi => by
  obtain ⟨c, c1, c2⟩ := h _ (List.getElem_mem hi)
  have e := List.getElem?_eq_getElem hi
  rw [Nat.zero_add]
  simp only [e, Option.getD_some, c2, ni_cl (show c < 2147483648 by omega)]
  exact ⟨trivial, c1⟩
set_option maxRecDepth 100000 in
set_option maxHeartbeats 4000000 in
theorem X_trip {g : Ge} {w : Wd} {k n : Nat} {K : Int32 → Wd → Nat → Nat → Prop} {x : Nat} {s : St} (hI : CI g x w s) (hk : 1000 ≤ k) (hn : 14000 ≤ n) (a b : Int32) (h : ∀ ans w', Xo g x w w' → (∀ c s', SpTrip s a b c s' → c = ans ∧ AbsX x w' s') → K ans w' (k - 1000) (n - 14000)) : cI g mX11_trip [.ref x, .int a, .int b] w k n K := by
  obtain ⟨hx, hC, hW, hw, hA⟩ := id hI
  have i1 : ¬ (1 : Int32) = 0 := by decide
  refine cI_of 6 1000 14000 rfl (by decide +kernel) rfl (Nat.le_of_ble_eq_true rfl) hk hn ?_
  simp only [vX11_trip_0, vX11_trip_1, pI_c, pL_c, pF_c, pD_c, pA_n, pA_c, pA_rf, pR_c, pR_rf, pV_i, pV_a, pV_n, pV_rf, ldI_c, ldL_c, ldF_c, ldD_c, ldA_c, ldA_n, ldA_rf, dup2_l, dup2_ia, dup2_ir, popA_0, popA_s, getL_z, getL_s, setL_z, setL_1, setL_s, setL2_z, setL2_1, setL2_s, drop2_i, drop2_a, drop2_0, drop2_n, drop2_l, drop2_d, drop2_r, cwd_0, cwd_i, cwd_a, cwd_n, cwd_l, cwd_d, cwd_f, cwd_r, rf_s, rf_n, swi_0, swi_s, zR_b0, zR_b1, zN_b0, zN_b1, entV_i, entV_a, entV_n, entV_r, entV_f, entV_l, entV_d, entV_s, entV_0, List.length_cons, List.length_nil, List.nil_append, List.cons_append, true_and, and_true, Nat.reduceAdd, Nat.reduceLT, Nat.reduceEqDiff, Nat.reduceLeDiff, Nat.reduceSub, Nat.zero_add, Classical.not_not, ex_i, ex_l, ex_d, ex_r, ex_rs, ex_rn, ex_sm, Nat.sub_zero, eq_self, wn_sI, wn_sL, wn_sP, wsh_sI, wsh_sL, wsh_sP, wI_sL, wI_sP, wL_sI, wL_sP, wP_sI, wP_sL, wI_sI, wL_sL, Int32.reduceLT, Int32.reduceLE, true_implies, not_true_eq_false, false_implies, not_false_eq_true, i_10]
  refine X11_isVersion_ok _ ?_
  by_cases ha : 0 ≤ a ∧ a ≤ 5
  · rw [b2i_t ha]
    simp only [vX11_trip_4, vX11_trip_7, vX11_trip_8, pI_c, pL_c, pF_c, pD_c, pA_n, pA_c, pA_rf, pR_c, pR_rf, pV_i, pV_a, pV_n, pV_rf, ldI_c, ldL_c, ldF_c, ldD_c, ldA_c, ldA_n, ldA_rf, dup2_l, dup2_ia, dup2_ir, popA_0, popA_s, getL_z, getL_s, setL_z, setL_1, setL_s, setL2_z, setL2_1, setL2_s, drop2_i, drop2_a, drop2_0, drop2_n, drop2_l, drop2_d, drop2_r, cwd_0, cwd_i, cwd_a, cwd_n, cwd_l, cwd_d, cwd_f, cwd_r, rf_s, rf_n, swi_0, swi_s, zR_b0, zR_b1, zN_b0, zN_b1, entV_i, entV_a, entV_n, entV_r, entV_f, entV_l, entV_d, entV_s, entV_0, List.length_cons, List.length_nil, List.nil_append, List.cons_append, true_and, and_true, Nat.reduceAdd, Nat.reduceLT, Nat.reduceEqDiff, Nat.reduceLeDiff, Nat.reduceSub, Nat.zero_add, Classical.not_not, ex_i, ex_l, ex_d, ex_r, ex_rs, ex_rn, ex_sm, Nat.sub_zero, eq_self, wn_sI, wn_sL, wn_sP, wsh_sI, wsh_sL, wsh_sP, wI_sL, wI_sP, wL_sI, wL_sP, wP_sI, wP_sL, wI_sI, wL_sL, Int32.reduceLT, Int32.reduceLE, true_implies, not_true_eq_false, false_implies, not_false_eq_true, i_10, i_10]
    refine X11_isVersion_ok _ ?_
    by_cases hb : 0 ≤ b ∧ b ≤ 5
    · rw [b2i_t hb]
      obtain ⟨u, hu, rfl⟩ := i_nat (c := 5) (by decide) ha.1 ha.2
      obtain ⟨v, hv, rfl⟩ := i_nat (c := 5) (by decide) hb.1 hb.2
      have fin : ∀ ans w', Xo g x w w' → (∀ s', Bt none2 s s' → AbsX x w' s') → ans = (if s.1 6 u = 0 ∨ s.1 6 v = 0 then -3 else match pkAt s u with
          | .inl _ => -20
          | .inr (_, B) => match tkAt s u (pkL s u (s.1 6 u).toNatClampNeg) v with
            | .inl _ => -20
            | .inr D => if 249 < B.length then -4 else nI (trpN s v (s.1 6 v).toNatClampNeg D 8)) → K ans w' (k - 1000) (n - 14000) := fun ans w' h1 h2 h3 => h ans w' h1 fun c s' z => by
        unfold SpTrip at z
        simp only [if_neg (not_not_intro (And.intro ha hb)), ni_cl (show u < 2147483648 by omega), ni_cl (show v < 2147483648 by omega)] at z
        exact ⟨z.1.trans h3.symm, h2 s' z.2⟩
      clear h
      simp (disch := omega) only [vX11_trip_11, vX11_trip_16, vX11_trip_17, vX11_trip_20, vX11_trip_21, vX11_trip_22, vX11_trip_23, vX11_trip_24, vX11_trip_27, vX11_trip_28, vX11_trip_29, xs_b hx, xs_0 hx, xs_obj hx, xs_versions hx, xp_x_1 hx, pI_c, pL_c, pF_c, pD_c, pA_n, pA_c, pA_rf, pR_c, pR_rf, pV_i, pV_a, pV_n, pV_rf, ldI_c, ldL_c, ldF_c, ldD_c, ldA_c, ldA_n, ldA_rf, dup2_l, dup2_ia, dup2_ir, popA_0, popA_s, getL_z, getL_s, setL_z, setL_1, setL_s, setL2_z, setL2_1, setL2_s, drop2_i, drop2_a, drop2_0, drop2_n, drop2_l, drop2_d, drop2_r, cwd_0, cwd_i, cwd_a, cwd_n, cwd_l, cwd_d, cwd_f, cwd_r, rf_s, rf_n, swi_0, swi_s, zR_b0, zR_b1, zN_b0, zN_b1, entV_i, entV_a, entV_n, entV_r, entV_f, entV_l, entV_d, entV_s, entV_0, List.length_cons, List.length_nil, List.nil_append, List.cons_append, true_and, and_true, Nat.reduceAdd, Nat.reduceLT, Nat.reduceEqDiff, Nat.reduceLeDiff, Nat.reduceSub, Nat.zero_add, Classical.not_not, ex_i, ex_l, ex_d, ex_r, ex_rs, ex_rn, ex_sm, Nat.sub_zero, eq_self, wn_sI, wn_sL, wn_sP, wsh_sI, wsh_sL, wsh_sP, wI_sL, wI_sP, wL_sI, wL_sP, wP_sI, wP_sL, wI_sI, wL_sL, Int32.reduceLT, Int32.reduceLE, true_implies, not_true_eq_false, false_implies, not_false_eq_true, i_10, na_1, nb_1, nm_1, ns_1, nr_1, na_2, nb_2, nm_2, ns_2, nr_2, na_3, nb_3, nm_3, ns_3, nr_3, na_4, nb_4, nm_4, ns_4, nr_4, na_5, nb_5, nm_5, ns_5, nr_5, na_6, nb_6, nm_6, ns_6, nr_6, na_7, nb_7, nm_7, ns_7, nr_7, na_8, nb_8, nm_8, ns_8, nr_8, na_10, nb_10, nm_10, ns_10, nr_10, na_16, nb_16, nm_16, ns_16, nr_16, nl_m1, ni_add, ni_mul, ni_sub, ni_cl, ni_in, vp_0, vp_1, vp_2, vp_3, vp_4, vp_5, Int32.reduceToNatClampNeg, i_10]
      rcases hA.ver (show u < 6 by omega) with ⟨z1, z2⟩ | ⟨Aw, cw, nw, z1, hVw⟩
      · simp only [vX11_trip_31, vX11_trip_32, vX11_trip_40, vX11_trip_42, pI_c, pL_c, pF_c, pD_c, pA_n, pA_c, pA_rf, pR_c, pR_rf, pV_i, pV_a, pV_n, pV_rf, ldI_c, ldL_c, ldF_c, ldD_c, ldA_c, ldA_n, ldA_rf, dup2_l, dup2_ia, dup2_ir, popA_0, popA_s, getL_z, getL_s, setL_z, setL_1, setL_s, setL2_z, setL2_1, setL2_s, drop2_i, drop2_a, drop2_0, drop2_n, drop2_l, drop2_d, drop2_r, cwd_0, cwd_i, cwd_a, cwd_n, cwd_l, cwd_d, cwd_f, cwd_r, rf_s, rf_n, swi_0, swi_s, zR_b0, zR_b1, zN_b0, zN_b1, entV_i, entV_a, entV_n, entV_r, entV_f, entV_l, entV_d, entV_s, entV_0, List.length_cons, List.length_nil, List.nil_append, List.cons_append, true_and, and_true, Nat.reduceAdd, Nat.reduceLT, Nat.reduceEqDiff, Nat.reduceLeDiff, Nat.reduceSub, Nat.zero_add, Classical.not_not, ex_i, ex_l, ex_d, ex_r, ex_rs, ex_rn, ex_sm, Nat.sub_zero, eq_self, wn_sI, wn_sL, wn_sP, wsh_sI, wsh_sL, wsh_sP, wI_sL, wI_sP, wL_sI, wL_sP, wP_sI, wP_sL, wI_sI, wL_sL, Int32.reduceLT, Int32.reduceLE, true_implies, not_true_eq_false, false_implies, not_false_eq_true, i_10, z2]
        exact fin _ _ (Xo.rf hx hW) (fun s' hB => hA.bt hx hB) (by rw [if_pos (Or.inl z1)])
      · rcases hA.ver (show v < 6 by omega) with ⟨y1, y2⟩ | ⟨Ar, cr, n1, y1, hV⟩
        · simp only [vX11_trip_31, vX11_trip_32, vX11_trip_35, vX11_trip_37, vX11_trip_40, vX11_trip_42, pI_c, pL_c, pF_c, pD_c, pA_n, pA_c, pA_rf, pR_c, pR_rf, pV_i, pV_a, pV_n, pV_rf, ldI_c, ldL_c, ldF_c, ldD_c, ldA_c, ldA_n, ldA_rf, dup2_l, dup2_ia, dup2_ir, popA_0, popA_s, getL_z, getL_s, setL_z, setL_1, setL_s, setL2_z, setL2_1, setL2_s, drop2_i, drop2_a, drop2_0, drop2_n, drop2_l, drop2_d, drop2_r, cwd_0, cwd_i, cwd_a, cwd_n, cwd_l, cwd_d, cwd_f, cwd_r, rf_s, rf_n, swi_0, swi_s, zR_b0, zR_b1, zN_b0, zN_b1, entV_i, entV_a, entV_n, entV_r, entV_f, entV_l, entV_d, entV_s, entV_0, List.length_cons, List.length_nil, List.nil_append, List.cons_append, true_and, and_true, Nat.reduceAdd, Nat.reduceLT, Nat.reduceEqDiff, Nat.reduceLeDiff, Nat.reduceSub, Nat.zero_add, Classical.not_not, ex_i, ex_l, ex_d, ex_r, ex_rs, ex_rn, ex_sm, Nat.sub_zero, eq_self, wn_sI, wn_sL, wn_sP, wsh_sI, wsh_sL, wsh_sP, wI_sL, wI_sP, wL_sI, wL_sP, wP_sI, wP_sL, wI_sI, wL_sL, Int32.reduceLT, Int32.reduceLE, true_implies, not_true_eq_false, false_implies, not_false_eq_true, i_10, z1, y2, so_n]
          exact fin _ _ (Xo.rf hx hW) (fun s' hB => hA.bt hx hB) (by rw [if_pos (Or.inr y1)])
        · have hw8 := hVw.n8
          have hn8 := hV.n8
          have hor : ¬ (s.1 6 u = 0 ∨ s.1 6 v = 0) := fun z => z.elim hVw.nz hV.nz
          have enw : (s.1 6 u).toNatClampNeg = nw := by rw [hVw.2.1, ni_cl (by omega)]
          have en1 : (s.1 6 v).toNatClampNeg = n1 := by rw [hV.2.1, ni_cl (by omega)]
          simp only [hor, if_false, pkAt, tkAt, enw, en1] at fin
          simp (disch := omega) only [vX11_trip_31, vX11_trip_32, vX11_trip_35, vX11_trip_37, vX11_trip_40, vX11_trip_42, vX11_trip_43, vX11_trip_44, vX11_trip_47, vX11_trip_48, vX11_trip_49, vX11_trip_52, xs_b hx, xs_0 hx, xs_obj hx, xs_packer hx, xp_x_5 hx, xs_slots hx, xp_x_0 hx, pI_c, pL_c, pF_c, pD_c, pA_n, pA_c, pA_rf, pR_c, pR_rf, pV_i, pV_a, pV_n, pV_rf, ldI_c, ldL_c, ldF_c, ldD_c, ldA_c, ldA_n, ldA_rf, dup2_l, dup2_ia, dup2_ir, popA_0, popA_s, getL_z, getL_s, setL_z, setL_1, setL_s, setL2_z, setL2_1, setL2_s, drop2_i, drop2_a, drop2_0, drop2_n, drop2_l, drop2_d, drop2_r, cwd_0, cwd_i, cwd_a, cwd_n, cwd_l, cwd_d, cwd_f, cwd_r, rf_s, rf_n, swi_0, swi_s, zR_b0, zR_b1, zN_b0, zN_b1, entV_i, entV_a, entV_n, entV_r, entV_f, entV_l, entV_d, entV_s, entV_0, List.length_cons, List.length_nil, List.nil_append, List.cons_append, true_and, and_true, Nat.reduceAdd, Nat.reduceLT, Nat.reduceEqDiff, Nat.reduceLeDiff, Nat.reduceSub, Nat.zero_add, Classical.not_not, ex_i, ex_l, ex_d, ex_r, ex_rs, ex_rn, ex_sm, Nat.sub_zero, eq_self, wn_sI, wn_sL, wn_sP, wsh_sI, wsh_sL, wsh_sP, wI_sL, wI_sP, wL_sI, wL_sP, wP_sI, wP_sL, wI_sI, wL_sL, Int32.reduceLT, Int32.reduceLE, true_implies, not_true_eq_false, false_implies, not_false_eq_true, i_10, na_1, nb_1, nm_1, ns_1, nr_1, na_2, nb_2, nm_2, ns_2, nr_2, na_3, nb_3, nm_3, ns_3, nr_3, na_4, nb_4, nm_4, ns_4, nr_4, na_5, nb_5, nm_5, ns_5, nr_5, na_6, nb_6, nm_6, ns_6, nr_6, na_7, nb_7, nm_7, ns_7, nr_7, na_8, nb_8, nm_8, ns_8, nr_8, na_10, nb_10, nm_10, ns_10, nr_10, na_16, nb_16, nm_16, ns_16, nr_16, nl_m1, ni_add, ni_mul, ni_sub, ni_cl, ni_in, vp_0, vp_1, vp_2, vp_3, vp_4, vp_5, Int32.reduceToNatClampNeg, z1, y1, so_n]
          refine X5_packs_ok (by omega) hx hC hA hVw (fun w1 e f1 q0 q1 q2 q3 => ?_) (fun w1 p' L f1 q0 q1 q2 => ?_)
          · simp only [vX11_trip_55, vX11_trip_58, vX11_trip_60, pI_c, pL_c, pF_c, pD_c, pA_n, pA_c, pA_rf, pR_c, pR_rf, pV_i, pV_a, pV_n, pV_rf, ldI_c, ldL_c, ldF_c, ldD_c, ldA_c, ldA_n, ldA_rf, dup2_l, dup2_ia, dup2_ir, popA_0, popA_s, getL_z, getL_s, setL_z, setL_1, setL_s, setL2_z, setL2_1, setL2_s, drop2_i, drop2_a, drop2_0, drop2_n, drop2_l, drop2_d, drop2_r, cwd_0, cwd_i, cwd_a, cwd_n, cwd_l, cwd_d, cwd_f, cwd_r, rf_s, rf_n, swi_0, swi_s, zR_b0, zR_b1, zN_b0, zN_b1, entV_i, entV_a, entV_n, entV_r, entV_f, entV_l, entV_d, entV_s, entV_0, List.length_cons, List.length_nil, List.nil_append, List.cons_append, true_and, and_true, Nat.reduceAdd, Nat.reduceLT, Nat.reduceEqDiff, Nat.reduceLeDiff, Nat.reduceSub, Nat.zero_add, Classical.not_not, ex_i, ex_l, ex_d, ex_r, ex_rs, ex_rn, ex_sm, Nat.sub_zero, eq_self, wn_sI, wn_sL, wn_sP, wsh_sI, wsh_sL, wsh_sP, wI_sL, wI_sP, wL_sI, wL_sP, wP_sI, wP_sL, wI_sI, wL_sL, Int32.reduceLT, Int32.reduceLE, true_implies, not_true_eq_false, false_implies, not_false_eq_true, i_10]
            have S1 : Sc x w w1 := f1.sc fun a j z => z
            refine fin _ _ (S1.xo hx hW) (fun s' hB => hA.ro hx (fun a ha _ => S1.2.2.1 a ha) hB) (by rw [q0])
          · have S1 : Sc x w w1 := f1.sc fun a j z => z
            have hI1 := hI.sc S1
            obtain ⟨hx1, hC1, hW1, hw1, hA1⟩ := id hI1
            have hl : L.length ≤ 1160 := by omega
            have eb : wI w1 (x + 7) 1 = nI (L.length + 1) := q1.1
            rw [q0] at fin
            simp only [] at fin
            obtain ⟨pq, p1, p2, -⟩ := pk_pres hw8 q0
            have hby : bys (p' :: L) := bys.cons ⟨pq, by
              have : 2 ^ nw ≤ 2 ^ 8 := Nat.pow_le_pow_right (by decide) hw8
              omega, p1⟩ (bys_pk hA hVw.2.2.1 (Nat.le_refl _) q0)
            have hat := bys_ats hby
            obtain ⟨q, r1, r2, r3, r4, r5⟩ := rdBody_rt hA.RW hVw.S q0 hat
            simp (disch := omega) only [vX11_trip_55, vX11_trip_61, vX11_trip_62, vX11_trip_65, vX11_trip_68, vX11_trip_70, vX11_trip_71, vX11_trip_74, vX11_trip_75, vX11_trip_77, vX11_trip_80, vX11_trip_81, vX11_trip_83, vX11_trip_86, xs_b hx1, xs_0 hx1, xs_obj hx1, xs_packer hx1, xp_x_5 hx1, xs_body hx1, xp_packer_0 hx1, xs_bytes hx1, xp_body_0 hx1, xs_seen hx1, xp_x_6 hx1, pI_c, pL_c, pF_c, pD_c, pA_n, pA_c, pA_rf, pR_c, pR_rf, pV_i, pV_a, pV_n, pV_rf, ldI_c, ldL_c, ldF_c, ldD_c, ldA_c, ldA_n, ldA_rf, dup2_l, dup2_ia, dup2_ir, popA_0, popA_s, getL_z, getL_s, setL_z, setL_1, setL_s, setL2_z, setL2_1, setL2_s, drop2_i, drop2_a, drop2_0, drop2_n, drop2_l, drop2_d, drop2_r, cwd_0, cwd_i, cwd_a, cwd_n, cwd_l, cwd_d, cwd_f, cwd_r, rf_s, rf_n, swi_0, swi_s, zR_b0, zR_b1, zN_b0, zN_b1, entV_i, entV_a, entV_n, entV_r, entV_f, entV_l, entV_d, entV_s, entV_0, List.length_cons, List.length_nil, List.nil_append, List.cons_append, true_and, and_true, Nat.reduceAdd, Nat.reduceLT, Nat.reduceEqDiff, Nat.reduceLeDiff, Nat.reduceSub, Nat.zero_add, Classical.not_not, ex_i, ex_l, ex_d, ex_r, ex_rs, ex_rn, ex_sm, Nat.sub_zero, eq_self, wn_sI, wn_sL, wn_sP, wsh_sI, wsh_sL, wsh_sP, wI_sL, wI_sP, wL_sI, wL_sP, wP_sI, wP_sL, wI_sI, wL_sL, Int32.reduceLT, Int32.reduceLE, true_implies, not_true_eq_false, false_implies, not_false_eq_true, i_10, na_1, nb_1, nm_1, ns_1, nr_1, na_2, nb_2, nm_2, ns_2, nr_2, na_3, nb_3, nm_3, ns_3, nr_3, na_4, nb_4, nm_4, ns_4, nr_4, na_5, nb_5, nm_5, ns_5, nr_5, na_6, nb_6, nm_6, ns_6, nr_6, na_7, nb_7, nm_7, ns_7, nr_7, na_8, nb_8, nm_8, ns_8, nr_8, na_10, nb_10, nm_10, ns_10, nr_10, na_16, nb_16, nm_16, ns_16, nr_16, nl_m1, ni_add, ni_mul, ni_sub, ni_cl, ni_in, vp_0, vp_1, vp_2, vp_3, vp_4, vp_5, Int32.reduceToNatClampNeg, i1, eb]
            rw [show (0 : Int32) = nI 0 from rfl]
            refine X2_reads_ok hx1 (Or.inr rfl) (xs_bytes hx1) (a := 0) (e := L.length + 1) (b := fun i => ((p' :: L)[i]?.getD 0).toNatClampNeg) (by omega) (by omega) (fun i hi => ?_) (Nat.zero_le _) (hVw.sc S1) (fun y w2 z _ _ => ?_) (fun p LL w2 z hp f2 _ P2 G2 => ?_)
            · have t1 := hat i (by rw [List.length_cons]; exact hi)
              have t2 := q1.2 i (by rw [List.length_cons]; exact hi)
              rw [Nat.zero_add] at t1 t2
              exact ⟨Option.some.inj (t2.symm.trans t1.1), t1.2⟩
            · rw [r5] at z
              cases z
            · rw [r5] at z
              cases z
              have S2 : Sc x w w2 := S1.tr (bP_sc.tr (f2.sc fun a j z => by unfold bdX at z; omega))
              have hI2 := hI.sc S2
              obtain ⟨hx2, hC2, hW2, hw2, hA2⟩ := id hI2
              have eb2 : wI w2 (x + 7) 1 = nI (L.length + 1) := by
                rw [f2.I _ _ (by unfold bdX; omega)]
                exact eb
              have go : ∀ lx, lx = s.1 0 5 → R g mX11_trip (fun r w' => ∃ i, r = some (.int i) ∧ K i w' (k - 1000) (n - 14000)) 116 [some (.ref x), some (.int (nI u)), some (.int (nI v)), some (.ref Aw), some (.ref Ar), some (.ref (x + 7))] [.int lx, .ref Ar, .ref Aw, .ref (x + 12), .ref (x + 34)] w2 1000 14000 := by
                intro lx elx
                subst elx
                simp (disch := omega) only [vX11_trip_116, xs_b hx2, xs_0 hx2, xs_obj hx2, xs_taker hx2, xp_x_7 hx2, xs_seen hx2, xp_x_6 hx2, pI_c, pL_c, pF_c, pD_c, pA_n, pA_c, pA_rf, pR_c, pR_rf, pV_i, pV_a, pV_n, pV_rf, ldI_c, ldL_c, ldF_c, ldD_c, ldA_c, ldA_n, ldA_rf, dup2_l, dup2_ia, dup2_ir, popA_0, popA_s, getL_z, getL_s, setL_z, setL_1, setL_s, setL2_z, setL2_1, setL2_s, drop2_i, drop2_a, drop2_0, drop2_n, drop2_l, drop2_d, drop2_r, cwd_0, cwd_i, cwd_a, cwd_n, cwd_l, cwd_d, cwd_f, cwd_r, rf_s, rf_n, swi_0, swi_s, zR_b0, zR_b1, zN_b0, zN_b1, entV_i, entV_a, entV_n, entV_r, entV_f, entV_l, entV_d, entV_s, entV_0, List.length_cons, List.length_nil, List.nil_append, List.cons_append, true_and, and_true, Nat.reduceAdd, Nat.reduceLT, Nat.reduceEqDiff, Nat.reduceLeDiff, Nat.reduceSub, Nat.zero_add, Classical.not_not, ex_i, ex_l, ex_d, ex_r, ex_rs, ex_rn, ex_sm, Nat.sub_zero, eq_self, wn_sI, wn_sL, wn_sP, wsh_sI, wsh_sL, wsh_sP, wI_sL, wI_sP, wL_sI, wL_sP, wP_sI, wP_sL, wI_sI, wL_sL, Int32.reduceLT, Int32.reduceLE, true_implies, not_true_eq_false, false_implies, not_false_eq_true, i_10]
                refine X9_takes_ok hx2 hC2 hW2 hw2 (hVw.sc S2) (hV.sc S2) P2 G2 (pkL_len _ _ _) r4 (pkL_ok hA.RW hVw.S q0) (by omega) (by omega) (fun f e y w3 t0 T3 t1 t2 t3 => ?_) (fun D w3 t0 T3 N3 D3 => ?_)
                · simp only [vX11_trip_119, vX11_trip_122, vX11_trip_124, pI_c, pL_c, pF_c, pD_c, pA_n, pA_c, pA_rf, pR_c, pR_rf, pV_i, pV_a, pV_n, pV_rf, ldI_c, ldL_c, ldF_c, ldD_c, ldA_c, ldA_n, ldA_rf, dup2_l, dup2_ia, dup2_ir, popA_0, popA_s, getL_z, getL_s, setL_z, setL_1, setL_s, setL2_z, setL2_1, setL2_s, drop2_i, drop2_a, drop2_0, drop2_n, drop2_l, drop2_d, drop2_r, cwd_0, cwd_i, cwd_a, cwd_n, cwd_l, cwd_d, cwd_f, cwd_r, rf_s, rf_n, swi_0, swi_s, zR_b0, zR_b1, zN_b0, zN_b1, entV_i, entV_a, entV_n, entV_r, entV_f, entV_l, entV_d, entV_s, entV_0, List.length_cons, List.length_nil, List.nil_append, List.cons_append, true_and, and_true, Nat.reduceAdd, Nat.reduceLT, Nat.reduceEqDiff, Nat.reduceLeDiff, Nat.reduceSub, Nat.zero_add, Classical.not_not, ex_i, ex_l, ex_d, ex_r, ex_rs, ex_rn, ex_sm, Nat.sub_zero, eq_self, wn_sI, wn_sL, wn_sP, wsh_sI, wsh_sL, wsh_sP, wI_sL, wI_sP, wL_sI, wL_sP, wP_sI, wP_sL, wI_sI, wL_sL, Int32.reduceLT, Int32.reduceLE, true_implies, not_true_eq_false, false_implies, not_false_eq_true, i_10]
                  have hA3 := (T3.ci hI2).2.2.2.2
                  refine fin _ _ ((S2.xo hx hW).tr (T3.xo hx2 hw2)) (fun s' hB => hA3.bt T3.2.2.1 hB) ?_
                  unfold FV at t0
                  rw [t0]
                · have hI3 := T3.ci hI2
                  obtain ⟨hx3, hC3, hW3, hw3, hA3⟩ := id hI3
                  have hX3 := (S2.xo hx hW).tr (T3.xo hx2 hw2)
                  have eb3 : wI w3 (x + 7) 1 = nI (L.length + 1) := by
                    rw [(T3.low hw2 (show x + 7 < x + 34 by omega)).2.1]
                    exact eb2
                  have fin3 : ∀ ans, ans = (if 249 < L.length then -4 else nI (trpN s v n1 D 8)) → K ans w3 (k - 1000) (n - 14000) := fun ans e => fin _ _ hX3 (fun s' hB => hA3.bt hx3 hB) (by
                    unfold FV at t0
                    rw [t0]
                    exact e)
                  have c250 : (nI (L.length + 1) ≤ 250) = (L.length + 1 ≤ 250) := ni_le (by omega) (by decide)
                  simp (disch := omega) only [vX11_trip_119, vX11_trip_125, vX11_trip_127, vX11_trip_130, vX11_trip_133, xs_b hx3, xs_0 hx3, xs_obj hx3, xs_body hx3, xp_packer_0 hx3, pI_c, pL_c, pF_c, pD_c, pA_n, pA_c, pA_rf, pR_c, pR_rf, pV_i, pV_a, pV_n, pV_rf, ldI_c, ldL_c, ldF_c, ldD_c, ldA_c, ldA_n, ldA_rf, dup2_l, dup2_ia, dup2_ir, popA_0, popA_s, getL_z, getL_s, setL_z, setL_1, setL_s, setL2_z, setL2_1, setL2_s, drop2_i, drop2_a, drop2_0, drop2_n, drop2_l, drop2_d, drop2_r, cwd_0, cwd_i, cwd_a, cwd_n, cwd_l, cwd_d, cwd_f, cwd_r, rf_s, rf_n, swi_0, swi_s, zR_b0, zR_b1, zN_b0, zN_b1, entV_i, entV_a, entV_n, entV_r, entV_f, entV_l, entV_d, entV_s, entV_0, List.length_cons, List.length_nil, List.nil_append, List.cons_append, true_and, and_true, Nat.reduceAdd, Nat.reduceLT, Nat.reduceEqDiff, Nat.reduceLeDiff, Nat.reduceSub, Nat.zero_add, Classical.not_not, ex_i, ex_l, ex_d, ex_r, ex_rs, ex_rn, ex_sm, Nat.sub_zero, eq_self, wn_sI, wn_sL, wn_sP, wsh_sI, wsh_sL, wsh_sP, wI_sL, wI_sP, wL_sI, wL_sP, wP_sI, wP_sL, wI_sI, wL_sL, Int32.reduceLT, Int32.reduceLE, true_implies, not_true_eq_false, false_implies, not_false_eq_true, i_10, i1, eb3]
                  refine ⟨fun z => ?_, fun z => ?_⟩
                  · rw [c250] at z
                    simp (disch := omega) only [vX11_trip_141, vX11_trip_142, vX11_trip_144, xs_b hx3, xs_0 hx3, xs_obj hx3, pI_c, pL_c, pF_c, pD_c, pA_n, pA_c, pA_rf, pR_c, pR_rf, pV_i, pV_a, pV_n, pV_rf, ldI_c, ldL_c, ldF_c, ldD_c, ldA_c, ldA_n, ldA_rf, dup2_l, dup2_ia, dup2_ir, popA_0, popA_s, getL_z, getL_s, setL_z, setL_1, setL_s, setL2_z, setL2_1, setL2_s, drop2_i, drop2_a, drop2_0, drop2_n, drop2_l, drop2_d, drop2_r, cwd_0, cwd_i, cwd_a, cwd_n, cwd_l, cwd_d, cwd_f, cwd_r, rf_s, rf_n, swi_0, swi_s, zR_b0, zR_b1, zN_b0, zN_b1, entV_i, entV_a, entV_n, entV_r, entV_f, entV_l, entV_d, entV_s, entV_0, List.length_cons, List.length_nil, List.nil_append, List.cons_append, true_and, and_true, Nat.reduceAdd, Nat.reduceLT, Nat.reduceEqDiff, Nat.reduceLeDiff, Nat.reduceSub, Nat.zero_add, Classical.not_not, ex_i, ex_l, ex_d, ex_r, ex_rs, ex_rn, ex_sm, Nat.sub_zero, eq_self, wn_sI, wn_sL, wn_sP, wsh_sI, wsh_sL, wsh_sP, wI_sL, wI_sP, wL_sI, wL_sP, wP_sI, wP_sL, wI_sI, wL_sL, Int32.reduceLT, Int32.reduceLE, true_implies, not_true_eq_false, false_implies, not_false_eq_true, i_10]
                    refine X11_cellsKept_ok hx3 hA3 (hV.sc S2 |> T3.ver hW2) N3 D3 ?_ ?_
                    · exact tk_ok (pkL_ok hA.RW hVw.S q0) (fun j _ hj => hV.2.2.1.2.1 j (by omega)) t0
                    · simp only [vX11_trip_147, pI_c, pL_c, pF_c, pD_c, pA_n, pA_c, pA_rf, pR_c, pR_rf, pV_i, pV_a, pV_n, pV_rf, ldI_c, ldL_c, ldF_c, ldD_c, ldA_c, ldA_n, ldA_rf, dup2_l, dup2_ia, dup2_ir, popA_0, popA_s, getL_z, getL_s, setL_z, setL_1, setL_s, setL2_z, setL2_1, setL2_s, drop2_i, drop2_a, drop2_0, drop2_n, drop2_l, drop2_d, drop2_r, cwd_0, cwd_i, cwd_a, cwd_n, cwd_l, cwd_d, cwd_f, cwd_r, rf_s, rf_n, swi_0, swi_s, zR_b0, zR_b1, zN_b0, zN_b1, entV_i, entV_a, entV_n, entV_r, entV_f, entV_l, entV_d, entV_s, entV_0, List.length_cons, List.length_nil, List.nil_append, List.cons_append, true_and, and_true, Nat.reduceAdd, Nat.reduceLT, Nat.reduceEqDiff, Nat.reduceLeDiff, Nat.reduceSub, Nat.zero_add, Classical.not_not, ex_i, ex_l, ex_d, ex_r, ex_rs, ex_rn, ex_sm, Nat.sub_zero, eq_self, wn_sI, wn_sL, wn_sP, wsh_sI, wsh_sL, wsh_sP, wI_sL, wI_sP, wL_sI, wL_sP, wP_sI, wP_sL, wI_sI, wL_sL, Int32.reduceLT, Int32.reduceLE, true_implies, not_true_eq_false, false_implies, not_false_eq_true, i_10]
                      exact fin3 _ (by rw [if_neg (by omega)])
                  · rw [c250] at z
                    simp only [vX11_trip_136, vX11_trip_138, vX11_trip_147, pI_c, pL_c, pF_c, pD_c, pA_n, pA_c, pA_rf, pR_c, pR_rf, pV_i, pV_a, pV_n, pV_rf, ldI_c, ldL_c, ldF_c, ldD_c, ldA_c, ldA_n, ldA_rf, dup2_l, dup2_ia, dup2_ir, popA_0, popA_s, getL_z, getL_s, setL_z, setL_1, setL_s, setL2_z, setL2_1, setL2_s, drop2_i, drop2_a, drop2_0, drop2_n, drop2_l, drop2_d, drop2_r, cwd_0, cwd_i, cwd_a, cwd_n, cwd_l, cwd_d, cwd_f, cwd_r, rf_s, rf_n, swi_0, swi_s, zR_b0, zR_b1, zN_b0, zN_b1, entV_i, entV_a, entV_n, entV_r, entV_f, entV_l, entV_d, entV_s, entV_0, List.length_cons, List.length_nil, List.nil_append, List.cons_append, true_and, and_true, Nat.reduceAdd, Nat.reduceLT, Nat.reduceEqDiff, Nat.reduceLeDiff, Nat.reduceSub, Nat.zero_add, Classical.not_not, ex_i, ex_l, ex_d, ex_r, ex_rs, ex_rn, ex_sm, Nat.sub_zero, eq_self, wn_sI, wn_sL, wn_sP, wsh_sI, wsh_sL, wsh_sP, wI_sL, wI_sP, wL_sI, wL_sP, wP_sI, wP_sL, wI_sI, wL_sL, Int32.reduceLT, Int32.reduceLE, true_implies, not_true_eq_false, false_implies, not_false_eq_true, i_10]
                    exact fin3 _ (by rw [if_pos (by omega)])
              rcases lax_eq hA2.lax with ⟨lx1, lx2⟩ | ⟨lx1, lx2⟩
              · have := go 1 lx2.symm
                simp (disch := omega) only [vX11_trip_89, vX11_trip_92, vX11_trip_93, vX11_trip_96, vX11_trip_97, vX11_trip_100, vX11_trip_101, vX11_trip_103, vX11_trip_104, vX11_trip_107, vX11_trip_108, vX11_trip_111, vX11_trip_112, xs_b hx2, xs_0 hx2, xs_obj hx2, xs_taker hx2, xp_x_7 hx2, xs_seen hx2, xp_x_6 hx2, pI_c, pL_c, pF_c, pD_c, pA_n, pA_c, pA_rf, pR_c, pR_rf, pV_i, pV_a, pV_n, pV_rf, ldI_c, ldL_c, ldF_c, ldD_c, ldA_c, ldA_n, ldA_rf, dup2_l, dup2_ia, dup2_ir, popA_0, popA_s, getL_z, getL_s, setL_z, setL_1, setL_s, setL2_z, setL2_1, setL2_s, drop2_i, drop2_a, drop2_0, drop2_n, drop2_l, drop2_d, drop2_r, cwd_0, cwd_i, cwd_a, cwd_n, cwd_l, cwd_d, cwd_f, cwd_r, rf_s, rf_n, swi_0, swi_s, zR_b0, zR_b1, zN_b0, zN_b1, entV_i, entV_a, entV_n, entV_r, entV_f, entV_l, entV_d, entV_s, entV_0, List.length_cons, List.length_nil, List.nil_append, List.cons_append, true_and, and_true, Nat.reduceAdd, Nat.reduceLT, Nat.reduceEqDiff, Nat.reduceLeDiff, Nat.reduceSub, Nat.zero_add, Classical.not_not, ex_i, ex_l, ex_d, ex_r, ex_rs, ex_rn, ex_sm, Nat.sub_zero, eq_self, wn_sI, wn_sL, wn_sP, wsh_sI, wsh_sL, wsh_sP, wI_sL, wI_sP, wL_sI, wL_sP, wP_sI, wP_sL, wI_sI, wL_sL, Int32.reduceLT, Int32.reduceLE, true_implies, not_true_eq_false, false_implies, not_false_eq_true, i_10, na_1, nb_1, nm_1, ns_1, nr_1, na_2, nb_2, nm_2, ns_2, nr_2, na_3, nb_3, nm_3, ns_3, nr_3, na_4, nb_4, nm_4, ns_4, nr_4, na_5, nb_5, nm_5, ns_5, nr_5, na_6, nb_6, nm_6, ns_6, nr_6, na_7, nb_7, nm_7, ns_7, nr_7, na_8, nb_8, nm_8, ns_8, nr_8, na_10, nb_10, nm_10, ns_10, nr_10, na_16, nb_16, nm_16, ns_16, nr_16, nl_m1, ni_add, ni_mul, ni_sub, ni_cl, ni_in, vp_0, vp_1, vp_2, vp_3, vp_4, vp_5, Int32.reduceToNatClampNeg, i1, lx1]
                exact this
              · have := go 0 lx2.symm
                simp (disch := omega) only [vX11_trip_89, vX11_trip_92, vX11_trip_93, vX11_trip_96, vX11_trip_97, vX11_trip_100, vX11_trip_101, vX11_trip_103, vX11_trip_104, vX11_trip_107, vX11_trip_108, vX11_trip_115, xs_b hx2, xs_0 hx2, xs_obj hx2, xs_taker hx2, xp_x_7 hx2, xs_seen hx2, xp_x_6 hx2, pI_c, pL_c, pF_c, pD_c, pA_n, pA_c, pA_rf, pR_c, pR_rf, pV_i, pV_a, pV_n, pV_rf, ldI_c, ldL_c, ldF_c, ldD_c, ldA_c, ldA_n, ldA_rf, dup2_l, dup2_ia, dup2_ir, popA_0, popA_s, getL_z, getL_s, setL_z, setL_1, setL_s, setL2_z, setL2_1, setL2_s, drop2_i, drop2_a, drop2_0, drop2_n, drop2_l, drop2_d, drop2_r, cwd_0, cwd_i, cwd_a, cwd_n, cwd_l, cwd_d, cwd_f, cwd_r, rf_s, rf_n, swi_0, swi_s, zR_b0, zR_b1, zN_b0, zN_b1, entV_i, entV_a, entV_n, entV_r, entV_f, entV_l, entV_d, entV_s, entV_0, List.length_cons, List.length_nil, List.nil_append, List.cons_append, true_and, and_true, Nat.reduceAdd, Nat.reduceLT, Nat.reduceEqDiff, Nat.reduceLeDiff, Nat.reduceSub, Nat.zero_add, Classical.not_not, ex_i, ex_l, ex_d, ex_r, ex_rs, ex_rn, ex_sm, Nat.sub_zero, eq_self, wn_sI, wn_sL, wn_sP, wsh_sI, wsh_sL, wsh_sP, wI_sL, wI_sP, wL_sI, wL_sP, wP_sI, wP_sL, wI_sI, wL_sL, Int32.reduceLT, Int32.reduceLE, true_implies, not_true_eq_false, false_implies, not_false_eq_true, i_10, na_1, nb_1, nm_1, ns_1, nr_1, na_2, nb_2, nm_2, ns_2, nr_2, na_3, nb_3, nm_3, ns_3, nr_3, na_4, nb_4, nm_4, ns_4, nr_4, na_5, nb_5, nm_5, ns_5, nr_5, na_6, nb_6, nm_6, ns_6, nr_6, na_7, nb_7, nm_7, ns_7, nr_7, na_8, nb_8, nm_8, ns_8, nr_8, na_10, nb_10, nm_10, ns_10, nr_10, na_16, nb_16, nm_16, ns_16, nr_16, nl_m1, ni_add, ni_mul, ni_sub, ni_cl, ni_in, vp_0, vp_1, vp_2, vp_3, vp_4, vp_5, Int32.reduceToNatClampNeg, i1, lx1]
                exact this
    · simp only [b2i_f hb, vX11_trip_11, vX11_trip_14, vX11_trip_15, pI_c, pL_c, pF_c, pD_c, pA_n, pA_c, pA_rf, pR_c, pR_rf, pV_i, pV_a, pV_n, pV_rf, ldI_c, ldL_c, ldF_c, ldD_c, ldA_c, ldA_n, ldA_rf, dup2_l, dup2_ia, dup2_ir, popA_0, popA_s, getL_z, getL_s, setL_z, setL_1, setL_s, setL2_z, setL2_1, setL2_s, drop2_i, drop2_a, drop2_0, drop2_n, drop2_l, drop2_d, drop2_r, cwd_0, cwd_i, cwd_a, cwd_n, cwd_l, cwd_d, cwd_f, cwd_r, rf_s, rf_n, swi_0, swi_s, zR_b0, zR_b1, zN_b0, zN_b1, entV_i, entV_a, entV_n, entV_r, entV_f, entV_l, entV_d, entV_s, entV_0, List.length_cons, List.length_nil, List.nil_append, List.cons_append, true_and, and_true, Nat.reduceAdd, Nat.reduceLT, Nat.reduceEqDiff, Nat.reduceLeDiff, Nat.reduceSub, Nat.zero_add, Classical.not_not, ex_i, ex_l, ex_d, ex_r, ex_rs, ex_rn, ex_sm, Nat.sub_zero, eq_self, wn_sI, wn_sL, wn_sP, wsh_sI, wsh_sL, wsh_sP, wI_sL, wI_sP, wL_sI, wL_sP, wP_sI, wP_sL, wI_sI, wL_sL, Int32.reduceLT, Int32.reduceLE, true_implies, not_true_eq_false, false_implies, not_false_eq_true, i_10]
      refine SpNo hI h fun c s' z => ?_
      unfold SpTrip at z
      rw [if_pos fun y => hb y.2] at z
      exact z
  · simp only [b2i_f ha, vX11_trip_4, vX11_trip_14, vX11_trip_15, pI_c, pL_c, pF_c, pD_c, pA_n, pA_c, pA_rf, pR_c, pR_rf, pV_i, pV_a, pV_n, pV_rf, ldI_c, ldL_c, ldF_c, ldD_c, ldA_c, ldA_n, ldA_rf, dup2_l, dup2_ia, dup2_ir, popA_0, popA_s, getL_z, getL_s, setL_z, setL_1, setL_s, setL2_z, setL2_1, setL2_s, drop2_i, drop2_a, drop2_0, drop2_n, drop2_l, drop2_d, drop2_r, cwd_0, cwd_i, cwd_a, cwd_n, cwd_l, cwd_d, cwd_f, cwd_r, rf_s, rf_n, swi_0, swi_s, zR_b0, zR_b1, zN_b0, zN_b1, entV_i, entV_a, entV_n, entV_r, entV_f, entV_l, entV_d, entV_s, entV_0, List.length_cons, List.length_nil, List.nil_append, List.cons_append, true_and, and_true, Nat.reduceAdd, Nat.reduceLT, Nat.reduceEqDiff, Nat.reduceLeDiff, Nat.reduceSub, Nat.zero_add, Classical.not_not, ex_i, ex_l, ex_d, ex_r, ex_rs, ex_rn, ex_sm, Nat.sub_zero, eq_self, wn_sI, wn_sL, wn_sP, wsh_sI, wsh_sL, wsh_sP, wI_sL, wI_sP, wL_sI, wL_sP, wP_sI, wP_sL, wI_sI, wL_sL, Int32.reduceLT, Int32.reduceLE, true_implies, not_true_eq_false, false_implies, not_false_eq_true, i_10]
    refine SpNo hI h fun c s' z => ?_
    unfold SpTrip at z
    rw [if_pos fun y => ha y.1] at z
    exact z
