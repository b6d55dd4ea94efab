/-! the class: bytes, smallest -/
def fsV (s : St) (v : Nat) : Int32 := match pkAt s v with
  | .inl _ => -20
  | .inr (_, L) => if 249 < L.length then -4 else nI (L.length + 5)
theorem pkX.cn {g : Ge} {x : Nat} {w w' : Wd} (hx : XS g x w) (hC : Cn g w) (hf : Fr (pkX x) w w') : Cn g w' := hC.fr hf fun a j ha z => by unfold pkX at z; have := hx.1; omega
set_option maxRecDepth 100000 in
set_option maxHeartbeats 4000000 in
theorem X11_frameSize_ok {g : Ge} {w : Wd} {k n : Nat} {K : Int32 → Wd → Nat → Nat → Prop} {x p c nn v : Nat} {s : St} (hv : v < 6) (hx : XS g x w) (hC : Cn g w) (hA : AbsX x w s) (hV : VerO (x + 81) w p c nn v s) (h : ∀ w', Fr (pkX x) w w' → K (fsV s v) w' k n) : cI g mX11_frameSize [.ref x, .ref p] w k n K := by
  have hn8 := hV.n8
  have en : (s.1 6 v).toNatClampNeg = nn := by rw [hV.2.1, ni_cl (by omega)]
  unfold fsV pkAt at h
  rw [en] at h
  refine cI_of 3 0 0 rfl (by decide +kernel) rfl (Nat.le_of_ble_eq_true rfl) (Nat.zero_le _) (Nat.zero_le _) ?_
  simp (disch := omega) only [vX11_frameSize_0, vX11_frameSize_1, vX11_frameSize_4, vX11_frameSize_5, vX11_frameSize_6, vX11_frameSize_9, xs_b hx, xs_0 hx, xs_obj hx, xs_packer hx, xp_x_5 hx, xs_slots hx, xp_x_0 hx, pI_c, pL_c, pF_c, pD_c, pA_n, pA_c, pA_rf, pR_c, pR_rf, pV_i, pV_a, pV_n, pV_rf, ldI_c, ldL_c, ldF_c, ldD_c, ldA_c, ldA_n, ldA_rf, dup2_l, dup2_ia, dup2_ir, popA_0, popA_s, getL_z, getL_s, setL_z, setL_1, setL_s, setL2_z, setL2_1, setL2_s, drop2_i, drop2_a, drop2_0, drop2_n, drop2_l, drop2_d, drop2_r, cwd_0, cwd_i, cwd_a, cwd_n, cwd_l, cwd_d, cwd_f, cwd_r, rf_s, rf_n, swi_0, swi_s, zR_b0, zR_b1, zN_b0, zN_b1, entV_i, entV_a, entV_n, entV_r, entV_f, entV_l, entV_d, entV_s, entV_0, List.length_cons, List.length_nil, List.nil_append, List.cons_append, true_and, and_true, Nat.reduceAdd, Nat.reduceLT, Nat.reduceEqDiff, Nat.reduceLeDiff, Nat.reduceSub, Nat.zero_add, Classical.not_not, ex_i, ex_l, ex_d, ex_r, ex_rs, ex_rn, ex_sm, Nat.sub_zero, eq_self, wn_sI, wn_sL, wn_sP, wsh_sI, wsh_sL, wsh_sP, wI_sL, wI_sP, wL_sI, wL_sP, wP_sI, wP_sL, wI_sI, wL_sL, Int32.reduceLT, Int32.reduceLE, true_implies, not_true_eq_false, false_implies, not_false_eq_true, i_10, na_1, nb_1, nm_1, ns_1, nr_1, na_2, nb_2, nm_2, ns_2, nr_2, na_3, nb_3, nm_3, ns_3, nr_3, na_4, nb_4, nm_4, ns_4, nr_4, na_5, nb_5, nm_5, ns_5, nr_5, na_6, nb_6, nm_6, ns_6, nr_6, na_7, nb_7, nm_7, ns_7, nr_7, na_8, nb_8, nm_8, ns_8, nr_8, na_10, nb_10, nm_10, ns_10, nr_10, na_16, nb_16, nm_16, ns_16, nr_16, nl_m1, ni_add, ni_mul, ni_sub, ni_cl, ni_in, vp_0, vp_1, vp_2, vp_3, vp_4, vp_5, Int32.reduceToNatClampNeg]
  refine X5_packs_ok hv hx hC hA hV (fun w' e f1 q q1 q2 q3 => ?_) (fun w' p' L f1 q q1 q2 => ?_)
  · simp only [q] at h
    simp (disch := omega) only [vX11_frameSize_12, vX11_frameSize_15, vX11_frameSize_17, pI_c, pL_c, pF_c, pD_c, pA_n, pA_c, pA_rf, pR_c, pR_rf, pV_i, pV_a, pV_n, pV_rf, ldI_c, ldL_c, ldF_c, ldD_c, ldA_c, ldA_n, ldA_rf, dup2_l, dup2_ia, dup2_ir, popA_0, popA_s, getL_z, getL_s, setL_z, setL_1, setL_s, setL2_z, setL2_1, setL2_s, drop2_i, drop2_a, drop2_0, drop2_n, drop2_l, drop2_d, drop2_r, cwd_0, cwd_i, cwd_a, cwd_n, cwd_l, cwd_d, cwd_f, cwd_r, rf_s, rf_n, swi_0, swi_s, zR_b0, zR_b1, zN_b0, zN_b1, entV_i, entV_a, entV_n, entV_r, entV_f, entV_l, entV_d, entV_s, entV_0, List.length_cons, List.length_nil, List.nil_append, List.cons_append, true_and, and_true, Nat.reduceAdd, Nat.reduceLT, Nat.reduceEqDiff, Nat.reduceLeDiff, Nat.reduceSub, Nat.zero_add, Classical.not_not, ex_i, ex_l, ex_d, ex_r, ex_rs, ex_rn, ex_sm, Nat.sub_zero, eq_self, wn_sI, wn_sL, wn_sP, wsh_sI, wsh_sL, wsh_sP, wI_sL, wI_sP, wL_sI, wL_sP, wP_sI, wP_sL, wI_sI, wL_sL, Int32.reduceLT, Int32.reduceLE, true_implies, not_true_eq_false, false_implies, not_false_eq_true, i_10]
    exact h w' f1
  · simp only [q] at h
    have hx' := hx.fr f1
    have i1 : ¬ (1 : Int32) = 0 := by decide
    have e1 : wI w' (x + 7) 1 = nI (L.length + 1) := q1.1
    have hl : L.length ≤ 1160 := by omega
    simp (disch := omega) only [vX11_frameSize_12, vX11_frameSize_18, vX11_frameSize_19, vX11_frameSize_22, vX11_frameSize_25, vX11_frameSize_28, vX11_frameSize_29, vX11_frameSize_30, vX11_frameSize_33, vX11_frameSize_36, vX11_frameSize_38, vX11_frameSize_41, vX11_frameSize_42, vX11_frameSize_43, vX11_frameSize_44, xs_b hx', xs_0 hx', xs_obj hx', xs_packer hx', xp_x_5 hx', xs_body hx', xp_packer_0 hx', pI_c, pL_c, pF_c, pD_c, pA_n, pA_c, pA_rf, pR_c, pR_rf, pV_i, pV_a, pV_n, pV_rf, ldI_c, ldL_c, ldF_c, ldD_c, ldA_c, ldA_n, ldA_rf, dup2_l, dup2_ia, dup2_ir, popA_0, popA_s, getL_z, getL_s, setL_z, setL_1, setL_s, setL2_z, setL2_1, setL2_s, drop2_i, drop2_a, drop2_0, drop2_n, drop2_l, drop2_d, drop2_r, cwd_0, cwd_i, cwd_a, cwd_n, cwd_l, cwd_d, cwd_f, cwd_r, rf_s, rf_n, swi_0, swi_s, zR_b0, zR_b1, zN_b0, zN_b1, entV_i, entV_a, entV_n, entV_r, entV_f, entV_l, entV_d, entV_s, entV_0, List.length_cons, List.length_nil, List.nil_append, List.cons_append, true_and, and_true, Nat.reduceAdd, Nat.reduceLT, Nat.reduceEqDiff, Nat.reduceLeDiff, Nat.reduceSub, Nat.zero_add, Classical.not_not, ex_i, ex_l, ex_d, ex_r, ex_rs, ex_rn, ex_sm, Nat.sub_zero, eq_self, wn_sI, wn_sL, wn_sP, wsh_sI, wsh_sL, wsh_sP, wI_sL, wI_sP, wL_sI, wL_sP, wP_sI, wP_sL, wI_sI, wL_sL, Int32.reduceLT, Int32.reduceLE, true_implies, not_true_eq_false, false_implies, not_false_eq_true, i_10, na_1, nb_1, nm_1, ns_1, nr_1, na_2, nb_2, nm_2, ns_2, nr_2, na_3, nb_3, nm_3, ns_3, nr_3, na_4, nb_4, nm_4, ns_4, nr_4, na_5, nb_5, nm_5, ns_5, nr_5, na_6, nb_6, nm_6, ns_6, nr_6, na_7, nb_7, nm_7, ns_7, nr_7, na_8, nb_8, nm_8, ns_8, nr_8, na_10, nb_10, nm_10, ns_10, nr_10, na_16, nb_16, nm_16, ns_16, nr_16, nl_m1, ni_add, ni_mul, ni_sub, ni_cl, ni_in, vp_0, vp_1, vp_2, vp_3, vp_4, vp_5, Int32.reduceToNatClampNeg, e1, i1]
    have c250 : (nI (L.length + 1) ≤ 250) = (L.length + 1 ≤ 250) := ni_le (by omega) (by decide)
    refine ⟨fun z => ?_, fun z => ?_⟩
    · rw [c250] at z
      have := h w' f1
      rw [if_neg (by omega)] at this
      exact this
    · rw [c250] at z
      have := h w' f1
      rw [if_pos (by omega)] at this
      exact this
theorem pkX.sc {x : Nat} {w w' : Wd} (hf : Fr (pkX x) w w') : Fr (fun a _ => x + 6 ≤ a ∧ a ≤ x + 35) w w' := hf.mo fun p j z => z
set_option maxRecDepth 100000 in
set_option maxHeartbeats 4000000 in
theorem X_bytes {g : Ge} {w : Wd} {k n : Nat} {K : Int32 → Wd → Nat → Nat → Prop} {x : Nat} {s : St} (hI : CI g x w s) (hk : 1000 ≤ k) (hn : 14000 ≤ n) (a : Int32) (h : ∀ ans w', Xo g x w w' → (∀ b s', SpBytes s a b s' → b = ans ∧ AbsX x w' s') → K ans w' (k - 1000) (n - 14000)) : cI g mX11_bytes [.ref x, .int a] w k n K := by
  obtain ⟨hx, hC, hW, hw, hA⟩ := id hI
  refine cI_of 3 1000 14000 rfl (by decide +kernel) rfl (Nat.le_of_ble_eq_true rfl) hk hn ?_
  simp only [vX11_bytes_0, vX11_bytes_1, vX11_bytes_2, xs_b hx, xs_0 hx, xs_obj hx, pI_c, pL_c, pF_c, pD_c, pA_n, pA_c, pA_rf, pR_c, pR_rf, pV_i, pV_a, pV_n, pV_rf, ldI_c, ldL_c, ldF_c, ldD_c, ldA_c, ldA_n, ldA_rf, dup2_l, dup2_ia, dup2_ir, popA_0, popA_s, getL_z, getL_s, setL_z, setL_1, setL_s, setL2_z, setL2_1, setL2_s, drop2_i, drop2_a, drop2_0, drop2_n, drop2_l, drop2_d, drop2_r, cwd_0, cwd_i, cwd_a, cwd_n, cwd_l, cwd_d, cwd_f, cwd_r, rf_s, rf_n, swi_0, swi_s, zR_b0, zR_b1, zN_b0, zN_b1, entV_i, entV_a, entV_n, entV_r, entV_f, entV_l, entV_d, entV_s, entV_0, List.length_cons, List.length_nil, List.nil_append, List.cons_append, true_and, and_true, Nat.reduceAdd, Nat.reduceLT, Nat.reduceEqDiff, Nat.reduceLeDiff, Nat.reduceSub, Nat.zero_add, Classical.not_not, ex_i, ex_l, ex_d, ex_r, ex_rs, ex_rn, ex_sm, Nat.sub_zero, eq_self, wn_sI, wn_sL, wn_sP, wsh_sI, wsh_sL, wsh_sP, wI_sL, wI_sP, wL_sI, wL_sP, wP_sI, wP_sL, wI_sI, wL_sL, Int32.reduceLT, Int32.reduceLE, true_implies, not_true_eq_false, false_implies, not_false_eq_true, i_10]
  refine X11_lackOf_ok hx hA a ?_
  by_cases q : lackV s a = 0
  · rw [q]
    obtain ⟨v, hv, rfl, hv0⟩ := lackV_0 q
    have ha : 0 ≤ nI v ∧ nI v ≤ 5 := by
      rw [show (0 : Int32) = nI 0 from rfl, show (5 : Int32) = nI 5 from rfl, ni_le (by omega) (by omega), ni_le (by omega) (by omega)]
      omega
    rcases hA.ver hv with ⟨z1, z2⟩ | ⟨p, c, nn, z1, hV⟩
    · exact absurd z1 hv0
    · simp (disch := omega) only [vX11_bytes_5, vX11_bytes_6, vX11_bytes_7, vX11_bytes_14, vX11_bytes_15, vX11_bytes_16, vX11_bytes_19, vX11_bytes_20, vX11_bytes_21, xs_b hx, xs_0 hx, xs_obj hx, xs_versions hx, xp_x_1 hx, pI_c, pL_c, pF_c, pD_c, pA_n, pA_c, pA_rf, pR_c, pR_rf, pV_i, pV_a, pV_n, pV_rf, ldI_c, ldL_c, ldF_c, ldD_c, ldA_c, ldA_n, ldA_rf, dup2_l, dup2_ia, dup2_ir, popA_0, popA_s, getL_z, getL_s, setL_z, setL_1, setL_s, setL2_z, setL2_1, setL2_s, drop2_i, drop2_a, drop2_0, drop2_n, drop2_l, drop2_d, drop2_r, cwd_0, cwd_i, cwd_a, cwd_n, cwd_l, cwd_d, cwd_f, cwd_r, rf_s, rf_n, swi_0, swi_s, zR_b0, zR_b1, zN_b0, zN_b1, entV_i, entV_a, entV_n, entV_r, entV_f, entV_l, entV_d, entV_s, entV_0, List.length_cons, List.length_nil, List.nil_append, List.cons_append, true_and, and_true, Nat.reduceAdd, Nat.reduceLT, Nat.reduceEqDiff, Nat.reduceLeDiff, Nat.reduceSub, Nat.zero_add, Classical.not_not, ex_i, ex_l, ex_d, ex_r, ex_rs, ex_rn, ex_sm, Nat.sub_zero, eq_self, wn_sI, wn_sL, wn_sP, wsh_sI, wsh_sL, wsh_sP, wI_sL, wI_sP, wL_sI, wL_sP, wP_sI, wP_sL, wI_sI, wL_sL, Int32.reduceLT, Int32.reduceLE, true_implies, not_true_eq_false, false_implies, not_false_eq_true, i_10, na_1, nb_1, nm_1, ns_1, nr_1, na_2, nb_2, nm_2, ns_2, nr_2, na_3, nb_3, nm_3, ns_3, nr_3, na_4, nb_4, nm_4, ns_4, nr_4, na_5, nb_5, nm_5, ns_5, nr_5, na_6, nb_6, nm_6, ns_6, nr_6, na_7, nb_7, nm_7, ns_7, nr_7, na_8, nb_8, nm_8, ns_8, nr_8, na_10, nb_10, nm_10, ns_10, nr_10, na_16, nb_16, nm_16, ns_16, nr_16, nl_m1, ni_add, ni_mul, ni_sub, ni_cl, ni_in, vp_0, vp_1, vp_2, vp_3, vp_4, vp_5, Int32.reduceToNatClampNeg, z1]
      refine X11_frameSize_ok hv hx hC hA hV fun w' f1 => ?_
      simp (disch := omega) only [vX11_bytes_24, pI_c, pL_c, pF_c, pD_c, pA_n, pA_c, pA_rf, pR_c, pR_rf, pV_i, pV_a, pV_n, pV_rf, ldI_c, ldL_c, ldF_c, ldD_c, ldA_c, ldA_n, ldA_rf, dup2_l, dup2_ia, dup2_ir, popA_0, popA_s, getL_z, getL_s, setL_z, setL_1, setL_s, setL2_z, setL2_1, setL2_s, drop2_i, drop2_a, drop2_0, drop2_n, drop2_l, drop2_d, drop2_r, cwd_0, cwd_i, cwd_a, cwd_n, cwd_l, cwd_d, cwd_f, cwd_r, rf_s, rf_n, swi_0, swi_s, zR_b0, zR_b1, zN_b0, zN_b1, entV_i, entV_a, entV_n, entV_r, entV_f, entV_l, entV_d, entV_s, entV_0, List.length_cons, List.length_nil, List.nil_append, List.cons_append, true_and, and_true, Nat.reduceAdd, Nat.reduceLT, Nat.reduceEqDiff, Nat.reduceLeDiff, Nat.reduceSub, Nat.zero_add, Classical.not_not, ex_i, ex_l, ex_d, ex_r, ex_rs, ex_rn, ex_sm, Nat.sub_zero, eq_self, wn_sI, wn_sL, wn_sP, wsh_sI, wsh_sL, wsh_sP, wI_sL, wI_sP, wL_sI, wL_sP, wP_sI, wP_sL, wI_sI, wL_sL, Int32.reduceLT, Int32.reduceLE, true_implies, not_true_eq_false, false_implies, not_false_eq_true, i_10]
      refine scr_end hI (pkX.sc f1) h fun b s' z => ?_
      unfold SpBytes at z
      rw [if_neg (not_not_intro ha), ni_cl (by omega), if_neg hv0] at z
      exact z
  · simp only [vX11_bytes_5, vX11_bytes_6, vX11_bytes_7, vX11_bytes_10, vX11_bytes_11, vX11_bytes_24, xs_b hx, xs_0 hx, xs_obj hx, pI_c, pL_c, pF_c, pD_c, pA_n, pA_c, pA_rf, pR_c, pR_rf, pV_i, pV_a, pV_n, pV_rf, ldI_c, ldL_c, ldF_c, ldD_c, ldA_c, ldA_n, ldA_rf, dup2_l, dup2_ia, dup2_ir, popA_0, popA_s, getL_z, getL_s, setL_z, setL_1, setL_s, setL2_z, setL2_1, setL2_s, drop2_i, drop2_a, drop2_0, drop2_n, drop2_l, drop2_d, drop2_r, cwd_0, cwd_i, cwd_a, cwd_n, cwd_l, cwd_d, cwd_f, cwd_r, rf_s, rf_n, swi_0, swi_s, zR_b0, zR_b1, zN_b0, zN_b1, entV_i, entV_a, entV_n, entV_r, entV_f, entV_l, entV_d, entV_s, entV_0, List.length_cons, List.length_nil, List.nil_append, List.cons_append, true_and, and_true, Nat.reduceAdd, Nat.reduceLT, Nat.reduceEqDiff, Nat.reduceLeDiff, Nat.reduceSub, Nat.zero_add, Classical.not_not, ex_i, ex_l, ex_d, ex_r, ex_rs, ex_rn, ex_sm, Nat.sub_zero, eq_self, wn_sI, wn_sL, wn_sP, wsh_sI, wsh_sL, wsh_sP, wI_sL, wI_sP, wL_sI, wL_sP, wP_sI, wP_sL, wI_sI, wL_sL, Int32.reduceLT, Int32.reduceLE, true_implies, not_true_eq_false, false_implies, not_false_eq_true, i_10, q]
    refine SpNo hI h fun b s' z => ?_
    unfold SpBytes at z
    unfold lackV at q ⊢
    by_cases ha : 0 ≤ a ∧ a ≤ 5
    · rw [if_neg (not_not_intro ha)] at z q ⊢
      by_cases q3 : s.1 6 a.toNatClampNeg = 0
      · rw [if_pos q3] at z ⊢
        exact z
      · rw [if_neg q3] at q
        exact absurd rfl q
    · rw [if_pos ha] at z ⊢
      exact z
def smS (o : Option Nat × Nat) : Int32 := match o.1 with
  | none => 0
  | some _ => nI (o.2 + 5)
theorem smlst_c (s : St) : ∀ v, ((smlst s v).1 = none ∧ (smlst s v).2 = 250) ∨ ∃ u, u < v ∧ (smlst s v).1 = some u ∧ (smlst s v).2 ≤ 249
  | 0 => Or.inl ⟨rfl, rfl⟩
  | v + 1 => by
    have ih := smlst_c s v
    have keep : ((smlst s v).1 = none ∧ (smlst s v).2 = 250) ∨ ∃ u, u < v + 1 ∧ (smlst s v).1 = some u ∧ (smlst s v).2 ≤ 249 := ih.imp id fun ⟨u, h1, h2, h3⟩ => ⟨u, by omega, h2, h3⟩
    have le := smlst_le s v
    unfold smlst
    split
    · exact keep
    · split
      · exact keep
      · split
        · exact Or.inr ⟨v, by omega, rfl, by show _ ≤ 249; omega⟩
        · exact keep
