/-! the reference: how a field's numbers would be laid down -/
def nofl (s : St) (a k : Int32) : Int32 := if ¬ ((0 ≤ a ∧ a ≤ 5) ∧ 0 ≤ k ∧ k ≤ 7) then -1 else if s.1 6 a.toNatClampNeg = 0 then -3 else if k < s.1 6 a.toNatClampNeg then 0 else -1
theorem nofl_inv {s : St} {a k : Int32} (hV : VW s) (h : 0 ≤ nofl s a k) : ∃ v j nn : Nat, v < 6 ∧ a = nI v ∧ k = nI j ∧ j < nn ∧ VerS s v nn ∧ nofl s a k = 0 := by
  unfold nofl at h ⊢
  by_cases h1 : (0 ≤ a ∧ a ≤ 5) ∧ 0 ≤ k ∧ k ≤ 7
  · obtain ⟨v, hv, rfl⟩ := i_nat (c := 5) (by decide) h1.1.1 h1.1.2
    obtain ⟨j, hj, rfl⟩ := i_nat (c := 7) (by decide) h1.2.1 h1.2.2
    rw [if_neg (not_not_intro h1), ni_cl (show v < 2147483648 by omega)] at h ⊢
    rcases hV v (by omega) with e0 | ⟨n1, hn0, hn1, hW⟩
    · rw [if_pos e0] at h; exact absurd h (by decide)
    · have hn8 := hW.1
      rw [hn1, if_neg (nI_ne0 hn0 (by omega))] at h ⊢
      by_cases h3 : nI j < nI n1
      · rw [if_pos h3]
        exact ⟨v, j, n1, by omega, rfl, rfl, by rwa [ni_lt (by omega) (by omega)] at h3, hW.S hn1, rfl⟩
      · rw [if_neg h3] at h; exact absurd h (by decide)
  · rw [if_pos h1] at h; exact absurd h (by decide)
set_option maxRecDepth 100000 in
set_option maxHeartbeats 4000000 in
theorem X12_noField_ok {g : Ge} {w : Wd} {k n : Nat} {K : Int32 → Wd → Nat → Nat → Prop} {m : Nat} {s : St} (hm : MS g m w) (hS : Sm m w s) (a f : Int32) (h : K (nofl s a f) w k n) : cI g mX12_noField [.ref m, .int a, .int f] w k n K := by
  unfold nofl at h
  refine cI_of 3 0 0 rfl (by decide +kernel) rfl (Nat.le_of_ble_eq_true rfl) (Nat.zero_le _) (Nat.zero_le _) ?_
  simp only [vX12_noField_0, vX12_noField_1, pI_c, pL_c, pF_c, pD_c, pA_n, pA_c, pA_rf, pR_c, pR_rf, pV_i, pV_a, pV_n, pV_rf, ldI_c, ldL_c, ldF_c, ldD_c, ldA_c, ldA_n, ldA_rf, dup2_l, dup2_ia, dup2_ir, popA_0, popA_s, getL_z, getL_s, setL_z, setL_1, setL_s, setL2_z, setL2_1, setL2_s, drop2_i, drop2_a, drop2_0, drop2_n, drop2_l, drop2_d, drop2_r, cwd_0, cwd_i, cwd_a, cwd_n, cwd_l, cwd_d, cwd_f, cwd_r, rf_s, rf_n, swi_0, swi_s, zR_b0, zR_b1, zN_b0, zN_b1, entV_i, entV_a, entV_n, entV_r, entV_f, entV_l, entV_d, entV_s, entV_0, List.length_cons, List.length_nil, List.nil_append, List.cons_append, true_and, and_true, Nat.reduceAdd, Nat.reduceLT, Nat.reduceEqDiff, Nat.reduceLeDiff, Nat.reduceSub, Nat.zero_add, Classical.not_not, ex_i, ex_l, ex_d, ex_r, ex_rs, ex_rn, ex_sm, Nat.sub_zero, eq_self, wn_sI, wn_sL, wn_sP, wsh_sI, wsh_sL, wsh_sP, wI_sL, wI_sP, wL_sI, wL_sP, wP_sI, wP_sL, wI_sI, wL_sL, Int32.reduceLT, Int32.reduceLE, true_implies, not_true_eq_false, false_implies, not_false_eq_true, i_10]
  refine X12_isVersion_ok _ ?_
  by_cases ha : 0 ≤ a ∧ a ≤ 5
  · simp only [b2i_t ha, vX12_noField_4, vX12_noField_7, vX12_noField_8, vX12_noField_9, vX12_noField_11, pI_c, pL_c, pF_c, pD_c, pA_n, pA_c, pA_rf, pR_c, pR_rf, pV_i, pV_a, pV_n, pV_rf, ldI_c, ldL_c, ldF_c, ldD_c, ldA_c, ldA_n, ldA_rf, dup2_l, dup2_ia, dup2_ir, popA_0, popA_s, getL_z, getL_s, setL_z, setL_1, setL_s, setL2_z, setL2_1, setL2_s, drop2_i, drop2_a, drop2_0, drop2_n, drop2_l, drop2_d, drop2_r, cwd_0, cwd_i, cwd_a, cwd_n, cwd_l, cwd_d, cwd_f, cwd_r, rf_s, rf_n, swi_0, swi_s, zR_b0, zR_b1, zN_b0, zN_b1, entV_i, entV_a, entV_n, entV_r, entV_f, entV_l, entV_d, entV_s, entV_0, List.length_cons, List.length_nil, List.nil_append, List.cons_append, true_and, and_true, Nat.reduceAdd, Nat.reduceLT, Nat.reduceEqDiff, Nat.reduceLeDiff, Nat.reduceSub, Nat.zero_add, Classical.not_not, ex_i, ex_l, ex_d, ex_r, ex_rs, ex_rn, ex_sm, Nat.sub_zero, eq_self, wn_sI, wn_sL, wn_sP, wsh_sI, wsh_sL, wsh_sP, wI_sL, wI_sP, wL_sI, wL_sP, wP_sI, wP_sL, wI_sI, wL_sL, Int32.reduceLT, Int32.reduceLE, true_implies, not_true_eq_false, false_implies, not_false_eq_true, i_10]
    refine X12_within_ok _ _ _ ?_
    by_cases hf : 0 ≤ f ∧ f ≤ 7
    · obtain ⟨v, hv, rfl⟩ := i_nat (c := 5) (by decide) ha.1 ha.2
      simp only [if_neg (not_not_intro (And.intro ha hf)), ni_cl (show v < 2147483648 by omega)] at h
      have e6 : wI w (m + 6) v = s.1 6 v := (hS 6 _ (by decide) (by decide)).1
      simp (disch := omega) only [b2i_t hf, vX12_noField_14, vX12_noField_17, vX12_noField_18, vX12_noField_19, vX12_noField_20, vX12_noField_23, vX12_noField_24, vX12_noField_25, vX12_noField_28, vX12_noField_30, vX12_noField_31, vX12_noField_32, vX12_noField_33, vX12_noField_36, vX12_noField_37, vX12_noField_38, vX12_noField_41, vX12_noField_42, vX12_noField_45, vX12_noField_46, ms_o hm, ms_b hm, ms_0 hm, mp_many hm, ms_many hm, pI_c, pL_c, pF_c, pD_c, pA_n, pA_c, pA_rf, pR_c, pR_rf, pV_i, pV_a, pV_n, pV_rf, ldI_c, ldL_c, ldF_c, ldD_c, ldA_c, ldA_n, ldA_rf, dup2_l, dup2_ia, dup2_ir, popA_0, popA_s, getL_z, getL_s, setL_z, setL_1, setL_s, setL2_z, setL2_1, setL2_s, drop2_i, drop2_a, drop2_0, drop2_n, drop2_l, drop2_d, drop2_r, cwd_0, cwd_i, cwd_a, cwd_n, cwd_l, cwd_d, cwd_f, cwd_r, rf_s, rf_n, swi_0, swi_s, zR_b0, zR_b1, zN_b0, zN_b1, entV_i, entV_a, entV_n, entV_r, entV_f, entV_l, entV_d, entV_s, entV_0, List.length_cons, List.length_nil, List.nil_append, List.cons_append, true_and, and_true, Nat.reduceAdd, Nat.reduceLT, Nat.reduceEqDiff, Nat.reduceLeDiff, Nat.reduceSub, Nat.zero_add, Classical.not_not, ex_i, ex_l, ex_d, ex_r, ex_rs, ex_rn, ex_sm, Nat.sub_zero, eq_self, wn_sI, wn_sL, wn_sP, wsh_sI, wsh_sL, wsh_sP, wI_sL, wI_sP, wL_sI, wL_sP, wP_sI, wP_sL, wI_sI, wL_sL, Int32.reduceLT, Int32.reduceLE, true_implies, not_true_eq_false, false_implies, not_false_eq_true, i_10, na_1, nb_1, nm_1, ns_1, nr_1, na_2, nb_2, nm_2, ns_2, nr_2, na_3, nb_3, nm_3, ns_3, nr_3, na_4, nb_4, nm_4, ns_4, nr_4, na_5, nb_5, nm_5, ns_5, nr_5, na_6, nb_6, nm_6, ns_6, nr_6, na_7, nb_7, nm_7, ns_7, nr_7, na_8, nb_8, nm_8, ns_8, nr_8, na_10, nb_10, nm_10, ns_10, nr_10, na_16, nb_16, nm_16, ns_16, nr_16, nl_m1, ni_add, ni_mul, ni_sub, ni_cl, ni_in, vp_0, vp_1, vp_2, vp_3, vp_4, vp_5, Int32.reduceToNatClampNeg, e6]
      refine ⟨fun z => ⟨fun z1 => ?_, fun z1 => ?_⟩, fun z => ?_⟩
      · rw [if_neg z, if_neg (Int32.not_lt.mpr z1)] at h; exact h
      · rw [if_neg z, if_pos (Int32.not_le.mp z1)] at h; exact h
      · rw [if_pos z] at h; exact h
    · rw [if_pos fun z => hf z.2] at h
      simp only [b2i_f hf, vX12_noField_14, vX12_noField_17, vX12_noField_18, pI_c, pL_c, pF_c, pD_c, pA_n, pA_c, pA_rf, pR_c, pR_rf, pV_i, pV_a, pV_n, pV_rf, ldI_c, ldL_c, ldF_c, ldD_c, ldA_c, ldA_n, ldA_rf, dup2_l, dup2_ia, dup2_ir, popA_0, popA_s, getL_z, getL_s, setL_z, setL_1, setL_s, setL2_z, setL2_1, setL2_s, drop2_i, drop2_a, drop2_0, drop2_n, drop2_l, drop2_d, drop2_r, cwd_0, cwd_i, cwd_a, cwd_n, cwd_l, cwd_d, cwd_f, cwd_r, rf_s, rf_n, swi_0, swi_s, zR_b0, zR_b1, zN_b0, zN_b1, entV_i, entV_a, entV_n, entV_r, entV_f, entV_l, entV_d, entV_s, entV_0, List.length_cons, List.length_nil, List.nil_append, List.cons_append, true_and, and_true, Nat.reduceAdd, Nat.reduceLT, Nat.reduceEqDiff, Nat.reduceLeDiff, Nat.reduceSub, Nat.zero_add, Classical.not_not, ex_i, ex_l, ex_d, ex_r, ex_rs, ex_rn, ex_sm, Nat.sub_zero, eq_self, wn_sI, wn_sL, wn_sP, wsh_sI, wsh_sL, wsh_sP, wI_sL, wI_sP, wL_sI, wL_sP, wP_sI, wP_sL, wI_sI, wL_sL, Int32.reduceLT, Int32.reduceLE, true_implies, not_true_eq_false, false_implies, not_false_eq_true, i_10]
      exact h
  · rw [if_pos fun z => ha z.1] at h
    simp only [b2i_f ha, vX12_noField_4, vX12_noField_7, vX12_noField_8, vX12_noField_9, vX12_noField_11, vX12_noField_14, vX12_noField_17, vX12_noField_18, pI_c, pL_c, pF_c, pD_c, pA_n, pA_c, pA_rf, pR_c, pR_rf, pV_i, pV_a, pV_n, pV_rf, ldI_c, ldL_c, ldF_c, ldD_c, ldA_c, ldA_n, ldA_rf, dup2_l, dup2_ia, dup2_ir, popA_0, popA_s, getL_z, getL_s, setL_z, setL_1, setL_s, setL2_z, setL2_1, setL2_s, drop2_i, drop2_a, drop2_0, drop2_n, drop2_l, drop2_d, drop2_r, cwd_0, cwd_i, cwd_a, cwd_n, cwd_l, cwd_d, cwd_f, cwd_r, rf_s, rf_n, swi_0, swi_s, zR_b0, zR_b1, zN_b0, zN_b1, entV_i, entV_a, entV_n, entV_r, entV_f, entV_l, entV_d, entV_s, entV_0, List.length_cons, List.length_nil, List.nil_append, List.cons_append, true_and, and_true, Nat.reduceAdd, Nat.reduceLT, Nat.reduceEqDiff, Nat.reduceLeDiff, Nat.reduceSub, Nat.zero_add, Classical.not_not, ex_i, ex_l, ex_d, ex_r, ex_rs, ex_rn, ex_sm, Nat.sub_zero, eq_self, wn_sI, wn_sL, wn_sP, wsh_sI, wsh_sL, wsh_sP, wI_sL, wI_sP, wL_sI, wL_sP, wP_sI, wP_sL, wI_sI, wL_sL, Int32.reduceLT, Int32.reduceLE, true_implies, not_true_eq_false, false_implies, not_false_eq_true, i_10]
    exact h
theorem pln_cg {f g : Nat → Int64} {n : Nat} (h0 : 0 < n) (h : ∀ i, i < n → f i = g i) : pMd f n = pMd g n ∧ pW f n = pW g n ∧ pDd f n = pDd g n ∧ pLn f n = pLn g n := by
  have e1 := wmx_cg n h
  have e2 := smx_cg n h
  have e3 := rns_cg n h
  have e4 := h 0 h0
  unfold pMd pW pDd pLn useR useS pRu pSt pPl
  rw [e1, e2, e3, e4]
  exact ⟨rfl, rfl, rfl, rfl⟩
def modAt (s : St) (f : Nat) (what : Int32) : Int32 :=
  if s.1 8 f = 8 ∨ fsl s f = -1 ∨ ((0 ≤ fsl s f ∧ fsl s f ≤ 7) ∧ s.1 3 (frow s f) = 0) then -5
  else if ¬ fcode s f = 0 then fcode s f
  else if what = 0 then nI (pMd (fVl s f) (fnn s f)) else if what = 1 then nI (pW (fVl s f) (fnn s f)) else if what = 2 then pDd (fVl s f) (fnn s f) else nI (pLn (fVl s f) (fnn s f))
def SpMode (s : St) (a f what ans : Int32) (s' : St) : Prop := ans = (if ¬ (0 ≤ what ∧ what ≤ 3) then -1 else if ¬ 0 ≤ nofl s a f then nofl s a f else modAt s (8 * a.toNatClampNeg + f.toNatClampNeg) what) ∧ Bt none2 s s'
theorem fcode_s {s : St} (hR : RW s) {f sl : Nat} (hs : sl < 8) (e : s.1 7 f = nI sl) (h1 : ¬ fsl s f = -1) : (fcode s f = 0 ∨ ¬ 0 ≤ fcode s f) ∧ (fcode s f = 0 → ∃ r z, r < 8 ∧ z ≤ 16 ∧ fsl s f = nI r ∧ s.1 3 r = nI z ∧ frow s f = r ∧ fnn s f = z) := by
  have hsl : s.1 1 sl = fsl s f := by unfold fsl; rw [e, ni_cl (by omega)]
  refine ⟨?_, fun hc0 => ?_⟩
  · unfold fcode rdCode
    split
    · right; decide
    · split
      · right; decide
      · split
        · right; decide
        · left; rfl
  · rcases hR sl hs with q | q | ⟨r, hr, q, x, z, hx, hz, hV⟩
    · exact absurd (hsl.symm.trans q) h1
    · rw [hsl] at q
      unfold fcode rdCode at hc0
      rw [if_pos q] at hc0
      exact absurd hc0 (by decide)
    · have hfs : fsl s f = nI r := hsl.symm.trans q
      have hfrow : frow s f = r := by unfold frow; rw [hfs, ni_cl (by omega)]
      exact ⟨r, z, hr, hV.2.1, hfs, hz, hfrow, by unfold fnn; rw [hfrow, hz, ni_cl (by have := hV.2.1; omega)]⟩
def modS (m : Nat) (a j : Nat) : Prop := (a = m ∧ 42 ≤ j) ∨ a = m + 33
set_option maxRecDepth 100000 in
set_option maxHeartbeats 4000000 in
theorem M_mode {g : Ge} {w : Wd} {k n : Nat} {K : Int32 → Wd → Nat → Nat → Prop} {m : Nat} (hm : MS g m w) (hR : RW (mst m w)) (hV : VW (mst m w)) (a f what : Int32) (h : ∀ ans w', Fr (mS m) w w' → SpMode (mst m w) a f what ans (mst m w') → K ans w' k n) : cI g mX12_mode [.ref m, .int a, .int f, .int what] w k n K := by
  have h' : ∀ ans w', Fr (modS m) w w' → ans = (if ¬ (0 ≤ what ∧ what ≤ 3) then -1 else if ¬ 0 ≤ nofl (mst m w) a f then nofl (mst m w) a f else modAt (mst m w) (8 * a.toNatClampNeg + f.toNatClampNeg) what) → K ans w' k n := fun ans w' hf e => h ans w' (hf.mo fun p j z => by unfold modS at z; unfold mS; omega) ⟨e, Bt.of hf fun o j hp hn => by unfold pers at hp; unfold modS; omega⟩
  clear h
  refine cI_of 7 0 0 rfl (by decide +kernel) rfl (Nat.le_of_ble_eq_true rfl) (Nat.zero_le _) (Nat.zero_le _) ?_
  simp only [vX12_mode_0, vX12_mode_1, vX12_mode_2, vX12_mode_3, pI_c, pL_c, pF_c, pD_c, pA_n, pA_c, pA_rf, pR_c, pR_rf, pV_i, pV_a, pV_n, pV_rf, ldI_c, ldL_c, ldF_c, ldD_c, ldA_c, ldA_n, ldA_rf, dup2_l, dup2_ia, dup2_ir, popA_0, popA_s, getL_z, getL_s, setL_z, setL_1, setL_s, setL2_z, setL2_1, setL2_s, drop2_i, drop2_a, drop2_0, drop2_n, drop2_l, drop2_d, drop2_r, cwd_0, cwd_i, cwd_a, cwd_n, cwd_l, cwd_d, cwd_f, cwd_r, rf_s, rf_n, swi_0, swi_s, zR_b0, zR_b1, zN_b0, zN_b1, entV_i, entV_a, entV_n, entV_r, entV_f, entV_l, entV_d, entV_s, entV_0, List.length_cons, List.length_nil, List.nil_append, List.cons_append, true_and, and_true, Nat.reduceAdd, Nat.reduceLT, Nat.reduceEqDiff, Nat.reduceLeDiff, Nat.reduceSub, Nat.zero_add, Classical.not_not, ex_i, ex_l, ex_d, ex_r, ex_rs, ex_rn, ex_sm, Nat.sub_zero, eq_self, wn_sI, wn_sL, wn_sP, wsh_sI, wsh_sL, wsh_sP, wI_sL, wI_sP, wL_sI, wL_sP, wP_sI, wP_sL, wI_sI, wL_sL, Int32.reduceLT, Int32.reduceLE, true_implies, not_true_eq_false, false_implies, not_false_eq_true, i_10]
  refine X12_within_ok _ _ _ ?_
  by_cases hw3 : 0 ≤ what ∧ what ≤ 3
  · simp only [if_neg (not_not_intro hw3)] at h'
    simp only [b2i_t hw3, vX12_mode_6, vX12_mode_9, vX12_mode_10, vX12_mode_11, vX12_mode_12, vX12_mode_13, vX12_mode_14, ms_o hm, ms_b hm, ms_0 hm, pI_c, pL_c, pF_c, pD_c, pA_n, pA_c, pA_rf, pR_c, pR_rf, pV_i, pV_a, pV_n, pV_rf, ldI_c, ldL_c, ldF_c, ldD_c, ldA_c, ldA_n, ldA_rf, dup2_l, dup2_ia, dup2_ir, popA_0, popA_s, getL_z, getL_s, setL_z, setL_1, setL_s, setL2_z, setL2_1, setL2_s, drop2_i, drop2_a, drop2_0, drop2_n, drop2_l, drop2_d, drop2_r, cwd_0, cwd_i, cwd_a, cwd_n, cwd_l, cwd_d, cwd_f, cwd_r, rf_s, rf_n, swi_0, swi_s, zR_b0, zR_b1, zN_b0, zN_b1, entV_i, entV_a, entV_n, entV_r, entV_f, entV_l, entV_d, entV_s, entV_0, List.length_cons, List.length_nil, List.nil_append, List.cons_append, true_and, and_true, Nat.reduceAdd, Nat.reduceLT, Nat.reduceEqDiff, Nat.reduceLeDiff, Nat.reduceSub, Nat.zero_add, Classical.not_not, ex_i, ex_l, ex_d, ex_r, ex_rs, ex_rn, ex_sm, Nat.sub_zero, eq_self, wn_sI, wn_sL, wn_sP, wsh_sI, wsh_sL, wsh_sP, wI_sL, wI_sP, wL_sI, wL_sP, wP_sI, wP_sL, wI_sI, wL_sL, Int32.reduceLT, Int32.reduceLE, true_implies, not_true_eq_false, false_implies, not_false_eq_true, i_10]
    refine X12_noField_ok hm (Sm.self m w) a f ?_
    by_cases hn : 0 ≤ nofl (mst m w) a f
    · obtain ⟨v, j, nn, hv, rfl, rfl, hj, hVer, -⟩ := nofl_inv hV hn
      obtain ⟨hn8, hmany, hfld⟩ := id hVer
      obtain ⟨sl, kd, c, nd, td, hs8, hkd, hc, hnd, htd, f0, f1, -⟩ := hfld j hj
      have e7 : wI w (m + 7) (8 * v + j) = nI sl := f0
      have e8 : wI w (m + 8) (8 * v + j) = nI kd := f1
      have esl : wI w (m + 1) sl = fsl (mst m w) (8 * v + j) := by
        unfold fsl
        rw [show (mst m w).1 7 (8 * v + j) = nI sl from f0, ni_cl (by omega)]
        rfl
      simp only [if_neg (not_not_intro hn), ni_cl (show v < 2147483648 by omega), ni_cl (show j < 2147483648 by omega)] at h'
      generalize hF : 8 * v + j = F at *
      have hF48 : F < 48 := by omega
      have h91 : (s91 : (mst m w).1 8 F = 8 ∨ fsl (mst m w) F = -1 ∨ ((0 ≤ fsl (mst m w) F ∧ fsl (mst m w) F ≤ 7) ∧ (mst m w).1 3 (frow (mst m w) F) = 0)) → K (-5) w k n := fun z => h' _ w Fr.rf (by unfold modAt; rw [if_pos z])
      have g91 : ((mst m w).1 8 F = 8 ∨ fsl (mst m w) F = -1 ∨ ((0 ≤ fsl (mst m w) F ∧ fsl (mst m w) F ≤ 7) ∧ (mst m w).1 3 (frow (mst m w) F) = 0)) → R g mX12_mode (fun r w' => ∃ x, r = some (Value.int x) ∧ K x w' k n) 91 [some (Value.ref m), some (Value.int (nI v)), some (Value.int (nI j)), some (Value.int what), some (Value.int (nofl (mst m w) (nI v) (nI j))), some (Value.int (nI F)), some (Value.int (nI sl))] [] w 0 0 := fun z => by
        simp only [vX12_mode_91, vX12_mode_93, pI_c, pL_c, pF_c, pD_c, pA_n, pA_c, pA_rf, pR_c, pR_rf, pV_i, pV_a, pV_n, pV_rf, ldI_c, ldL_c, ldF_c, ldD_c, ldA_c, ldA_n, ldA_rf, dup2_l, dup2_ia, dup2_ir, popA_0, popA_s, getL_z, getL_s, setL_z, setL_1, setL_s, setL2_z, setL2_1, setL2_s, drop2_i, drop2_a, drop2_0, drop2_n, drop2_l, drop2_d, drop2_r, cwd_0, cwd_i, cwd_a, cwd_n, cwd_l, cwd_d, cwd_f, cwd_r, rf_s, rf_n, swi_0, swi_s, zR_b0, zR_b1, zN_b0, zN_b1, entV_i, entV_a, entV_n, entV_r, entV_f, entV_l, entV_d, entV_s, entV_0, List.length_cons, List.length_nil, List.nil_append, List.cons_append, true_and, and_true, Nat.reduceAdd, Nat.reduceLT, Nat.reduceEqDiff, Nat.reduceLeDiff, Nat.reduceSub, Nat.zero_add, Classical.not_not, ex_i, ex_l, ex_d, ex_r, ex_rs, ex_rn, ex_sm, Nat.sub_zero, eq_self, wn_sI, wn_sL, wn_sP, wsh_sI, wsh_sL, wsh_sP, wI_sL, wI_sP, wL_sI, wL_sP, wP_sI, wP_sL, wI_sI, wL_sL, Int32.reduceLT, Int32.reduceLE, true_implies, not_true_eq_false, false_implies, not_false_eq_true, i_10]
        exact h91 z
      simp (disch := omega) only [vX12_mode_17, vX12_mode_19, vX12_mode_21, vX12_mode_24, vX12_mode_26, vX12_mode_27, vX12_mode_29, vX12_mode_30, vX12_mode_31, vX12_mode_32, vX12_mode_33, vX12_mode_35, vX12_mode_36, vX12_mode_39, vX12_mode_41, vX12_mode_42, vX12_mode_44, vX12_mode_45, vX12_mode_48, vX12_mode_50, vX12_mode_51, vX12_mode_53, vX12_mode_56, vX12_mode_57, vX12_mode_60, vX12_mode_62, ms_o hm, ms_b hm, ms_0 hm, mp_slotOf hm, ms_slotOf hm, mp_kindOf hm, ms_kindOf hm, mp_slot hm, ms_slot hm, pI_c, pL_c, pF_c, pD_c, pA_n, pA_c, pA_rf, pR_c, pR_rf, pV_i, pV_a, pV_n, pV_rf, ldI_c, ldL_c, ldF_c, ldD_c, ldA_c, ldA_n, ldA_rf, dup2_l, dup2_ia, dup2_ir, popA_0, popA_s, getL_z, getL_s, setL_z, setL_1, setL_s, setL2_z, setL2_1, setL2_s, drop2_i, drop2_a, drop2_0, drop2_n, drop2_l, drop2_d, drop2_r, cwd_0, cwd_i, cwd_a, cwd_n, cwd_l, cwd_d, cwd_f, cwd_r, rf_s, rf_n, swi_0, swi_s, zR_b0, zR_b1, zN_b0, zN_b1, entV_i, entV_a, entV_n, entV_r, entV_f, entV_l, entV_d, entV_s, entV_0, List.length_cons, List.length_nil, List.nil_append, List.cons_append, true_and, and_true, Nat.reduceAdd, Nat.reduceLT, Nat.reduceEqDiff, Nat.reduceLeDiff, Nat.reduceSub, Nat.zero_add, Classical.not_not, ex_i, ex_l, ex_d, ex_r, ex_rs, ex_rn, ex_sm, Nat.sub_zero, eq_self, wn_sI, wn_sL, wn_sP, wsh_sI, wsh_sL, wsh_sP, wI_sL, wI_sP, wL_sI, wL_sP, wP_sI, wP_sL, wI_sI, wL_sL, Int32.reduceLT, Int32.reduceLE, true_implies, not_true_eq_false, false_implies, not_false_eq_true, i_10, na_1, nb_1, nm_1, ns_1, nr_1, na_2, nb_2, nm_2, ns_2, nr_2, na_3, nb_3, nm_3, ns_3, nr_3, na_4, nb_4, nm_4, ns_4, nr_4, na_5, nb_5, nm_5, ns_5, nr_5, na_6, nb_6, nm_6, ns_6, nr_6, na_7, nb_7, nm_7, ns_7, nr_7, na_8, nb_8, nm_8, ns_8, nr_8, na_10, nb_10, nm_10, ns_10, nr_10, na_16, nb_16, nm_16, ns_16, nr_16, nl_m1, ni_add, ni_mul, ni_sub, ni_cl, ni_in, vp_0, vp_1, vp_2, vp_3, vp_4, vp_5, Int32.reduceToNatClampNeg, up2_n1, up2_at, if_true, if_false, Nat.reduceEqDiff, eq_self, hn, hF, e7, e8, esl]
      refine ⟨fun z => g91 (Or.inl (e8.trans z)), fun z => ?_⟩
      have z8 : ¬ (mst m w).1 8 F = 8 := fun q => z (e8.symm.trans q)
      simp only [vX12_mode_63, vX12_mode_64, pI_c, pL_c, pF_c, pD_c, pA_n, pA_c, pA_rf, pR_c, pR_rf, pV_i, pV_a, pV_n, pV_rf, ldI_c, ldL_c, ldF_c, ldD_c, ldA_c, ldA_n, ldA_rf, dup2_l, dup2_ia, dup2_ir, popA_0, popA_s, getL_z, getL_s, setL_z, setL_1, setL_s, setL2_z, setL2_1, setL2_s, drop2_i, drop2_a, drop2_0, drop2_n, drop2_l, drop2_d, drop2_r, cwd_0, cwd_i, cwd_a, cwd_n, cwd_l, cwd_d, cwd_f, cwd_r, rf_s, rf_n, swi_0, swi_s, zR_b0, zR_b1, zN_b0, zN_b1, entV_i, entV_a, entV_n, entV_r, entV_f, entV_l, entV_d, entV_s, entV_0, List.length_cons, List.length_nil, List.nil_append, List.cons_append, true_and, and_true, Nat.reduceAdd, Nat.reduceLT, Nat.reduceEqDiff, Nat.reduceLeDiff, Nat.reduceSub, Nat.zero_add, Classical.not_not, ex_i, ex_l, ex_d, ex_r, ex_rs, ex_rn, ex_sm, Nat.sub_zero, eq_self, wn_sI, wn_sL, wn_sP, wsh_sI, wsh_sL, wsh_sP, wI_sL, wI_sP, wL_sI, wL_sP, wP_sI, wP_sL, wI_sI, wL_sL, Int32.reduceLT, Int32.reduceLE, true_implies, not_true_eq_false, false_implies, not_false_eq_true, i_10]
      refine ⟨fun z1 => g91 (Or.inr (Or.inl z1)), fun z1 => ?_⟩
      obtain ⟨c1, c2⟩ := fcode_s hR hs8 f0 z1
      have h94 : ¬ ((0 ≤ fsl (mst m w) F ∧ fsl (mst m w) F ≤ 7) ∧ (mst m w).1 3 (frow (mst m w) F) = 0) → R g mX12_mode (fun r w' => ∃ x, r = some (Value.int x) ∧ K x w' k n) 94 [some (Value.ref m), some (Value.int (nI v)), some (Value.int (nI j)), some (Value.int what), some (Value.int (nofl (mst m w) (nI v) (nI j))), some (Value.int (nI F)), some (Value.int (nI sl))] [] w 0 0 := by
        intro z2
        have hmod : modAt (mst m w) F what = if ¬ fcode (mst m w) F = 0 then fcode (mst m w) F
          else if what = 0 then nI (pMd (fVl (mst m w) F) (fnn (mst m w) F)) else if what = 1 then nI (pW (fVl (mst m w) F) (fnn (mst m w) F)) else if what = 2 then pDd (fVl (mst m w) F) (fnn (mst m w) F) else nI (pLn (fVl (mst m w) F) (fnn (mst m w) F)) := by
          unfold modAt
          rw [if_neg fun q => q.elim z8 fun q => q.elim z1 z2]
        rw [hmod] at h'
        simp only [vX12_mode_94, vX12_mode_95, vX12_mode_97, ms_o hm, ms_b hm, ms_0 hm, pI_c, pL_c, pF_c, pD_c, pA_n, pA_c, pA_rf, pR_c, pR_rf, pV_i, pV_a, pV_n, pV_rf, ldI_c, ldL_c, ldF_c, ldD_c, ldA_c, ldA_n, ldA_rf, dup2_l, dup2_ia, dup2_ir, popA_0, popA_s, getL_z, getL_s, setL_z, setL_1, setL_s, setL2_z, setL2_1, setL2_s, drop2_i, drop2_a, drop2_0, drop2_n, drop2_l, drop2_d, drop2_r, cwd_0, cwd_i, cwd_a, cwd_n, cwd_l, cwd_d, cwd_f, cwd_r, rf_s, rf_n, swi_0, swi_s, zR_b0, zR_b1, zN_b0, zN_b1, entV_i, entV_a, entV_n, entV_r, entV_f, entV_l, entV_d, entV_s, entV_0, List.length_cons, List.length_nil, List.nil_append, List.cons_append, true_and, and_true, Nat.reduceAdd, Nat.reduceLT, Nat.reduceEqDiff, Nat.reduceLeDiff, Nat.reduceSub, Nat.zero_add, Classical.not_not, ex_i, ex_l, ex_d, ex_r, ex_rs, ex_rn, ex_sm, Nat.sub_zero, eq_self, wn_sI, wn_sL, wn_sP, wsh_sI, wsh_sL, wsh_sP, wI_sL, wI_sP, wL_sI, wL_sP, wP_sI, wP_sL, wI_sI, wL_sL, Int32.reduceLT, Int32.reduceLE, true_implies, not_true_eq_false, false_implies, not_false_eq_true, i_10]
        refine X12_reads_ok hm hR hF48 hs8 e7 (by rw [esl]; exact z1) fun w1 hf1 hrow hcell => ?_
        have ec : rdCode (wI w (m + 1) sl) (wI w (m + 2) (wI w (m + 1) sl).toNatClampNeg) (wI w (m + 3) (wI w (m + 1) sl).toNatClampNeg) (wI w (m + 9) F) (wI w (m + 8) F) = fcode (mst m w) F := by
          unfold fcode frow
          rw [esl]
          rfl
        rw [ec] at hrow hcell ⊢
        have hF1 : Fr (modS m) w w1 := hf1.mo fun p q z => by unfold rdS at z; unfold modS; omega
        rcases c1 with c1 | c1
        · obtain ⟨r, zz, hr, hz, hfs, hrs, hfrow, hfn⟩ := c2 c1
          rw [if_neg (not_not_intro c1)] at h'
          have hm1 := hm.fr hf1
          have g1 : wI w1 (m + 1) sl = nI r := by rw [hf1.I _ _ (by unfold rdS; omega), esl]; exact hfs
          have g3 : wI w1 (m + 3) r = nI zz := by rw [hf1.I _ _ (by unfold rdS; omega)]; exact hrs
          have hz0 : 0 < zz := by
            rcases Nat.eq_zero_or_pos zz with q | q
            · refine absurd ⟨⟨?_, ?_⟩, ?_⟩ z2
              · rw [hfs]; exact nI_pos' (by omega)
              · rw [hfs, ni_lit 7, ni_le (by omega) (by decide)]; omega
              · rw [hfrow, hrs, q]; rfl
            · exact q
          have e00 : (0 : Int32) ≤ 0 := by decide
          simp (disch := omega) only [vX12_mode_100, vX12_mode_102, vX12_mode_104, vX12_mode_107, vX12_mode_109, vX12_mode_110, vX12_mode_111, vX12_mode_112, vX12_mode_115, vX12_mode_116, vX12_mode_119, vX12_mode_121, vX12_mode_122, vX12_mode_123, ms_o hm1, ms_b hm1, ms_0 hm1, mp_rowSize hm1, ms_rowSize hm1, mp_slot hm1, ms_slot hm1, pI_c, pL_c, pF_c, pD_c, pA_n, pA_c, pA_rf, pR_c, pR_rf, pV_i, pV_a, pV_n, pV_rf, ldI_c, ldL_c, ldF_c, ldD_c, ldA_c, ldA_n, ldA_rf, dup2_l, dup2_ia, dup2_ir, popA_0, popA_s, getL_z, getL_s, setL_z, setL_1, setL_s, setL2_z, setL2_1, setL2_s, drop2_i, drop2_a, drop2_0, drop2_n, drop2_l, drop2_d, drop2_r, cwd_0, cwd_i, cwd_a, cwd_n, cwd_l, cwd_d, cwd_f, cwd_r, rf_s, rf_n, swi_0, swi_s, zR_b0, zR_b1, zN_b0, zN_b1, entV_i, entV_a, entV_n, entV_r, entV_f, entV_l, entV_d, entV_s, entV_0, List.length_cons, List.length_nil, List.nil_append, List.cons_append, true_and, and_true, Nat.reduceAdd, Nat.reduceLT, Nat.reduceEqDiff, Nat.reduceLeDiff, Nat.reduceSub, Nat.zero_add, Classical.not_not, ex_i, ex_l, ex_d, ex_r, ex_rs, ex_rn, ex_sm, Nat.sub_zero, eq_self, wn_sI, wn_sL, wn_sP, wsh_sI, wsh_sL, wsh_sP, wI_sL, wI_sP, wL_sI, wL_sP, wP_sI, wP_sL, wI_sI, wL_sL, Int32.reduceLT, Int32.reduceLE, true_implies, not_true_eq_false, false_implies, not_false_eq_true, i_10, na_1, nb_1, nm_1, ns_1, nr_1, na_2, nb_2, nm_2, ns_2, nr_2, na_3, nb_3, nm_3, ns_3, nr_3, na_4, nb_4, nm_4, ns_4, nr_4, na_5, nb_5, nm_5, ns_5, nr_5, na_6, nb_6, nm_6, ns_6, nr_6, na_7, nb_7, nm_7, ns_7, nr_7, na_8, nb_8, nm_8, ns_8, nr_8, na_10, nb_10, nm_10, ns_10, nr_10, na_16, nb_16, nm_16, ns_16, nr_16, nl_m1, ni_add, ni_mul, ni_sub, ni_cl, ni_in, vp_0, vp_1, vp_2, vp_3, vp_4, vp_5, Int32.reduceToNatClampNeg, up2_n1, up2_at, if_true, if_false, Nat.reduceEqDiff, eq_self, c1, e00, g1, g3]
          refine X12_weighs_ok hm1 zz hz0 hz fun w2 hf2 hp => ?_
          have hm2 := hm1.fr hf2
          have hrw : ∀ i, i < zz → wL w1 (m + 33) i = fVl (mst m w) F i := by
            intro i hi
            rw [hrow c1 r zz (by rw [esl]; exact hfs) hr hrs hz i hi]
            unfold fVl fKd
            rw [hfrow]
            rfl
          obtain ⟨y1, y2, y3, y4⟩ := pln_cg hz0 hrw
          obtain ⟨p1, p2, p3, p4⟩ := hp
          rw [y1] at p1
          rw [y2] at p2
          rw [y3] at p3
          rw [y4] at p4
          have h1 := h' _ w2 (hF1.tr (hf2.mo fun p q z => by unfold plS at z; unfold modS; omega)) rfl
          rw [hfn] at h1
          simp (disch := omega) only [vX12_mode_126, vX12_mode_127, vX12_mode_130, vX12_mode_131, vX12_mode_134, vX12_mode_137, vX12_mode_138, vX12_mode_139, vX12_mode_142, vX12_mode_143, vX12_mode_146, vX12_mode_149, vX12_mode_150, vX12_mode_151, vX12_mode_154, vX12_mode_155, vX12_mode_158, vX12_mode_161, vX12_mode_162, vX12_mode_165, ms_o hm2, ms_b hm2, ms_0 hm2, pI_c, pL_c, pF_c, pD_c, pA_n, pA_c, pA_rf, pR_c, pR_rf, pV_i, pV_a, pV_n, pV_rf, ldI_c, ldL_c, ldF_c, ldD_c, ldA_c, ldA_n, ldA_rf, dup2_l, dup2_ia, dup2_ir, popA_0, popA_s, getL_z, getL_s, setL_z, setL_1, setL_s, setL2_z, setL2_1, setL2_s, drop2_i, drop2_a, drop2_0, drop2_n, drop2_l, drop2_d, drop2_r, cwd_0, cwd_i, cwd_a, cwd_n, cwd_l, cwd_d, cwd_f, cwd_r, rf_s, rf_n, swi_0, swi_s, zR_b0, zR_b1, zN_b0, zN_b1, entV_i, entV_a, entV_n, entV_r, entV_f, entV_l, entV_d, entV_s, entV_0, List.length_cons, List.length_nil, List.nil_append, List.cons_append, true_and, and_true, Nat.reduceAdd, Nat.reduceLT, Nat.reduceEqDiff, Nat.reduceLeDiff, Nat.reduceSub, Nat.zero_add, Classical.not_not, ex_i, ex_l, ex_d, ex_r, ex_rs, ex_rn, ex_sm, Nat.sub_zero, eq_self, wn_sI, wn_sL, wn_sP, wsh_sI, wsh_sL, wsh_sP, wI_sL, wI_sP, wL_sI, wL_sP, wP_sI, wP_sL, wI_sI, wL_sL, Int32.reduceLT, Int32.reduceLE, true_implies, not_true_eq_false, false_implies, not_false_eq_true, i_10, na_1, nb_1, nm_1, ns_1, nr_1, na_2, nb_2, nm_2, ns_2, nr_2, na_3, nb_3, nm_3, ns_3, nr_3, na_4, nb_4, nm_4, ns_4, nr_4, na_5, nb_5, nm_5, ns_5, nr_5, na_6, nb_6, nm_6, ns_6, nr_6, na_7, nb_7, nm_7, ns_7, nr_7, na_8, nb_8, nm_8, ns_8, nr_8, na_10, nb_10, nm_10, ns_10, nr_10, na_16, nb_16, nm_16, ns_16, nr_16, nl_m1, ni_add, ni_mul, ni_sub, ni_cl, ni_in, vp_0, vp_1, vp_2, vp_3, vp_4, vp_5, Int32.reduceToNatClampNeg, p1, p2, p3, p4]
          grind
        · rw [if_pos fun q => c1 (by rw [q]; decide)] at h'
          simp only [vX12_mode_100, vX12_mode_102, vX12_mode_104, vX12_mode_107, vX12_mode_109, pI_c, pL_c, pF_c, pD_c, pA_n, pA_c, pA_rf, pR_c, pR_rf, pV_i, pV_a, pV_n, pV_rf, ldI_c, ldL_c, ldF_c, ldD_c, ldA_c, ldA_n, ldA_rf, dup2_l, dup2_ia, dup2_ir, popA_0, popA_s, getL_z, getL_s, setL_z, setL_1, setL_s, setL2_z, setL2_1, setL2_s, drop2_i, drop2_a, drop2_0, drop2_n, drop2_l, drop2_d, drop2_r, cwd_0, cwd_i, cwd_a, cwd_n, cwd_l, cwd_d, cwd_f, cwd_r, rf_s, rf_n, swi_0, swi_s, zR_b0, zR_b1, zN_b0, zN_b1, entV_i, entV_a, entV_n, entV_r, entV_f, entV_l, entV_d, entV_s, entV_0, List.length_cons, List.length_nil, List.nil_append, List.cons_append, true_and, and_true, Nat.reduceAdd, Nat.reduceLT, Nat.reduceEqDiff, Nat.reduceLeDiff, Nat.reduceSub, Nat.zero_add, Classical.not_not, ex_i, ex_l, ex_d, ex_r, ex_rs, ex_rn, ex_sm, Nat.sub_zero, eq_self, wn_sI, wn_sL, wn_sP, wsh_sI, wsh_sL, wsh_sP, wI_sL, wI_sP, wL_sI, wL_sP, wP_sI, wP_sL, wI_sI, wL_sL, Int32.reduceLT, Int32.reduceLE, true_implies, not_true_eq_false, false_implies, not_false_eq_true, i_10, c1]
          exact h' _ w1 hF1 rfl
      simp only [vX12_mode_67, vX12_mode_68, vX12_mode_70, ms_o hm, ms_b hm, ms_0 hm, pI_c, pL_c, pF_c, pD_c, pA_n, pA_c, pA_rf, pR_c, pR_rf, pV_i, pV_a, pV_n, pV_rf, ldI_c, ldL_c, ldF_c, ldD_c, ldA_c, ldA_n, ldA_rf, dup2_l, dup2_ia, dup2_ir, popA_0, popA_s, getL_z, getL_s, setL_z, setL_1, setL_s, setL2_z, setL2_1, setL2_s, drop2_i, drop2_a, drop2_0, drop2_n, drop2_l, drop2_d, drop2_r, cwd_0, cwd_i, cwd_a, cwd_n, cwd_l, cwd_d, cwd_f, cwd_r, rf_s, rf_n, swi_0, swi_s, zR_b0, zR_b1, zN_b0, zN_b1, entV_i, entV_a, entV_n, entV_r, entV_f, entV_l, entV_d, entV_s, entV_0, List.length_cons, List.length_nil, List.nil_append, List.cons_append, true_and, and_true, Nat.reduceAdd, Nat.reduceLT, Nat.reduceEqDiff, Nat.reduceLeDiff, Nat.reduceSub, Nat.zero_add, Classical.not_not, ex_i, ex_l, ex_d, ex_r, ex_rs, ex_rn, ex_sm, Nat.sub_zero, eq_self, wn_sI, wn_sL, wn_sP, wsh_sI, wsh_sL, wsh_sP, wI_sL, wI_sP, wL_sI, wL_sP, wP_sI, wP_sL, wI_sI, wL_sL, Int32.reduceLT, Int32.reduceLE, true_implies, not_true_eq_false, false_implies, not_false_eq_true, i_10]
      refine X12_isRow_ok hm sl hs8 ?_
      rw [esl]
      by_cases hrw : 0 ≤ fsl (mst m w) F ∧ fsl (mst m w) F ≤ 7
      · obtain ⟨r, hr, hfs⟩ := i_nat (c := 7) (by decide) hrw.1 hrw.2
        have hfrow : frow (mst m w) F = r := by unfold frow; rw [hfs, ni_cl (by omega)]
        simp (disch := omega) only [b2i_t hrw, vX12_mode_73, vX12_mode_76, vX12_mode_77, vX12_mode_80, vX12_mode_81, vX12_mode_84, vX12_mode_86, vX12_mode_87, vX12_mode_88, ms_o hm, ms_b hm, ms_0 hm, mp_rowSize hm, ms_rowSize hm, mp_slot hm, ms_slot hm, pI_c, pL_c, pF_c, pD_c, pA_n, pA_c, pA_rf, pR_c, pR_rf, pV_i, pV_a, pV_n, pV_rf, ldI_c, ldL_c, ldF_c, ldD_c, ldA_c, ldA_n, ldA_rf, dup2_l, dup2_ia, dup2_ir, popA_0, popA_s, getL_z, getL_s, setL_z, setL_1, setL_s, setL2_z, setL2_1, setL2_s, drop2_i, drop2_a, drop2_0, drop2_n, drop2_l, drop2_d, drop2_r, cwd_0, cwd_i, cwd_a, cwd_n, cwd_l, cwd_d, cwd_f, cwd_r, rf_s, rf_n, swi_0, swi_s, zR_b0, zR_b1, zN_b0, zN_b1, entV_i, entV_a, entV_n, entV_r, entV_f, entV_l, entV_d, entV_s, entV_0, List.length_cons, List.length_nil, List.nil_append, List.cons_append, true_and, and_true, Nat.reduceAdd, Nat.reduceLT, Nat.reduceEqDiff, Nat.reduceLeDiff, Nat.reduceSub, Nat.zero_add, Classical.not_not, ex_i, ex_l, ex_d, ex_r, ex_rs, ex_rn, ex_sm, Nat.sub_zero, eq_self, wn_sI, wn_sL, wn_sP, wsh_sI, wsh_sL, wsh_sP, wI_sL, wI_sP, wL_sI, wL_sP, wP_sI, wP_sL, wI_sI, wL_sL, Int32.reduceLT, Int32.reduceLE, true_implies, not_true_eq_false, false_implies, not_false_eq_true, i_10, na_1, nb_1, nm_1, ns_1, nr_1, na_2, nb_2, nm_2, ns_2, nr_2, na_3, nb_3, nm_3, ns_3, nr_3, na_4, nb_4, nm_4, ns_4, nr_4, na_5, nb_5, nm_5, ns_5, nr_5, na_6, nb_6, nm_6, ns_6, nr_6, na_7, nb_7, nm_7, ns_7, nr_7, na_8, nb_8, nm_8, ns_8, nr_8, na_10, nb_10, nm_10, ns_10, nr_10, na_16, nb_16, nm_16, ns_16, nr_16, nl_m1, ni_add, ni_mul, ni_sub, ni_cl, ni_in, vp_0, vp_1, vp_2, vp_3, vp_4, vp_5, Int32.reduceToNatClampNeg, up2_n1, up2_at, if_true, if_false, Nat.reduceEqDiff, eq_self, esl, hfs]
        have hrw' := hrw
        rw [hfs] at hrw'
        refine ⟨fun z => absurd z (by rw [b2i_t hrw']; decide), fun _ => ⟨fun z2 => h94 fun q => z2 ?_, fun z2 => g91 (Or.inr (Or.inr ⟨hrw, ?_⟩))⟩⟩
        · have := q.2
          rw [hfrow] at this
          exact this
        · rw [hfrow]
          exact z2
      · simp only [b2i_f hrw, vX12_mode_73, pI_c, pL_c, pF_c, pD_c, pA_n, pA_c, pA_rf, pR_c, pR_rf, pV_i, pV_a, pV_n, pV_rf, ldI_c, ldL_c, ldF_c, ldD_c, ldA_c, ldA_n, ldA_rf, dup2_l, dup2_ia, dup2_ir, popA_0, popA_s, getL_z, getL_s, setL_z, setL_1, setL_s, setL2_z, setL2_1, setL2_s, drop2_i, drop2_a, drop2_0, drop2_n, drop2_l, drop2_d, drop2_r, cwd_0, cwd_i, cwd_a, cwd_n, cwd_l, cwd_d, cwd_f, cwd_r, rf_s, rf_n, swi_0, swi_s, zR_b0, zR_b1, zN_b0, zN_b1, entV_i, entV_a, entV_n, entV_r, entV_f, entV_l, entV_d, entV_s, entV_0, List.length_cons, List.length_nil, List.nil_append, List.cons_append, true_and, and_true, Nat.reduceAdd, Nat.reduceLT, Nat.reduceEqDiff, Nat.reduceLeDiff, Nat.reduceSub, Nat.zero_add, Classical.not_not, ex_i, ex_l, ex_d, ex_r, ex_rs, ex_rn, ex_sm, Nat.sub_zero, eq_self, wn_sI, wn_sL, wn_sP, wsh_sI, wsh_sL, wsh_sP, wI_sL, wI_sP, wL_sI, wL_sP, wP_sI, wP_sL, wI_sI, wL_sL, Int32.reduceLT, Int32.reduceLE, true_implies, not_true_eq_false, false_implies, not_false_eq_true, i_10]
        exact h94 fun q => hrw q.1
    · simp only [if_pos hn] at h'
      simp only [vX12_mode_17, vX12_mode_19, vX12_mode_21, vX12_mode_24, vX12_mode_26, pI_c, pL_c, pF_c, pD_c, pA_n, pA_c, pA_rf, pR_c, pR_rf, pV_i, pV_a, pV_n, pV_rf, ldI_c, ldL_c, ldF_c, ldD_c, ldA_c, ldA_n, ldA_rf, dup2_l, dup2_ia, dup2_ir, popA_0, popA_s, getL_z, getL_s, setL_z, setL_1, setL_s, setL2_z, setL2_1, setL2_s, drop2_i, drop2_a, drop2_0, drop2_n, drop2_l, drop2_d, drop2_r, cwd_0, cwd_i, cwd_a, cwd_n, cwd_l, cwd_d, cwd_f, cwd_r, rf_s, rf_n, swi_0, swi_s, zR_b0, zR_b1, zN_b0, zN_b1, entV_i, entV_a, entV_n, entV_r, entV_f, entV_l, entV_d, entV_s, entV_0, List.length_cons, List.length_nil, List.nil_append, List.cons_append, true_and, and_true, Nat.reduceAdd, Nat.reduceLT, Nat.reduceEqDiff, Nat.reduceLeDiff, Nat.reduceSub, Nat.zero_add, Classical.not_not, ex_i, ex_l, ex_d, ex_r, ex_rs, ex_rn, ex_sm, Nat.sub_zero, eq_self, wn_sI, wn_sL, wn_sP, wsh_sI, wsh_sL, wsh_sP, wI_sL, wI_sP, wL_sI, wL_sP, wP_sI, wP_sL, wI_sI, wL_sL, Int32.reduceLT, Int32.reduceLE, true_implies, not_true_eq_false, false_implies, not_false_eq_true, i_10, hn]
      exact h' _ w Fr.rf rfl
  · simp only [if_pos hw3] at h'
    simp only [b2i_f hw3, vX12_mode_6, vX12_mode_9, vX12_mode_10, pI_c, pL_c, pF_c, pD_c, pA_n, pA_c, pA_rf, pR_c, pR_rf, pV_i, pV_a, pV_n, pV_rf, ldI_c, ldL_c, ldF_c, ldD_c, ldA_c, ldA_n, ldA_rf, dup2_l, dup2_ia, dup2_ir, popA_0, popA_s, getL_z, getL_s, setL_z, setL_1, setL_s, setL2_z, setL2_1, setL2_s, drop2_i, drop2_a, drop2_0, drop2_n, drop2_l, drop2_d, drop2_r, cwd_0, cwd_i, cwd_a, cwd_n, cwd_l, cwd_d, cwd_f, cwd_r, rf_s, rf_n, swi_0, swi_s, zR_b0, zR_b1, zN_b0, zN_b1, entV_i, entV_a, entV_n, entV_r, entV_f, entV_l, entV_d, entV_s, entV_0, List.length_cons, List.length_nil, List.nil_append, List.cons_append, true_and, and_true, Nat.reduceAdd, Nat.reduceLT, Nat.reduceEqDiff, Nat.reduceLeDiff, Nat.reduceSub, Nat.zero_add, Classical.not_not, ex_i, ex_l, ex_d, ex_r, ex_rs, ex_rn, ex_sm, Nat.sub_zero, eq_self, wn_sI, wn_sL, wn_sP, wsh_sI, wsh_sL, wsh_sP, wI_sL, wI_sP, wL_sI, wL_sP, wP_sI, wP_sL, wI_sI, wL_sL, Int32.reduceLT, Int32.reduceLE, true_implies, not_true_eq_false, false_implies, not_false_eq_true, i_10]
    exact h' _ w Fr.rf rfl
