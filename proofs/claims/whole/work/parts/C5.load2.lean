/-! the class: load, whole -/
theorem Xo.tr {g : Ge} {x : Nat} {w w1 w2 : Wd} (h1 : Xo g x w w1) (h2 : Xo g x w1 w2) : Xo g x w w2 := ⟨Nat.le_trans h1.1 h2.1, h2.2.1, h2.2.2.1, fun a ha => (h1.2.2.2 a ha).tr (h2.2.2.2 a ha)⟩
theorem TkR.xo {g : Ge} {x : Nat} {w w' : Wd} (h : TkR g x w w') (hx : XS g x w) (hw : x + 81 ≤ wn w) : Xo g x w w' := ⟨h.1, h.2.1, h.2.2.1, fun a ha => h.2.2.2 a (by omega) (by omega) (by omega)⟩
theorem TkR.ci {g : Ge} {x : Nat} {w w' : Wd} {s : St} (h : TkR g x w w') (hI : CI g x w s) : CI g x w' s := by
  obtain ⟨hx, hC, hW, hw, hA⟩ := hI
  exact ⟨h.2.2.1, h.cn hx hW hC, h.2.1, Nat.le_trans hw h.1, hA.ro hx (fun a ha ht => h.same hW (by omega) (by omega) ht) Bt.rf⟩
theorem SlR.xs {g : Ge} {x : Nat} {w w' : Wd} (h : SlR x w w') (hx : XS g x w) : XS g x w' := hx.sm (fun o _ => by rw [h.2.1]) fun q hq => by
  have t1 : ∀ q ∈ xpT, q.1 ≤ 40 ∧ q.1 ≠ 1 := by decide
  have := t1 q hq
  rw [h.2.2.2.2 _ (by omega)]
theorem SlR.same {x : Nat} {w w' : Wd} (h : SlR x w w') {a : Nat} (ha : a ≠ x + 1) : Same a w w' := ⟨by rw [h.2.1], by rw [h.2.2.1], by rw [h.2.2.2.1], h.2.2.2.2 a ha⟩
theorem SlR.wfk {x : Nat} {w w' : Wd} (h : SlR x w w') (hW : WF w) : WF w' := fun a ha => by
  rw [h.1] at ha
  rw [h.2.1]
  exact hW a ha
theorem lax_eq {a b : Int32} (h : LaxR a b) : (a = 1 ∧ b = 1) ∨ (¬ a = 1 ∧ b = 0) := by
  obtain ⟨h1, h2 | h2⟩ := h
  · exact Or.inr ⟨by rw [h1, h2]; decide, h2⟩
  · exact Or.inl ⟨h1.trans h2, h2⟩
set_option maxRecDepth 100000 in
set_option maxHeartbeats 4000000 in
theorem X_load {g : Ge} {w : Wd} {k n : Nat} {K : Int32 → Wd → Nat → Nat → Prop} {x : Nat} {s : St} (hI : CI g x w s) (hk : 1000 ≤ k) (hn : 14000 ≤ n) (q a : Int32) (h : ∀ ans w', Xo g x w w' → (∀ b s', SpLoad s q a b s' → b = ans ∧ AbsX x w' s') → K ans w' (k - 1000) (n - 14000)) : cI g mX11_load [.ref x, .int q, .int a] w k n K := by
  obtain ⟨hx, hC, hW, hw, hA⟩ := id hI
  obtain ⟨u, hu, e1, e2, e3⟩ := hA.wire
  have i1 : ¬ (1 : Int32) = 0 := by decide
  refine cI_of 6 1000 14000 rfl (by decide +kernel) rfl (Nat.le_of_ble_eq_true rfl) hk hn ?_
  simp only [vX11_load_0, vX11_load_1, vX11_load_2, xs_b hx, xs_0 hx, xs_obj hx, pI_c, pL_c, pF_c, pD_c, pA_n, pA_c, pA_rf, pR_c, pR_rf, pV_i, pV_a, pV_n, pV_rf, ldI_c, ldL_c, ldF_c, ldD_c, ldA_c, ldA_n, ldA_rf, dup2_l, dup2_ia, dup2_ir, popA_0, popA_s, getL_z, getL_s, setL_z, setL_1, setL_s, setL2_z, setL2_1, setL2_s, drop2_i, drop2_a, drop2_0, drop2_n, drop2_l, drop2_d, drop2_r, cwd_0, cwd_i, cwd_a, cwd_n, cwd_l, cwd_d, cwd_f, cwd_r, rf_s, rf_n, swi_0, swi_s, zR_b0, zR_b1, zN_b0, zN_b1, entV_i, entV_a, entV_n, entV_r, entV_f, entV_l, entV_d, entV_s, entV_0, List.length_cons, List.length_nil, List.nil_append, List.cons_append, true_and, and_true, Nat.reduceAdd, Nat.reduceLT, Nat.reduceEqDiff, Nat.reduceLeDiff, Nat.reduceSub, Nat.zero_add, Classical.not_not, ex_i, ex_l, ex_d, ex_r, ex_rs, ex_rn, ex_sm, Nat.sub_zero, eq_self, wn_sI, wn_sL, wn_sP, wsh_sI, wsh_sL, wsh_sP, wI_sL, wI_sP, wL_sI, wL_sP, wP_sI, wP_sL, wI_sI, wL_sL, Int32.reduceLT, Int32.reduceLE, true_implies, not_true_eq_false, false_implies, not_false_eq_true, i_10]
  refine X11_isOnWire_ok hx e1 hu q ?_
  by_cases q2 : 0 ≤ q ∧ q ≤ nI u - 1
  · obtain ⟨j, hj, rfl⟩ := i_ltN (by omega) q2.1 q2.2
    rw [b2i_t q2]
    simp (disch := omega) only [vX11_load_5, vX11_load_10, vX11_load_11, vX11_load_12, xs_b hx, xs_0 hx, xs_obj hx, pI_c, pL_c, pF_c, pD_c, pA_n, pA_c, pA_rf, pR_c, pR_rf, pV_i, pV_a, pV_n, pV_rf, ldI_c, ldL_c, ldF_c, ldD_c, ldA_c, ldA_n, ldA_rf, dup2_l, dup2_ia, dup2_ir, popA_0, popA_s, getL_z, getL_s, setL_z, setL_1, setL_s, setL2_z, setL2_1, setL2_s, drop2_i, drop2_a, drop2_0, drop2_n, drop2_l, drop2_d, drop2_r, cwd_0, cwd_i, cwd_a, cwd_n, cwd_l, cwd_d, cwd_f, cwd_r, rf_s, rf_n, swi_0, swi_s, zR_b0, zR_b1, zN_b0, zN_b1, entV_i, entV_a, entV_n, entV_r, entV_f, entV_l, entV_d, entV_s, entV_0, List.length_cons, List.length_nil, List.nil_append, List.cons_append, true_and, and_true, Nat.reduceAdd, Nat.reduceLT, Nat.reduceEqDiff, Nat.reduceLeDiff, Nat.reduceSub, Nat.zero_add, Classical.not_not, ex_i, ex_l, ex_d, ex_r, ex_rs, ex_rn, ex_sm, Nat.sub_zero, eq_self, wn_sI, wn_sL, wn_sP, wsh_sI, wsh_sL, wsh_sP, wI_sL, wI_sP, wL_sI, wL_sP, wP_sI, wP_sL, wI_sI, wL_sL, Int32.reduceLT, Int32.reduceLE, true_implies, not_true_eq_false, false_implies, not_false_eq_true, i_10, i1]
    refine X11_lackOf_ok hx hA a ?_
    by_cases ql : lackV s a = 0
    · rw [ql]
      obtain ⟨v, hv, rfl, hv0⟩ := lackV_0 ql
      have ha : 0 ≤ nI v ∧ nI v ≤ 5 := by
        rw [show (0 : Int32) = nI 0 from rfl, show (5 : Int32) = nI 5 from rfl, ni_le (by omega) (by omega), ni_le (by omega) (by omega)]
        omega
      rcases hA.ver hv with ⟨z1, z2⟩ | ⟨Ar, cr, n1, z1, hV⟩
      · exact absurd z1 hv0
      have hn8 := hV.n8
      have en : (s.1 6 v).toNatClampNeg = n1 := by rw [hV.2.1, ni_cl (by omega)]
      simp (disch := omega) only [vX11_load_15, vX11_load_16, vX11_load_17, vX11_load_22, vX11_load_23, vX11_load_26, vX11_load_27, vX11_load_30, vX11_load_31, vX11_load_34, vX11_load_35, vX11_load_36, vX11_load_39, xs_b hx, xs_0 hx, xs_obj hx, xs_seen hx, xp_x_6 hx, xs_wire hx, xp_x_3 hx, xs_versions hx, xp_x_1 hx, pI_c, pL_c, pF_c, pD_c, pA_n, pA_c, pA_rf, pR_c, pR_rf, pV_i, pV_a, pV_n, pV_rf, ldI_c, ldL_c, ldF_c, ldD_c, ldA_c, ldA_n, ldA_rf, dup2_l, dup2_ia, dup2_ir, popA_0, popA_s, getL_z, getL_s, setL_z, setL_1, setL_s, setL2_z, setL2_1, setL2_s, drop2_i, drop2_a, drop2_0, drop2_n, drop2_l, drop2_d, drop2_r, cwd_0, cwd_i, cwd_a, cwd_n, cwd_l, cwd_d, cwd_f, cwd_r, rf_s, rf_n, swi_0, swi_s, zR_b0, zR_b1, zN_b0, zN_b1, entV_i, entV_a, entV_n, entV_r, entV_f, entV_l, entV_d, entV_s, entV_0, List.length_cons, List.length_nil, List.nil_append, List.cons_append, true_and, and_true, Nat.reduceAdd, Nat.reduceLT, Nat.reduceEqDiff, Nat.reduceLeDiff, Nat.reduceSub, Nat.zero_add, Classical.not_not, ex_i, ex_l, ex_d, ex_r, ex_rs, ex_rn, ex_sm, Nat.sub_zero, eq_self, wn_sI, wn_sL, wn_sP, wsh_sI, wsh_sL, wsh_sP, wI_sL, wI_sP, wL_sI, wL_sP, wP_sI, wP_sL, wI_sI, wL_sL, Int32.reduceLT, Int32.reduceLE, true_implies, not_true_eq_false, false_implies, not_false_eq_true, i_10, e1]
      refine X2_stands_ok hI e2 hu hj (fun f c w1 q1 S1 l1 => ?_) (fun vw p L c w1 q1 S1 z0 z2 z3 z4 hp P1 G1 => ?_)
      · have hI1 := hI.sc S1
        obtain ⟨hx1, hC1, hW1, hw1, hA1⟩ := id hI1
        simp (disch := omega) only [vX11_load_42, vX11_load_45, vX11_load_46, vX11_load_47, vX11_load_48, vX11_load_51, vX11_load_54, vX11_load_55, vX11_load_58, vX11_load_61, vX11_load_62, xs_b hx1, xs_0 hx1, xs_obj hx1, xs_seen hx1, xp_x_6 hx1, pI_c, pL_c, pF_c, pD_c, pA_n, pA_c, pA_rf, pR_c, pR_rf, pV_i, pV_a, pV_n, pV_rf, ldI_c, ldL_c, ldF_c, ldD_c, ldA_c, ldA_n, ldA_rf, dup2_l, dup2_ia, dup2_ir, popA_0, popA_s, getL_z, getL_s, setL_z, setL_1, setL_s, setL2_z, setL2_1, setL2_s, drop2_i, drop2_a, drop2_0, drop2_n, drop2_l, drop2_d, drop2_r, cwd_0, cwd_i, cwd_a, cwd_n, cwd_l, cwd_d, cwd_f, cwd_r, rf_s, rf_n, swi_0, swi_s, zR_b0, zR_b1, zN_b0, zN_b1, entV_i, entV_a, entV_n, entV_r, entV_f, entV_l, entV_d, entV_s, entV_0, List.length_cons, List.length_nil, List.nil_append, List.cons_append, true_and, and_true, Nat.reduceAdd, Nat.reduceLT, Nat.reduceEqDiff, Nat.reduceLeDiff, Nat.reduceSub, Nat.zero_add, Classical.not_not, ex_i, ex_l, ex_d, ex_r, ex_rs, ex_rn, ex_sm, Nat.sub_zero, eq_self, wn_sI, wn_sL, wn_sP, wsh_sI, wsh_sL, wsh_sP, wI_sL, wI_sP, wL_sI, wL_sP, wP_sI, wP_sL, wI_sI, wL_sL, Int32.reduceLT, Int32.reduceLE, true_implies, not_true_eq_false, false_implies, not_false_eq_true, i_10, na_1, nb_1, nm_1, ns_1, nr_1, na_2, nb_2, nm_2, ns_2, nr_2, na_3, nb_3, nm_3, ns_3, nr_3, na_4, nb_4, nm_4, ns_4, nr_4, na_5, nb_5, nm_5, ns_5, nr_5, na_6, nb_6, nm_6, ns_6, nr_6, na_7, nb_7, nm_7, ns_7, nr_7, na_8, nb_8, nm_8, ns_8, nr_8, na_10, nb_10, nm_10, ns_10, nr_10, na_16, nb_16, nm_16, ns_16, nr_16, nl_m1, ni_add, ni_mul, ni_sub, ni_cl, ni_in, vp_0, vp_1, vp_2, vp_3, vp_4, vp_5, Int32.reduceToNatClampNeg, l1.1, l1.2]
        refine X11_stopBy_ok hx1 3 (nI f) (nI c) 0 fun w2 f2 g0 g1 g2 g3 => ?_
        have hx2 := hx1.fr f2
        simp (disch := omega) only [vX11_load_65, vX11_load_66, vX11_load_69, vX11_load_70, vX11_load_71, vX11_load_72, vX11_load_73, vX11_load_74, vX11_load_75, vX11_load_77, xs_b hx2, xs_0 hx2, xs_obj hx2, xs_tallies hx2, xp_x_4 hx2, pI_c, pL_c, pF_c, pD_c, pA_n, pA_c, pA_rf, pR_c, pR_rf, pV_i, pV_a, pV_n, pV_rf, ldI_c, ldL_c, ldF_c, ldD_c, ldA_c, ldA_n, ldA_rf, dup2_l, dup2_ia, dup2_ir, popA_0, popA_s, getL_z, getL_s, setL_z, setL_1, setL_s, setL2_z, setL2_1, setL2_s, drop2_i, drop2_a, drop2_0, drop2_n, drop2_l, drop2_d, drop2_r, cwd_0, cwd_i, cwd_a, cwd_n, cwd_l, cwd_d, cwd_f, cwd_r, rf_s, rf_n, swi_0, swi_s, zR_b0, zR_b1, zN_b0, zN_b1, entV_i, entV_a, entV_n, entV_r, entV_f, entV_l, entV_d, entV_s, entV_0, List.length_cons, List.length_nil, List.nil_append, List.cons_append, true_and, and_true, Nat.reduceAdd, Nat.reduceLT, Nat.reduceEqDiff, Nat.reduceLeDiff, Nat.reduceSub, Nat.zero_add, Classical.not_not, ex_i, ex_l, ex_d, ex_r, ex_rs, ex_rn, ex_sm, Nat.sub_zero, eq_self, wn_sI, wn_sL, wn_sP, wsh_sI, wsh_sL, wsh_sP, wI_sL, wI_sP, wL_sI, wL_sP, wP_sI, wP_sL, wI_sI, wL_sL, Int32.reduceLT, Int32.reduceLE, true_implies, not_true_eq_false, false_implies, not_false_eq_true, i_10, na_1, nb_1, nm_1, ns_1, nr_1, na_2, nb_2, nm_2, ns_2, nr_2, na_3, nb_3, nm_3, ns_3, nr_3, na_4, nb_4, nm_4, ns_4, nr_4, na_5, nb_5, nm_5, ns_5, nr_5, na_6, nb_6, nm_6, ns_6, nr_6, na_7, nb_7, nm_7, ns_7, nr_7, na_8, nb_8, nm_8, ns_8, nr_8, na_10, nb_10, nm_10, ns_10, nr_10, na_16, nb_16, nm_16, ns_16, nr_16, nl_m1, ni_add, ni_mul, ni_sub, ni_cl, ni_in, vp_0, vp_1, vp_2, vp_3, vp_4, vp_5, Int32.reduceToNatClampNeg]
        have f3 : Fr (fun b j => b = x + 5 ∧ j = 2) w2 (sI w2 (x + 5) 2 (wI w2 (x + 5) 2 + 1)) := Fr.rf.i _ ⟨rfl, rfl⟩
        have hf : Fr (fun b j => b = x + 36 ∨ (b = x + 5 ∧ j = 2)) w1 (sI w2 (x + 5) 2 (wI w2 (x + 5) 2 + 1)) := (f2.mo fun _ _ z => Or.inl z).tr (f3.mo fun _ _ z => Or.inr z)
        refine h _ _ ((S1.xo hx hW).tr (hf.xo hx1 hW1 fun b j h => by omega)) fun b s' z => ?_
        unfold SpLoad at z
        rw [e2, if_neg (not_not_intro (And.intro q2 ha)), ni_cl (by omega), ni_cl (by omega), if_neg hv0, q1] at z
        obtain ⟨y1, y2, y3, y4, y5, y6, y7, y8⟩ := z
        refine ⟨y1, hA1.part hx1 hf (fun b j q => by omega) y2 (fun o j q => by unfold intS; omega) (Or.inr ⟨by omega, fun j => by omega, by omega, fun j => by omega⟩) (Or.inr ⟨by omega, fun j => by omega, by omega, fun j => by omega⟩) (Or.inr ⟨by omega, by omega, by omega, by omega⟩) (Or.inr ⟨by omega, by omega⟩) (Or.inl (Or.inr ⟨y3, ?_, fun i hi => ?_⟩)) (Or.inl fun i hi => ?_)⟩
        · rw [f3.I _ _ (by omega), g0]; decide
        · rw [f3.I _ _ (by omega)]
          rcases (by omega : i = 0 ∨ i = 1 ∨ i = 2 ∨ i = 3) with rfl | rfl | rfl | rfl
          · rw [g0, y4]
          · rw [g1, y5]
          · rw [g2, y6]
          · rw [g3, y7]
        · by_cases qi : i = 2
          · subst qi
            rw [wI_at, if_pos rfl, y8, f2.I _ _ (by omega), hA1.tal 2 hi]
          · rw [hf.I _ _ (by omega), y2.I 17 i (Or.inr ⟨by decide, by decide⟩) (by omega)]
            exact hA1.tal i hi
      · have hI1 := hI.sc S1
        obtain ⟨hx1, hC1, hW1, hw1, hA1⟩ := id hI1
        obtain ⟨o1, o2, o3, Aw, cw, nw, o4, hVw, o5, o6, o7, o8⟩ := frm_ok hA1 e2 hu q1
        have hw8 := hVw.n8
        have enw : (s.1 6 vw).toNatClampNeg = nw := by rw [hVw.2.1, ni_cl (by omega)]
        have hV1 := hV.sc S1
        have pv : wP w1 (x + 2) v = some Ar := by rw [(S1.2.2.1 (x + 2) (Or.inl (by omega))).2.2.2]; exact z1
        have hsp : ∀ b s', SpLoad s (nI j) (nI v) b s' → match tk (FV s vw) nw L (s.1 0 5) (FV s v) n1 0 with
            | .inl (f, e, y) => b = -20 ∧ SpStop s 2 (nI f) (nI e) y s'
            | .inr D => b = nI c ∧ Bt (fun o j => (1 ≤ o ∧ o ≤ 5) ∨ (o = 17 ∧ j = 1)) s s' ∧ s'.1 17 1 = s.1 17 1 + 1 ∧ Tkn s s' v n1 D := fun b s' z => by
          unfold SpLoad at z
          rw [e2, if_neg (not_not_intro (And.intro q2 ha)), ni_cl (by omega), ni_cl (by omega), if_neg hv0, q1] at z
          simp only [tkAt, enw, en] at z
          exact z
        have go : ∀ lx, lx = s.1 0 5 → R g mX11_load (fun r w' => ∃ i, r = some (.int i) ∧ K i w' (k - 1000) (n - 14000)) 121 [some (.ref x), some (.int (nI j)), some (.int (nI v)), some (.int 0), some (.ref Ar), none] [.int lx, .ref Ar, .ref Aw, .ref (x + 12), .ref (x + 34)] w1 1000 14000 := by
          intro lx elx
          subst elx
          simp (disch := omega) only [vX11_load_121, xs_b hx1, xs_0 hx1, xs_obj hx1, xs_taker hx1, xp_x_7 hx1, xs_seen hx1, xp_x_6 hx1, pI_c, pL_c, pF_c, pD_c, pA_n, pA_c, pA_rf, pR_c, pR_rf, pV_i, pV_a, pV_n, pV_rf, ldI_c, ldL_c, ldF_c, ldD_c, ldA_c, ldA_n, ldA_rf, dup2_l, dup2_ia, dup2_ir, popA_0, popA_s, getL_z, getL_s, setL_z, setL_1, setL_s, setL2_z, setL2_1, setL2_s, drop2_i, drop2_a, drop2_0, drop2_n, drop2_l, drop2_d, drop2_r, cwd_0, cwd_i, cwd_a, cwd_n, cwd_l, cwd_d, cwd_f, cwd_r, rf_s, rf_n, swi_0, swi_s, zR_b0, zR_b1, zN_b0, zN_b1, entV_i, entV_a, entV_n, entV_r, entV_f, entV_l, entV_d, entV_s, entV_0, List.length_cons, List.length_nil, List.nil_append, List.cons_append, true_and, and_true, Nat.reduceAdd, Nat.reduceLT, Nat.reduceEqDiff, Nat.reduceLeDiff, Nat.reduceSub, Nat.zero_add, Classical.not_not, ex_i, ex_l, ex_d, ex_r, ex_rs, ex_rn, ex_sm, Nat.sub_zero, eq_self, wn_sI, wn_sL, wn_sP, wsh_sI, wsh_sL, wsh_sP, wI_sL, wI_sP, wL_sI, wL_sP, wP_sI, wP_sL, wI_sI, wL_sL, Int32.reduceLT, Int32.reduceLE, true_implies, not_true_eq_false, false_implies, not_false_eq_true, i_10]
          refine X9_takes_ok hx1 hC1 hW1 hw1 hVw hV1 P1 G1 o5 o7 o6 (by omega) (by omega) (fun f e y w2 r1 T2 t1 t2 t3 => ?_) (fun D w2 r1 T2 N2 D2 => ?_)
          · have hI2 := T2.ci hI1
            obtain ⟨hx2, hC2, hW2, hw2, hA2⟩ := id hI2
            simp (disch := omega) only [vX11_load_124, vX11_load_127, vX11_load_128, vX11_load_129, vX11_load_130, vX11_load_133, vX11_load_136, vX11_load_137, vX11_load_140, vX11_load_143, vX11_load_144, vX11_load_147, vX11_load_150, xs_b hx2, xs_0 hx2, xs_obj hx2, xs_taker hx2, xp_x_7 hx2, pI_c, pL_c, pF_c, pD_c, pA_n, pA_c, pA_rf, pR_c, pR_rf, pV_i, pV_a, pV_n, pV_rf, ldI_c, ldL_c, ldF_c, ldD_c, ldA_c, ldA_n, ldA_rf, dup2_l, dup2_ia, dup2_ir, popA_0, popA_s, getL_z, getL_s, setL_z, setL_1, setL_s, setL2_z, setL2_1, setL2_s, drop2_i, drop2_a, drop2_0, drop2_n, drop2_l, drop2_d, drop2_r, cwd_0, cwd_i, cwd_a, cwd_n, cwd_l, cwd_d, cwd_f, cwd_r, rf_s, rf_n, swi_0, swi_s, zR_b0, zR_b1, zN_b0, zN_b1, entV_i, entV_a, entV_n, entV_r, entV_f, entV_l, entV_d, entV_s, entV_0, List.length_cons, List.length_nil, List.nil_append, List.cons_append, true_and, and_true, Nat.reduceAdd, Nat.reduceLT, Nat.reduceEqDiff, Nat.reduceLeDiff, Nat.reduceSub, Nat.zero_add, Classical.not_not, ex_i, ex_l, ex_d, ex_r, ex_rs, ex_rn, ex_sm, Nat.sub_zero, eq_self, wn_sI, wn_sL, wn_sP, wsh_sI, wsh_sL, wsh_sP, wI_sL, wI_sP, wL_sI, wL_sP, wP_sI, wP_sL, wI_sI, wL_sL, Int32.reduceLT, Int32.reduceLE, true_implies, not_true_eq_false, false_implies, not_false_eq_true, i_10, na_1, nb_1, nm_1, ns_1, nr_1, na_2, nb_2, nm_2, ns_2, nr_2, na_3, nb_3, nm_3, ns_3, nr_3, na_4, nb_4, nm_4, ns_4, nr_4, na_5, nb_5, nm_5, ns_5, nr_5, na_6, nb_6, nm_6, ns_6, nr_6, na_7, nb_7, nm_7, ns_7, nr_7, na_8, nb_8, nm_8, ns_8, nr_8, na_10, nb_10, nm_10, ns_10, nr_10, na_16, nb_16, nm_16, ns_16, nr_16, nl_m1, ni_add, ni_mul, ni_sub, ni_cl, ni_in, vp_0, vp_1, vp_2, vp_3, vp_4, vp_5, Int32.reduceToNatClampNeg, t1, t2, t3]
            refine X11_stopBy_ok hx2 2 (nI f) (nI e) y fun w3 f3 g0 g1 g2 g3 => ?_
            simp (disch := omega) only [vX11_load_153, vX11_load_155, pI_c, pL_c, pF_c, pD_c, pA_n, pA_c, pA_rf, pR_c, pR_rf, pV_i, pV_a, pV_n, pV_rf, ldI_c, ldL_c, ldF_c, ldD_c, ldA_c, ldA_n, ldA_rf, dup2_l, dup2_ia, dup2_ir, popA_0, popA_s, getL_z, getL_s, setL_z, setL_1, setL_s, setL2_z, setL2_1, setL2_s, drop2_i, drop2_a, drop2_0, drop2_n, drop2_l, drop2_d, drop2_r, cwd_0, cwd_i, cwd_a, cwd_n, cwd_l, cwd_d, cwd_f, cwd_r, rf_s, rf_n, swi_0, swi_s, zR_b0, zR_b1, zN_b0, zN_b1, entV_i, entV_a, entV_n, entV_r, entV_f, entV_l, entV_d, entV_s, entV_0, List.length_cons, List.length_nil, List.nil_append, List.cons_append, true_and, and_true, Nat.reduceAdd, Nat.reduceLT, Nat.reduceEqDiff, Nat.reduceLeDiff, Nat.reduceSub, Nat.zero_add, Classical.not_not, ex_i, ex_l, ex_d, ex_r, ex_rs, ex_rn, ex_sm, Nat.sub_zero, eq_self, wn_sI, wn_sL, wn_sP, wsh_sI, wsh_sL, wsh_sP, wI_sL, wI_sP, wL_sI, wL_sP, wP_sI, wP_sL, wI_sI, wL_sL, Int32.reduceLT, Int32.reduceLE, true_implies, not_true_eq_false, false_implies, not_false_eq_true, i_10]
            refine h _ _ (((S1.xo hx hW).tr (T2.xo hx1 hw1)).tr (f3.xo hx2 hW2 fun b j h => by omega)) fun b s' z => ?_
            have z := hsp b s' z
            simp only [r1] at z
            obtain ⟨y1, y2, y3, y4, y5, y6, y7⟩ := z
            refine ⟨y1, hA2.part hx2 f3 (fun b j q => by omega) y2 (fun o j q => by unfold intS; omega) (Or.inr ⟨by omega, fun j => by omega, by omega, fun j => by omega⟩) (Or.inr ⟨by omega, fun j => by omega, by omega, fun j => by omega⟩) (Or.inr ⟨by omega, by omega, by omega, by omega⟩) (Or.inr ⟨by omega, by omega⟩) (Or.inl (Or.inr ⟨y3, by rw [g0]; decide, fun i hi => ?_⟩)) (Or.inr ⟨fun j => by omega, fun j => by omega⟩)⟩
            rcases (by omega : i = 0 ∨ i = 1 ∨ i = 2 ∨ i = 3) with rfl | rfl | rfl | rfl
            · rw [g0, y4]
            · rw [g1, y5]
            · rw [g2, y6]
            · rw [g3, y7]
          · have hI2 := T2.ci hI1
            obtain ⟨hx2, hC2, hW2, hw2, hA2⟩ := id hI2
            have hV2 := T2.ver hW1 hV1
            simp (disch := omega) only [vX11_load_124, vX11_load_156, vX11_load_157, pI_c, pL_c, pF_c, pD_c, pA_n, pA_c, pA_rf, pR_c, pR_rf, pV_i, pV_a, pV_n, pV_rf, ldI_c, ldL_c, ldF_c, ldD_c, ldA_c, ldA_n, ldA_rf, dup2_l, dup2_ia, dup2_ir, popA_0, popA_s, getL_z, getL_s, setL_z, setL_1, setL_s, setL2_z, setL2_1, setL2_s, drop2_i, drop2_a, drop2_0, drop2_n, drop2_l, drop2_d, drop2_r, cwd_0, cwd_i, cwd_a, cwd_n, cwd_l, cwd_d, cwd_f, cwd_r, rf_s, rf_n, swi_0, swi_s, zR_b0, zR_b1, zN_b0, zN_b1, entV_i, entV_a, entV_n, entV_r, entV_f, entV_l, entV_d, entV_s, entV_0, List.length_cons, List.length_nil, List.nil_append, List.cons_append, true_and, and_true, Nat.reduceAdd, Nat.reduceLT, Nat.reduceEqDiff, Nat.reduceLeDiff, Nat.reduceSub, Nat.zero_add, Classical.not_not, ex_i, ex_l, ex_d, ex_r, ex_rs, ex_rn, ex_sm, Nat.sub_zero, eq_self, wn_sI, wn_sL, wn_sP, wsh_sI, wsh_sL, wsh_sP, wI_sL, wI_sP, wL_sI, wL_sP, wP_sI, wP_sL, wI_sI, wL_sL, Int32.reduceLT, Int32.reduceLE, true_implies, not_true_eq_false, false_implies, not_false_eq_true, i_10, i1]
            rw [show (0 : Int32) = nI 0 from rfl]
            refine X_load_loop hV2 N2 D2 n1 0 w2 (by omega) hx2 ⟨rfl, rfl, rfl, rfl, fun _ _ => rfl⟩ (fun t ht => Or.inr ⟨fun k hk => absurd hk (Nat.not_lt_zero k), rfl⟩) fun w3 hx3 L3 T3 => ?_
            have zb : wI w3 (x + 12) 4 = nI c := by rw [L3.2.2.1, (T2.low hw1 (show x + 12 < x + 34 by omega)).2.1]; exact z4
            simp (disch := omega) only [vX11_load_201, vX11_load_202, vX11_load_205, vX11_load_206, vX11_load_207, vX11_load_208, vX11_load_209, vX11_load_210, vX11_load_211, vX11_load_212, vX11_load_215, vX11_load_218, xs_b hx3, xs_0 hx3, xs_obj hx3, xs_tallies hx3, xp_x_4 hx3, xs_seen hx3, xp_x_6 hx3, pI_c, pL_c, pF_c, pD_c, pA_n, pA_c, pA_rf, pR_c, pR_rf, pV_i, pV_a, pV_n, pV_rf, ldI_c, ldL_c, ldF_c, ldD_c, ldA_c, ldA_n, ldA_rf, dup2_l, dup2_ia, dup2_ir, popA_0, popA_s, getL_z, getL_s, setL_z, setL_1, setL_s, setL2_z, setL2_1, setL2_s, drop2_i, drop2_a, drop2_0, drop2_n, drop2_l, drop2_d, drop2_r, cwd_0, cwd_i, cwd_a, cwd_n, cwd_l, cwd_d, cwd_f, cwd_r, rf_s, rf_n, swi_0, swi_s, zR_b0, zR_b1, zN_b0, zN_b1, entV_i, entV_a, entV_n, entV_r, entV_f, entV_l, entV_d, entV_s, entV_0, List.length_cons, List.length_nil, List.nil_append, List.cons_append, true_and, and_true, Nat.reduceAdd, Nat.reduceLT, Nat.reduceEqDiff, Nat.reduceLeDiff, Nat.reduceSub, Nat.zero_add, Classical.not_not, ex_i, ex_l, ex_d, ex_r, ex_rs, ex_rn, ex_sm, Nat.sub_zero, eq_self, wn_sI, wn_sL, wn_sP, wsh_sI, wsh_sL, wsh_sP, wI_sL, wI_sP, wL_sI, wL_sP, wP_sI, wP_sL, wI_sI, wL_sL, Int32.reduceLT, Int32.reduceLE, true_implies, not_true_eq_false, false_implies, not_false_eq_true, i_10, na_1, nb_1, nm_1, ns_1, nr_1, na_2, nb_2, nm_2, ns_2, nr_2, na_3, nb_3, nm_3, ns_3, nr_3, na_4, nb_4, nm_4, ns_4, nr_4, na_5, nb_5, nm_5, ns_5, nr_5, na_6, nb_6, nm_6, ns_6, nr_6, na_7, nb_7, nm_7, ns_7, nr_7, na_8, nb_8, nm_8, ns_8, nr_8, na_10, nb_10, nm_10, ns_10, nr_10, na_16, nb_16, nm_16, ns_16, nr_16, nl_m1, ni_add, ni_mul, ni_sub, ni_cl, ni_in, vp_0, vp_1, vp_2, vp_3, vp_4, vp_5, Int32.reduceToNatClampNeg, up2_n1, up2_at, if_true, if_false, Nat.reduceEqDiff, eq_self, zb]
            have f4 : Fr (fun b j => b = x + 5 ∧ j = 1) w3 (sI w3 (x + 5) 1 (wI w3 (x + 5) 1 + 1)) := Fr.rf.i _ ⟨rfl, rfl⟩
            have t5 : wI (sI w3 (x + 5) 1 (wI w3 (x + 5) 1 + 1)) (x + 5) 1 = wI w3 (x + 5) 1 + 1 := wI_at.trans (if_pos rfl)
            generalize sI w3 (x + 5) 1 (wI w3 (x + 5) 1 + 1) = w4 at f4 t5 ⊢
            have hW3 := L3.wfk hW2
            have wn3 : wn w3 = wn w2 := L3.1
            -- cells of w1 that are as they were
            have sm : ∀ o, o ≤ 80 → o ≠ 1 → o ≠ 5 → o ≠ 34 → o ≠ 35 → Same (x + o) w1 w4 := fun o h1 h2 h3 h4 h5 => ((T2.2.2.2 (x + o) (by omega) (by omega) (by omega)).tr (L3.same (by omega))).tr (f4.same fun j => by omega)
            have kp : Keep x w1 w4 := fun a ha ht => ((T2.same hW1 (by omega) (by omega) ht).tr (L3.same (by omega))).tr (f4.same fun j => by omega)
            have X4 : Xo g x w w4 := ((S1.xo hx hW).tr (T2.xo hx1 hw1)).tr ⟨by rw [f4.n, L3.1]; exact Nat.le_refl _, f4.wfk hW3, hx3.fr f4, fun a ha => (L3.same (by omega)).tr (f4.same fun j => by omega)⟩
            refine h _ _ X4 fun b s' z => ?_
            have z := hsp b s' z
            simp only [r1] at z
            obtain ⟨y1, y2, y3, y4⟩ := z
            refine ⟨y1, ?_⟩
            obtain ⟨ra, rb, h1, hrest⟩ := hA1
            have lt := h1.lt hW1
            have p34 : ∀ t, wP w4 (x + 1) t = wP w3 (x + 1) t := fun t => by rw [f4.P]
            have p21 : ∀ t, wP w2 (x + 1) t = wP w1 (x + 1) t := fun t => by rw [(T2.low hw1 (show x + 1 < x + 34 by omega)).2.2.2]
            obtain ⟨ra', R4, N4⟩ := load_rows (w := w1) (w2 := w2) (w4 := w4) h1 lt hw1 kp hV.2.2.1 N2 D2 (tk_ok o6 (fun j _ hj => hV.2.2.1.2.1 j (by omega)) r1) (fun j C hj ht => by
              have := tk_kd r1 j C hj
              rw [Nat.zero_add] at this
              exact this ht) (fun a ha => (L3.same (by omega)).tr (f4.same fun j => by omega)) y4 (fun t ht => by
              rcases T3 t ht with ⟨k', k1, k2, k3⟩ | ⟨k1, k2⟩
              · exact Or.inl ⟨k', k1, k2, by rw [p34]; exact k3⟩
              · exact Or.inr ⟨k1, by rw [p34, k2, p21]⟩)
            refine AbsX.rowsTo2 (ra := ra) (ra' := ra') (rb := rb) hrest kp (fun o h1 h2 => sm o (by omega) (by omega) (by omega) (by omega) (by omega)) y2 (fun o j q => by omega) R4 (fun i hi => ?_) fun q t' u' r' q' ht' hu' hr' hq' a1 a2 => ?_
            · obtain ⟨-, -, -, -, -, -, -, tal, -⟩ := hrest
              have b3 : wI w3 (x + 5) = wI w1 (x + 5) := by rw [L3.2.2.1, (T2.low hw1 (show x + 5 < x + 34 by omega)).2.1]
              by_cases qi : i = 1
              · subst qi
                rw [t5, b3, y3, tal 1 hi]
              · rw [f4.I _ _ (by omega), b3, y2.I 17 i (Or.inr ⟨by decide, by decide⟩) (by omega)]
                exact tal i hi
            · obtain ⟨-, -, -, -, -, -, -, -, h10⟩ := hrest
              have l2 := h10.lt hW1 q u' q' hu' hq' a2
              rcases N4 t' r' ht' hr' a1 with z | ⟨z1, z2⟩
              · omega
              · rw [z1]
                exact h10.ne q t' u' r' q' ht' hu' hr' hq' z2 a2
        rcases lax_eq hA1.lax with ⟨lx1, lx2⟩ | ⟨lx1, lx2⟩
        · have := go 1 lx2.symm
          simp (disch := omega) only [vX11_load_42, vX11_load_78, vX11_load_79, vX11_load_82, vX11_load_83, vX11_load_84, vX11_load_86, vX11_load_87, vX11_load_90, vX11_load_91, vX11_load_94, vX11_load_95, vX11_load_98, vX11_load_99, vX11_load_102, vX11_load_105, vX11_load_106, vX11_load_108, vX11_load_109, vX11_load_112, vX11_load_113, vX11_load_116, vX11_load_117, xs_b hx1, xs_0 hx1, xs_obj hx1, xs_taker hx1, xp_x_7 hx1, xs_seen hx1, xp_x_6 hx1, xs_versions hx1, xp_x_1 hx1, pI_c, pL_c, pF_c, pD_c, pA_n, pA_c, pA_rf, pR_c, pR_rf, pV_i, pV_a, pV_n, pV_rf, ldI_c, ldL_c, ldF_c, ldD_c, ldA_c, ldA_n, ldA_rf, dup2_l, dup2_ia, dup2_ir, popA_0, popA_s, getL_z, getL_s, setL_z, setL_1, setL_s, setL2_z, setL2_1, setL2_s, drop2_i, drop2_a, drop2_0, drop2_n, drop2_l, drop2_d, drop2_r, cwd_0, cwd_i, cwd_a, cwd_n, cwd_l, cwd_d, cwd_f, cwd_r, rf_s, rf_n, swi_0, swi_s, zR_b0, zR_b1, zN_b0, zN_b1, entV_i, entV_a, entV_n, entV_r, entV_f, entV_l, entV_d, entV_s, entV_0, List.length_cons, List.length_nil, List.nil_append, List.cons_append, true_and, and_true, Nat.reduceAdd, Nat.reduceLT, Nat.reduceEqDiff, Nat.reduceLeDiff, Nat.reduceSub, Nat.zero_add, Classical.not_not, ex_i, ex_l, ex_d, ex_r, ex_rs, ex_rn, ex_sm, Nat.sub_zero, eq_self, wn_sI, wn_sL, wn_sP, wsh_sI, wsh_sL, wsh_sP, wI_sL, wI_sP, wL_sI, wL_sP, wP_sI, wP_sL, wI_sI, wL_sL, Int32.reduceLT, Int32.reduceLE, true_implies, not_true_eq_false, false_implies, not_false_eq_true, i_10, na_1, nb_1, nm_1, ns_1, nr_1, na_2, nb_2, nm_2, ns_2, nr_2, na_3, nb_3, nm_3, ns_3, nr_3, na_4, nb_4, nm_4, ns_4, nr_4, na_5, nb_5, nm_5, ns_5, nr_5, na_6, nb_6, nm_6, ns_6, nr_6, na_7, nb_7, nm_7, ns_7, nr_7, na_8, nb_8, nm_8, ns_8, nr_8, na_10, nb_10, nm_10, ns_10, nr_10, na_16, nb_16, nm_16, ns_16, nr_16, nl_m1, ni_add, ni_mul, ni_sub, ni_cl, ni_in, vp_0, vp_1, vp_2, vp_3, vp_4, vp_5, Int32.reduceToNatClampNeg, i1, pv, z2, o4, lx1]
          exact this
        · have := go 0 lx2.symm
          simp (disch := omega) only [vX11_load_42, vX11_load_78, vX11_load_79, vX11_load_82, vX11_load_83, vX11_load_84, vX11_load_86, vX11_load_87, vX11_load_90, vX11_load_91, vX11_load_94, vX11_load_95, vX11_load_98, vX11_load_99, vX11_load_102, vX11_load_105, vX11_load_106, vX11_load_108, vX11_load_109, vX11_load_112, vX11_load_113, vX11_load_120, xs_b hx1, xs_0 hx1, xs_obj hx1, xs_taker hx1, xp_x_7 hx1, xs_seen hx1, xp_x_6 hx1, xs_versions hx1, xp_x_1 hx1, pI_c, pL_c, pF_c, pD_c, pA_n, pA_c, pA_rf, pR_c, pR_rf, pV_i, pV_a, pV_n, pV_rf, ldI_c, ldL_c, ldF_c, ldD_c, ldA_c, ldA_n, ldA_rf, dup2_l, dup2_ia, dup2_ir, popA_0, popA_s, getL_z, getL_s, setL_z, setL_1, setL_s, setL2_z, setL2_1, setL2_s, drop2_i, drop2_a, drop2_0, drop2_n, drop2_l, drop2_d, drop2_r, cwd_0, cwd_i, cwd_a, cwd_n, cwd_l, cwd_d, cwd_f, cwd_r, rf_s, rf_n, swi_0, swi_s, zR_b0, zR_b1, zN_b0, zN_b1, entV_i, entV_a, entV_n, entV_r, entV_f, entV_l, entV_d, entV_s, entV_0, List.length_cons, List.length_nil, List.nil_append, List.cons_append, true_and, and_true, Nat.reduceAdd, Nat.reduceLT, Nat.reduceEqDiff, Nat.reduceLeDiff, Nat.reduceSub, Nat.zero_add, Classical.not_not, ex_i, ex_l, ex_d, ex_r, ex_rs, ex_rn, ex_sm, Nat.sub_zero, eq_self, wn_sI, wn_sL, wn_sP, wsh_sI, wsh_sL, wsh_sP, wI_sL, wI_sP, wL_sI, wL_sP, wP_sI, wP_sL, wI_sI, wL_sL, Int32.reduceLT, Int32.reduceLE, true_implies, not_true_eq_false, false_implies, not_false_eq_true, i_10, na_1, nb_1, nm_1, ns_1, nr_1, na_2, nb_2, nm_2, ns_2, nr_2, na_3, nb_3, nm_3, ns_3, nr_3, na_4, nb_4, nm_4, ns_4, nr_4, na_5, nb_5, nm_5, ns_5, nr_5, na_6, nb_6, nm_6, ns_6, nr_6, na_7, nb_7, nm_7, ns_7, nr_7, na_8, nb_8, nm_8, ns_8, nr_8, na_10, nb_10, nm_10, ns_10, nr_10, na_16, nb_16, nm_16, ns_16, nr_16, nl_m1, ni_add, ni_mul, ni_sub, ni_cl, ni_in, vp_0, vp_1, vp_2, vp_3, vp_4, vp_5, Int32.reduceToNatClampNeg, i1, pv, z2, o4, lx1]
          exact this
    · simp only [vX11_load_15, vX11_load_16, vX11_load_17, vX11_load_20, vX11_load_21, xs_b hx, xs_0 hx, xs_obj hx, pI_c, pL_c, pF_c, pD_c, pA_n, pA_c, pA_rf, pR_c, pR_rf, pV_i, pV_a, pV_n, pV_rf, ldI_c, ldL_c, ldF_c, ldD_c, ldA_c, ldA_n, ldA_rf, dup2_l, dup2_ia, dup2_ir, popA_0, popA_s, getL_z, getL_s, setL_z, setL_1, setL_s, setL2_z, setL2_1, setL2_s, drop2_i, drop2_a, drop2_0, drop2_n, drop2_l, drop2_d, drop2_r, cwd_0, cwd_i, cwd_a, cwd_n, cwd_l, cwd_d, cwd_f, cwd_r, rf_s, rf_n, swi_0, swi_s, zR_b0, zR_b1, zN_b0, zN_b1, entV_i, entV_a, entV_n, entV_r, entV_f, entV_l, entV_d, entV_s, entV_0, List.length_cons, List.length_nil, List.nil_append, List.cons_append, true_and, and_true, Nat.reduceAdd, Nat.reduceLT, Nat.reduceEqDiff, Nat.reduceLeDiff, Nat.reduceSub, Nat.zero_add, Classical.not_not, ex_i, ex_l, ex_d, ex_r, ex_rs, ex_rn, ex_sm, Nat.sub_zero, eq_self, wn_sI, wn_sL, wn_sP, wsh_sI, wsh_sL, wsh_sP, wI_sL, wI_sP, wL_sI, wL_sP, wP_sI, wP_sL, wI_sI, wL_sL, Int32.reduceLT, Int32.reduceLE, true_implies, not_true_eq_false, false_implies, not_false_eq_true, i_10, ql]
      refine SpNo hI h fun b s' z => ?_
      unfold SpLoad at z
      unfold lackV at ql ⊢
      by_cases ha : 0 ≤ a ∧ a ≤ 5
      · rw [e2, if_neg (not_not_intro (And.intro q2 ha))] at z
        rw [if_neg (not_not_intro ha)] at ql ⊢
        by_cases q3 : s.1 6 a.toNatClampNeg = 0
        · rw [if_pos q3] at z ⊢
          exact z
        · rw [if_neg q3] at ql
          exact absurd rfl ql
      · rw [e2, if_pos fun y => ha y.2] at z
        rw [if_pos ha]
        exact z
  · rw [b2i_f q2]
    simp only [vX11_load_5, vX11_load_8, vX11_load_9, xs_b hx, xs_0 hx, xs_obj hx, pI_c, pL_c, pF_c, pD_c, pA_n, pA_c, pA_rf, pR_c, pR_rf, pV_i, pV_a, pV_n, pV_rf, ldI_c, ldL_c, ldF_c, ldD_c, ldA_c, ldA_n, ldA_rf, dup2_l, dup2_ia, dup2_ir, popA_0, popA_s, getL_z, getL_s, setL_z, setL_1, setL_s, setL2_z, setL2_1, setL2_s, drop2_i, drop2_a, drop2_0, drop2_n, drop2_l, drop2_d, drop2_r, cwd_0, cwd_i, cwd_a, cwd_n, cwd_l, cwd_d, cwd_f, cwd_r, rf_s, rf_n, swi_0, swi_s, zR_b0, zR_b1, zN_b0, zN_b1, entV_i, entV_a, entV_n, entV_r, entV_f, entV_l, entV_d, entV_s, entV_0, List.length_cons, List.length_nil, List.nil_append, List.cons_append, true_and, and_true, Nat.reduceAdd, Nat.reduceLT, Nat.reduceEqDiff, Nat.reduceLeDiff, Nat.reduceSub, Nat.zero_add, Classical.not_not, ex_i, ex_l, ex_d, ex_r, ex_rs, ex_rn, ex_sm, Nat.sub_zero, eq_self, wn_sI, wn_sL, wn_sP, wsh_sI, wsh_sL, wsh_sP, wI_sL, wI_sP, wL_sI, wL_sP, wP_sI, wP_sL, wI_sI, wL_sL, Int32.reduceLT, Int32.reduceLE, true_implies, not_true_eq_false, false_implies, not_false_eq_true, i_10]
    refine SpNo hI h fun b s' z => ?_
    unfold SpLoad at z
    rw [e2, if_pos fun y => q2 y.1] at z
    exact z
