/-! the class: define -/
set_option maxRecDepth 100000 in
set_option maxHeartbeats 4000000 in
theorem X10_init_ok {g : Ge} {w : Wd} {k n : Nat} {K : Wd → Nat → Nat → Prop} {d c : Nat} {v : Int32} (hg : gB g ≤ d) (hs : wsh w d = (10, 0)) (h : ∀ w', wn w' = wn w → wsh w' = wsh w → (∀ b, b ≠ d → Same b w w') → wI w' d 1 = v → wP w' d 0 = some c → K w' k n) : cV g mX10_init [.ref d, .ref c, .int v] w k n K := by
  refine cV_of 3 0 0 rfl (by decide +kernel) rfl (Nat.le_of_ble_eq_true rfl) (Nat.zero_le _) (Nat.zero_le _) ?_
  simp (disch := omega) only [vX10_init_0, vX10_init_1, vX10_init_4, vX10_init_5, vX10_init_6, vX10_init_9, vX10_init_10, vX10_init_11, vX10_init_14, pI_c, pL_c, pF_c, pD_c, pA_n, pA_c, pA_rf, pR_c, pR_rf, pV_i, pV_a, pV_n, pV_rf, ldI_c, ldL_c, ldF_c, ldD_c, ldA_c, ldA_n, ldA_rf, dup2_l, dup2_ia, dup2_ir, popA_0, popA_s, getL_z, getL_s, setL_z, setL_1, setL_s, setL2_z, setL2_1, setL2_s, drop2_i, drop2_a, drop2_0, drop2_n, drop2_l, drop2_d, drop2_r, cwd_0, cwd_i, cwd_a, cwd_n, cwd_l, cwd_d, cwd_f, cwd_r, rf_s, rf_n, swi_0, swi_s, zR_b0, zR_b1, zN_b0, zN_b1, entV_i, entV_a, entV_n, entV_r, entV_f, entV_l, entV_d, entV_s, entV_0, List.length_cons, List.length_nil, List.nil_append, List.cons_append, true_and, and_true, Nat.reduceAdd, Nat.reduceLT, Nat.reduceEqDiff, Nat.reduceLeDiff, Nat.reduceSub, Nat.zero_add, Classical.not_not, ex_i, ex_l, ex_d, ex_r, ex_rs, ex_rn, ex_sm, Nat.sub_zero, eq_self, wn_sI, wn_sL, wn_sP, wsh_sI, wsh_sL, wsh_sP, wI_sL, wI_sP, wL_sI, wL_sP, wP_sI, wP_sL, wI_sI, wL_sL, Int32.reduceLT, Int32.reduceLE, true_implies, not_true_eq_false, false_implies, not_false_eq_true, i_10, hg, hs]
  exact h _ rfl rfl (fun b hb => (sP_same hb).tr (sI_same hb)) (wI_at.trans (if_pos rfl)) (by rw [wP_sI, wP_at, if_pos rfl])
set_option maxRecDepth 100000 in
set_option maxHeartbeats 4000000 in
theorem X8_und_loop {g : Ge} {x a u : Nat} {T : Nat → Int32} {w0 : Wd} {K : Option Value → Wd → Prop} (hgw : gB g ≤ wn w0) (hga : gB g ≤ a) (ha : a < wn w0) (hC : Cn g w0)
    (h0 : ∀ f w', pAll T u 8 [] 0 = .inl f → wn w0 ≤ wn w' → WF w' → (∀ b, b < wn w0 → b ≠ a → Same b w0 w') → wsh w' a = (8, 0) → wI w' a 6 = nI f → K (some .null) w')
    (h1 : ∀ D w' V c, pAll T u 8 [] 0 = .inr D → wn w0 ≤ wn w' → WF w' → (∀ b, b < wn w0 → b ≠ a → Same b w0 w') → wn w0 ≤ V → wn w0 ≤ c → wsh w' V = (10, 0) → wI w' V 1 = nI D.length → wP w' V 0 = some c → wsh w' c = (106, 8) → (∀ k y, D[k]? = some y → ∃ d, wn w0 ≤ d ∧ wP w' c k = some d ∧ FldY w' d y) → K (some (.ref V)) w') :
    ∀ (d : Nat) (L : List Fld) (p : Nat) (w : Wd) (c k0 n0 : Nat), L.length + d = 8 → d + 1 ≤ k0 → 6 * d + 2 ≤ n0 → pAll T u d L p = pAll T u 8 [] 0 → SX g x a w T u p → (∃ q, wI w a 3 = nI q ∧ SeenX q L) → wn w0 ≤ wn w → WF w → (∀ b, b < wn w0 → b ≠ a → Same b w0 w) → wn w0 ≤ c → wsh w c = (106, 8) → (∀ k y, L[k]? = some y → ∃ d, wn w0 ≤ d ∧ wP w c k = some d ∧ FldY w d y) → R g mX8_understood K 8 [some (.ref a), some (.ref c), some (.int (nI L.length))] [] w k0 n0 := by
  intro d
  induction d with
  | zero =>
    intro L p w c k0 n0 hl hk hn hp hS hq hw hW hsm hc hcs hF
    obtain ⟨p0, p1, p2, p3, p4, p5, p6, p7, p8, p9⟩ := id hS
    have e8 : (8 : Int32) ≤ nI L.length := by rw [ni_lit 8, ni_le (by decide) (by omega)]; omega
    simp (disch := omega) only [vX8_understood_8, vX8_understood_9, vX8_understood_11, vX8_understood_88, vX8_understood_89, vX8_understood_90, vX8_understood_93, pI_c, pL_c, pF_c, pD_c, pA_n, pA_c, pA_rf, pR_c, pR_rf, pV_i, pV_a, pV_n, pV_rf, ldI_c, ldL_c, ldF_c, ldD_c, ldA_c, ldA_n, ldA_rf, dup2_l, dup2_ia, dup2_ir, popA_0, popA_s, getL_z, getL_s, setL_z, setL_1, setL_s, setL2_z, setL2_1, setL2_s, drop2_i, drop2_a, drop2_0, drop2_n, drop2_l, drop2_d, drop2_r, cwd_0, cwd_i, cwd_a, cwd_n, cwd_l, cwd_d, cwd_f, cwd_r, rf_s, rf_n, swi_0, swi_s, zR_b0, zR_b1, zN_b0, zN_b1, entV_i, entV_a, entV_n, entV_r, entV_f, entV_l, entV_d, entV_s, entV_0, List.length_cons, List.length_nil, List.nil_append, List.cons_append, true_and, and_true, Nat.reduceAdd, Nat.reduceLT, Nat.reduceEqDiff, Nat.reduceLeDiff, Nat.reduceSub, Nat.zero_add, Classical.not_not, ex_i, ex_l, ex_d, ex_r, ex_rs, ex_rn, ex_sm, Nat.sub_zero, eq_self, wn_sI, wn_sL, wn_sP, wsh_sI, wsh_sL, wsh_sP, wI_sL, wI_sP, wL_sI, wL_sP, wP_sI, wP_sL, wI_sI, wL_sL, Int32.reduceLT, Int32.reduceLE, true_implies, not_true_eq_false, false_implies, not_false_eq_true, i_10, e8, p1, p6]
    refine X8_faultAt_ok p0 p1 _ ?_
    simp only [vX8_understood_96, vX8_understood_97, vX8_understood_98, pI_c, pL_c, pF_c, pD_c, pA_n, pA_c, pA_rf, pR_c, pR_rf, pV_i, pV_a, pV_n, pV_rf, ldI_c, ldL_c, ldF_c, ldD_c, ldA_c, ldA_n, ldA_rf, dup2_l, dup2_ia, dup2_ir, popA_0, popA_s, getL_z, getL_s, setL_z, setL_1, setL_s, setL2_z, setL2_1, setL2_s, drop2_i, drop2_a, drop2_0, drop2_n, drop2_l, drop2_d, drop2_r, cwd_0, cwd_i, cwd_a, cwd_n, cwd_l, cwd_d, cwd_f, cwd_r, rf_s, rf_n, swi_0, swi_s, zR_b0, zR_b1, zN_b0, zN_b1, entV_i, entV_a, entV_n, entV_r, entV_f, entV_l, entV_d, entV_s, entV_0, List.length_cons, List.length_nil, List.nil_append, List.cons_append, true_and, and_true, Nat.reduceAdd, Nat.reduceLT, Nat.reduceEqDiff, Nat.reduceLeDiff, Nat.reduceSub, Nat.zero_add, Classical.not_not, ex_i, ex_l, ex_d, ex_r, ex_rs, ex_rn, ex_sm, Nat.sub_zero, eq_self, wn_sI, wn_sL, wn_sP, wsh_sI, wsh_sL, wsh_sP, wI_sL, wI_sP, wL_sI, wL_sP, wP_sI, wP_sL, wI_sI, wL_sL, Int32.reduceLT, Int32.reduceLE, true_implies, not_true_eq_false, false_implies, not_false_eq_true, i_10]
    exact h0 p _ hp.symm hw (fun b hb => hW b hb) (fun b h1 h2 => (hsm b h1 h2).tr (sI_same h2)) p1 (wI_at.trans (if_pos rfl))
  | succ d ih =>
    intro L p w c k0 n0 hl hk hn hp hS hq hw hW hsm hc hcs hF
    obtain ⟨p0, p1, p2, p3, p4, p5, p6, p7, p8, p9⟩ := id hS
    obtain ⟨q, hq, hL⟩ := hq
    have e8 : ¬ (8 : Int32) ≤ nI L.length := by rw [ni_lit 8, ni_le (by decide) (by omega)]; omega
    have hCw : Cn g w := hC.kept fun b hb _ => by
      have := hsm b (by omega) (by omega)
      exact ⟨this.1, this.2.1, this.2.2.2⟩
    have hcl : c < wn w := hW.lt (by rw [hcs]; show 106 < 109; omega)
    have hca : c ≠ a := by omega
    have hgc : gB g ≤ c := by omega
    rw [pAll] at hp
    simp (disch := omega) only [vX8_understood_8, vX8_understood_9, vX8_understood_11, vX8_understood_14, vX8_understood_15, vX8_understood_16, vX8_understood_17, pI_c, pL_c, pF_c, pD_c, pA_n, pA_c, pA_rf, pR_c, pR_rf, pV_i, pV_a, pV_n, pV_rf, ldI_c, ldL_c, ldF_c, ldD_c, ldA_c, ldA_n, ldA_rf, dup2_l, dup2_ia, dup2_ir, popA_0, popA_s, getL_z, getL_s, setL_z, setL_1, setL_s, setL2_z, setL2_1, setL2_s, drop2_i, drop2_a, drop2_0, drop2_n, drop2_l, drop2_d, drop2_r, cwd_0, cwd_i, cwd_a, cwd_n, cwd_l, cwd_d, cwd_f, cwd_r, rf_s, rf_n, swi_0, swi_s, zR_b0, zR_b1, zN_b0, zN_b1, entV_i, entV_a, entV_n, entV_r, entV_f, entV_l, entV_d, entV_s, entV_0, List.length_cons, List.length_nil, List.nil_append, List.cons_append, true_and, and_true, Nat.reduceAdd, Nat.reduceLT, Nat.reduceEqDiff, Nat.reduceLeDiff, Nat.reduceSub, Nat.zero_add, Classical.not_not, ex_i, ex_l, ex_d, ex_r, ex_rs, ex_rn, ex_sm, Nat.sub_zero, eq_self, wn_sI, wn_sL, wn_sP, wsh_sI, wsh_sL, wsh_sP, wI_sL, wI_sP, wL_sI, wL_sP, wP_sI, wP_sL, wI_sI, wL_sL, Int32.reduceLT, Int32.reduceLE, true_implies, not_true_eq_false, false_implies, not_false_eq_true, i_10, e8, p1]
    refine X8_nextField_ok hCw hW (by omega) hS hq hL (by omega) (by omega) (fun f w1 r f1 r6 => ?_) (fun y p' w1 r e1 e2 e3 S1 q1 y1 => ?_)
    · simp only [r] at hp
      have hc1 : wsh w1 c = (106, 8) := by rw [f1.sh]; exact hcs
      have P1 : wP (sP w1 c L.length none) c L.length = none := by rw [wP_at, if_pos rfl]
      simp (disch := omega) only [vX8_understood_20, vX8_understood_21, vX8_understood_22, vX8_understood_23, vX8_understood_24, vX8_understood_27, vX8_understood_28, pI_c, pL_c, pF_c, pD_c, pA_n, pA_c, pA_rf, pR_c, pR_rf, pV_i, pV_a, pV_n, pV_rf, ldI_c, ldL_c, ldF_c, ldD_c, ldA_c, ldA_n, ldA_rf, dup2_l, dup2_ia, dup2_ir, popA_0, popA_s, getL_z, getL_s, setL_z, setL_1, setL_s, setL2_z, setL2_1, setL2_s, drop2_i, drop2_a, drop2_0, drop2_n, drop2_l, drop2_d, drop2_r, cwd_0, cwd_i, cwd_a, cwd_n, cwd_l, cwd_d, cwd_f, cwd_r, rf_s, rf_n, swi_0, swi_s, zR_b0, zR_b1, zN_b0, zN_b1, entV_i, entV_a, entV_n, entV_r, entV_f, entV_l, entV_d, entV_s, entV_0, List.length_cons, List.length_nil, List.nil_append, List.cons_append, true_and, and_true, Nat.reduceAdd, Nat.reduceLT, Nat.reduceEqDiff, Nat.reduceLeDiff, Nat.reduceSub, Nat.zero_add, Classical.not_not, ex_i, ex_l, ex_d, ex_r, ex_rs, ex_rn, ex_sm, Nat.sub_zero, eq_self, wn_sI, wn_sL, wn_sP, wsh_sI, wsh_sL, wsh_sP, wI_sL, wI_sP, wL_sI, wL_sP, wP_sI, wP_sL, wI_sI, wL_sL, Int32.reduceLT, Int32.reduceLE, true_implies, not_true_eq_false, false_implies, not_false_eq_true, i_10, na_1, nb_1, nm_1, ns_1, nr_1, na_2, nb_2, nm_2, ns_2, nr_2, na_3, nb_3, nm_3, ns_3, nr_3, na_4, nb_4, nm_4, ns_4, nr_4, na_5, nb_5, nm_5, ns_5, nr_5, na_6, nb_6, nm_6, ns_6, nr_6, na_7, nb_7, nm_7, ns_7, nr_7, na_8, nb_8, nm_8, ns_8, nr_8, na_10, nb_10, nm_10, ns_10, nr_10, na_16, nb_16, nm_16, ns_16, nr_16, nl_m1, ni_add, ni_mul, ni_sub, ni_cl, ni_in, vp_0, vp_1, vp_2, vp_3, vp_4, vp_5, Int32.reduceToNatClampNeg, hc1, hgc, P1]
      refine ⟨fun v hv => (by cases hv), ?_⟩
      have sm : ∀ b, b < wn w0 → b ≠ a → Same b w0 (sP w1 c L.length none) := fun b h1 h2 => ((hsm b h1 h2).tr (f1.same fun j z => h2 z.1)).tr (sP_same (by omega))
      exact h0 f _ hp.symm (by rw [wn_sP, f1.n]; exact hw) (fun b hb => by rw [wn_sP, f1.n] at hb; rw [wsh_sP, f1.sh]; exact hW b hb) sm (by rw [wsh_sP, f1.sh]; exact p1) (by rw [wI_sP]; exact r6)
    · simp only [r] at hp
      have hc1 : wsh w1 c = (106, 8) := (e3 c hcl hca).1.trans hcs
      have P1 : wP (sP w1 c L.length (some (wn w))) c L.length = some (wn w) := by rw [wP_at, if_pos rfl]
      simp (disch := omega) only [vX8_understood_20, vX8_understood_21, vX8_understood_22, vX8_understood_23, vX8_understood_24, pI_c, pL_c, pF_c, pD_c, pA_n, pA_c, pA_rf, pR_c, pR_rf, pV_i, pV_a, pV_n, pV_rf, ldI_c, ldL_c, ldF_c, ldD_c, ldA_c, ldA_n, ldA_rf, dup2_l, dup2_ia, dup2_ir, popA_0, popA_s, getL_z, getL_s, setL_z, setL_1, setL_s, setL2_z, setL2_1, setL2_s, drop2_i, drop2_a, drop2_0, drop2_n, drop2_l, drop2_d, drop2_r, cwd_0, cwd_i, cwd_a, cwd_n, cwd_l, cwd_d, cwd_f, cwd_r, rf_s, rf_n, swi_0, swi_s, zR_b0, zR_b1, zN_b0, zN_b1, entV_i, entV_a, entV_n, entV_r, entV_f, entV_l, entV_d, entV_s, entV_0, List.length_cons, List.length_nil, List.nil_append, List.cons_append, true_and, and_true, Nat.reduceAdd, Nat.reduceLT, Nat.reduceEqDiff, Nat.reduceLeDiff, Nat.reduceSub, Nat.zero_add, Classical.not_not, ex_i, ex_l, ex_d, ex_r, ex_rs, ex_rn, ex_sm, Nat.sub_zero, eq_self, wn_sI, wn_sL, wn_sP, wsh_sI, wsh_sL, wsh_sP, wI_sL, wI_sP, wL_sI, wL_sP, wP_sI, wP_sL, wI_sI, wL_sL, Int32.reduceLT, Int32.reduceLE, true_implies, not_true_eq_false, false_implies, not_false_eq_true, i_10, na_1, nb_1, nm_1, ns_1, nr_1, na_2, nb_2, nm_2, ns_2, nr_2, na_3, nb_3, nm_3, ns_3, nr_3, na_4, nb_4, nm_4, ns_4, nr_4, na_5, nb_5, nm_5, ns_5, nr_5, na_6, nb_6, nm_6, ns_6, nr_6, na_7, nb_7, nm_7, ns_7, nr_7, na_8, nb_8, nm_8, ns_8, nr_8, na_10, nb_10, nm_10, ns_10, nr_10, na_16, nb_16, nm_16, ns_16, nr_16, nl_m1, ni_add, ni_mul, ni_sub, ni_cl, ni_in, vp_0, vp_1, vp_2, vp_3, vp_4, vp_5, Int32.reduceToNatClampNeg, hc1, hgc, P1]
      refine ⟨fun v hv => (by cases hv; rw [y1.1]; rfl), ?_⟩
      have s2 : ∀ b, b ≠ c → Same b w1 (sP w1 c L.length (some (wn w))) := fun b hb => sP_same hb
      have n2 : wn (sP w1 c L.length (some (wn w))) = wn w + 1 := by rw [wn_sP]; exact e1
      have W2 : WF (sP w1 c L.length (some (wn w))) := fun b hb => by rw [wn_sP] at hb; rw [wsh_sP]; exact e2 b hb
      have c2 : wsh (sP w1 c L.length (some (wn w))) c = (106, 8) := by rw [wsh_sP]; exact hc1
      have hF2 : ∀ k y', (L ++ [y])[k]? = some y' → ∃ d, wn w0 ≤ d ∧ d < wn w + 1 ∧ d ≠ a ∧ d ≠ c ∧ wP (sP w1 c L.length (some (wn w))) c k = some d ∧ FldY (sP w1 c L.length (some (wn w))) d y' := fun k y' hk => by
        by_cases z : k < L.length
        · rw [List.getElem?_append_left z] at hk
          obtain ⟨d, d1, d2, d3⟩ := hF k y' hk
          have hdl : d < wn w := hW.lt (by rw [d3.1]; decide)
          have hdc : d ≠ c := fun z => by
            have := d3.1
            rw [z, hcs] at this
            exact absurd this (by decide)
          refine ⟨d, d1, by omega, by omega, hdc, ?_, (d3.sm (e3 d hdl (by omega))).sm (s2 d hdc)⟩
          rw [wP_at, if_neg (by omega), (e3 c hcl hca).2.2.2]
          exact d2
        · have h2 := (List.getElem?_eq_some_iff.mp hk).1
          rw [List.length_append, List.length_singleton] at h2
          obtain rfl : k = L.length := by omega
          rw [List.getElem?_append_right (Nat.le_refl _), Nat.sub_self] at hk
          cases hk
          exact ⟨wn w, by omega, by omega, by omega, by omega, P1, y1.sm (s2 _ (by omega))⟩
      have S2 : SX g x a (sP w1 c L.length (some (wn w))) T u p' := S1.sm (s2 a (by omega)) (s2 (x + 3) (by omega))
      have Q2 : ∃ q2, wI (sP w1 c L.length (some (wn w))) a 3 = nI q2 ∧ SeenX q2 (L ++ [y]) := by rw [wI_sP]; exact q1
      have sm : ∀ b, b < wn w0 → b ≠ a → Same b w0 (sP w1 c L.length (some (wn w))) := fun b h1 h2 => ((hsm b h1 h2).tr (e3 b (by omega) h2)).tr (s2 b (by omega))
      generalize sP w1 c L.length (some (wn w)) = w2 at s2 n2 W2 c2 hF2 S2 Q2 sm ⊢
      obtain ⟨t0, t1, t2, t3, t4, t5, t6, t7, -⟩ := id S2
      simp (disch := omega) only [vX8_understood_29, vX8_understood_30, vX8_understood_33, vX8_understood_34, vX8_understood_37, pI_c, pL_c, pF_c, pD_c, pA_n, pA_c, pA_rf, pR_c, pR_rf, pV_i, pV_a, pV_n, pV_rf, ldI_c, ldL_c, ldF_c, ldD_c, ldA_c, ldA_n, ldA_rf, dup2_l, dup2_ia, dup2_ir, popA_0, popA_s, getL_z, getL_s, setL_z, setL_1, setL_s, setL2_z, setL2_1, setL2_s, drop2_i, drop2_a, drop2_0, drop2_n, drop2_l, drop2_d, drop2_r, cwd_0, cwd_i, cwd_a, cwd_n, cwd_l, cwd_d, cwd_f, cwd_r, rf_s, rf_n, swi_0, swi_s, zR_b0, zR_b1, zN_b0, zN_b1, entV_i, entV_a, entV_n, entV_r, entV_f, entV_l, entV_d, entV_s, entV_0, List.length_cons, List.length_nil, List.nil_append, List.cons_append, true_and, and_true, Nat.reduceAdd, Nat.reduceLT, Nat.reduceEqDiff, Nat.reduceLeDiff, Nat.reduceSub, Nat.zero_add, Classical.not_not, ex_i, ex_l, ex_d, ex_r, ex_rs, ex_rn, ex_sm, Nat.sub_zero, eq_self, wn_sI, wn_sL, wn_sP, wsh_sI, wsh_sL, wsh_sP, wI_sL, wI_sP, wL_sI, wL_sP, wP_sI, wP_sL, wI_sI, wL_sL, Int32.reduceLT, Int32.reduceLE, true_implies, not_true_eq_false, false_implies, not_false_eq_true, i_10, ni_le, ni_lt, ni_eq, ni_le1, ni_le0, ni_eq0, ni_eq1, ni_eq2, ni_eq8, ni_eq9, so_n, t1, t4, t6]
      by_cases z : p' = u
      · have es : sgn T u p' = -1 := if_neg (by omega)
        rw [if_neg (by rw [es]; decide), if_pos z] at hp
        have hk1 : 1 ≤ k0 - 1 := by omega
        have hn1 : 2 ≤ n0 - 6 := by omega
        simp (disch := omega) only [z, vX8_understood_40, vX8_understood_43, vX8_understood_44, vX8_understood_45, vX8_understood_46, vX8_understood_47, vX8_understood_48, pI_c, pL_c, pF_c, pD_c, pA_n, pA_c, pA_rf, pR_c, pR_rf, pV_i, pV_a, pV_n, pV_rf, ldI_c, ldL_c, ldF_c, ldD_c, ldA_c, ldA_n, ldA_rf, dup2_l, dup2_ia, dup2_ir, popA_0, popA_s, getL_z, getL_s, setL_z, setL_1, setL_s, setL2_z, setL2_1, setL2_s, drop2_i, drop2_a, drop2_0, drop2_n, drop2_l, drop2_d, drop2_r, cwd_0, cwd_i, cwd_a, cwd_n, cwd_l, cwd_d, cwd_f, cwd_r, rf_s, rf_n, swi_0, swi_s, zR_b0, zR_b1, zN_b0, zN_b1, entV_i, entV_a, entV_n, entV_r, entV_f, entV_l, entV_d, entV_s, entV_0, List.length_cons, List.length_nil, List.nil_append, List.cons_append, true_and, and_true, Nat.reduceAdd, Nat.reduceLT, Nat.reduceEqDiff, Nat.reduceLeDiff, Nat.reduceSub, Nat.zero_add, Classical.not_not, ex_i, ex_l, ex_d, ex_r, ex_rs, ex_rn, ex_sm, Nat.sub_zero, eq_self, wn_sI, wn_sL, wn_sP, wsh_sI, wsh_sL, wsh_sP, wI_sL, wI_sP, wL_sI, wL_sP, wP_sI, wP_sL, wI_sI, wL_sL, Int32.reduceLT, Int32.reduceLE, true_implies, not_true_eq_false, false_implies, not_false_eq_true, i_10, na_1, nb_1, nm_1, ns_1, nr_1, na_2, nb_2, nm_2, ns_2, nr_2, na_3, nb_3, nm_3, ns_3, nr_3, na_4, nb_4, nm_4, ns_4, nr_4, na_5, nb_5, nm_5, ns_5, nr_5, na_6, nb_6, nm_6, ns_6, nr_6, na_7, nb_7, nm_7, ns_7, nr_7, na_8, nb_8, nm_8, ns_8, nr_8, na_10, nb_10, nm_10, ns_10, nr_10, na_16, nb_16, nm_16, ns_16, nr_16, nl_m1, ni_add, ni_mul, ni_sub, ni_cl, ni_in, vp_0, vp_1, vp_2, vp_3, vp_4, vp_5, Int32.reduceToNatClampNeg, hk1, hn1]
        refine X10_init_ok (d := wn w2) (c := c) (show gB g ≤ wn w2 by omega) (wsh_nwA w2 10 0) fun w3 g1 g2 g3 g4 g5 => ?_
        simp only [vX8_understood_51, pI_c, pL_c, pF_c, pD_c, pA_n, pA_c, pA_rf, pR_c, pR_rf, pV_i, pV_a, pV_n, pV_rf, ldI_c, ldL_c, ldF_c, ldD_c, ldA_c, ldA_n, ldA_rf, dup2_l, dup2_ia, dup2_ir, popA_0, popA_s, getL_z, getL_s, setL_z, setL_1, setL_s, setL2_z, setL2_1, setL2_s, drop2_i, drop2_a, drop2_0, drop2_n, drop2_l, drop2_d, drop2_r, cwd_0, cwd_i, cwd_a, cwd_n, cwd_l, cwd_d, cwd_f, cwd_r, rf_s, rf_n, swi_0, swi_s, zR_b0, zR_b1, zN_b0, zN_b1, entV_i, entV_a, entV_n, entV_r, entV_f, entV_l, entV_d, entV_s, entV_0, List.length_cons, List.length_nil, List.nil_append, List.cons_append, true_and, and_true, Nat.reduceAdd, Nat.reduceLT, Nat.reduceEqDiff, Nat.reduceLeDiff, Nat.reduceSub, Nat.zero_add, Classical.not_not, ex_i, ex_l, ex_d, ex_r, ex_rs, ex_rn, ex_sm, Nat.sub_zero, eq_self, wn_sI, wn_sL, wn_sP, wsh_sI, wsh_sL, wsh_sP, wI_sL, wI_sP, wL_sI, wL_sP, wP_sI, wP_sL, wI_sI, wL_sL, Int32.reduceLT, Int32.reduceLE, true_implies, not_true_eq_false, false_implies, not_false_eq_true, i_10]
        have s3 : ∀ b, b < wn w2 → Same b w2 w3 := fun b hb => (nw_same (by omega)).tr (g3 b (by omega))
        refine h1 (L ++ [y]) w3 (wn w2) c hp.symm (by rw [g1, wn_nw]; omega) (fun b hb => by rw [g1] at hb; rw [g2]; exact nw_wf W2 10 0 b hb) (fun b h1 h2 => (sm b h1 h2).tr (s3 b (by omega))) (by omega) hc (by rw [g2]; exact wsh_nwA w2 10 0) (by rw [g4, List.length_append, List.length_singleton]) g5 ((s3 c (by omega)).1.trans c2) fun k y' hk => ?_
        obtain ⟨d, d1, d2, d3, d4, d5, d6⟩ := hF2 k y' hk
        exact ⟨d, d1, by rw [(s3 c (by omega)).2.2.2]; exact d5, d6.sm (s3 d (by omega))⟩
      · simp (disch := omega) only [z, vX8_understood_52, vX8_understood_53, pI_c, pL_c, pF_c, pD_c, pA_n, pA_c, pA_rf, pR_c, pR_rf, pV_i, pV_a, pV_n, pV_rf, ldI_c, ldL_c, ldF_c, ldD_c, ldA_c, ldA_n, ldA_rf, dup2_l, dup2_ia, dup2_ir, popA_0, popA_s, getL_z, getL_s, setL_z, setL_1, setL_s, setL2_z, setL2_1, setL2_s, drop2_i, drop2_a, drop2_0, drop2_n, drop2_l, drop2_d, drop2_r, cwd_0, cwd_i, cwd_a, cwd_n, cwd_l, cwd_d, cwd_f, cwd_r, rf_s, rf_n, swi_0, swi_s, zR_b0, zR_b1, zN_b0, zN_b1, entV_i, entV_a, entV_n, entV_r, entV_f, entV_l, entV_d, entV_s, entV_0, List.length_cons, List.length_nil, List.nil_append, List.cons_append, true_and, and_true, Nat.reduceAdd, Nat.reduceLT, Nat.reduceEqDiff, Nat.reduceLeDiff, Nat.reduceSub, Nat.zero_add, Classical.not_not, ex_i, ex_l, ex_d, ex_r, ex_rs, ex_rn, ex_sm, Nat.sub_zero, eq_self, wn_sI, wn_sL, wn_sP, wsh_sI, wsh_sL, wsh_sP, wI_sL, wI_sP, wL_sI, wL_sP, wP_sI, wP_sL, wI_sI, wL_sL, Int32.reduceLT, Int32.reduceLE, true_implies, not_true_eq_false, false_implies, not_false_eq_true, i_10, t1]
        refine X8_here_ok S2 ?_
        simp (disch := omega) only [vX8_understood_56, vX8_understood_58, pI_c, pL_c, pF_c, pD_c, pA_n, pA_c, pA_rf, pR_c, pR_rf, pV_i, pV_a, pV_n, pV_rf, ldI_c, ldL_c, ldF_c, ldD_c, ldA_c, ldA_n, ldA_rf, dup2_l, dup2_ia, dup2_ir, popA_0, popA_s, getL_z, getL_s, setL_z, setL_1, setL_s, setL2_z, setL2_1, setL2_s, drop2_i, drop2_a, drop2_0, drop2_n, drop2_l, drop2_d, drop2_r, cwd_0, cwd_i, cwd_a, cwd_n, cwd_l, cwd_d, cwd_f, cwd_r, rf_s, rf_n, swi_0, swi_s, zR_b0, zR_b1, zN_b0, zN_b1, entV_i, entV_a, entV_n, entV_r, entV_f, entV_l, entV_d, entV_s, entV_0, List.length_cons, List.length_nil, List.nil_append, List.cons_append, true_and, and_true, Nat.reduceAdd, Nat.reduceLT, Nat.reduceEqDiff, Nat.reduceLeDiff, Nat.reduceSub, Nat.zero_add, Classical.not_not, ex_i, ex_l, ex_d, ex_r, ex_rs, ex_rn, ex_sm, Nat.sub_zero, eq_self, wn_sI, wn_sL, wn_sP, wsh_sI, wsh_sL, wsh_sP, wI_sL, wI_sP, wL_sI, wL_sP, wP_sI, wP_sL, wI_sI, wL_sL, Int32.reduceLT, Int32.reduceLE, true_implies, not_true_eq_false, false_implies, not_false_eq_true, i_10]
        refine ⟨fun z2 => ?_, fun z2 => ?_⟩
        · have hp2 := sgn_lt0 z2 (by decide)
          rw [if_pos z2] at hp
          simp (disch := omega) only [vX8_understood_72, vX8_understood_73, vX8_understood_74, vX8_understood_77, vX8_understood_78, vX8_understood_79, vX8_understood_82, vX8_understood_85, pI_c, pL_c, pF_c, pD_c, pA_n, pA_c, pA_rf, pR_c, pR_rf, pV_i, pV_a, pV_n, pV_rf, ldI_c, ldL_c, ldF_c, ldD_c, ldA_c, ldA_n, ldA_rf, dup2_l, dup2_ia, dup2_ir, popA_0, popA_s, getL_z, getL_s, setL_z, setL_1, setL_s, setL2_z, setL2_1, setL2_s, drop2_i, drop2_a, drop2_0, drop2_n, drop2_l, drop2_d, drop2_r, cwd_0, cwd_i, cwd_a, cwd_n, cwd_l, cwd_d, cwd_f, cwd_r, rf_s, rf_n, swi_0, swi_s, zR_b0, zR_b1, zN_b0, zN_b1, entV_i, entV_a, entV_n, entV_r, entV_f, entV_l, entV_d, entV_s, entV_0, List.length_cons, List.length_nil, List.nil_append, List.cons_append, true_and, and_true, Nat.reduceAdd, Nat.reduceLT, Nat.reduceEqDiff, Nat.reduceLeDiff, Nat.reduceSub, Nat.zero_add, Classical.not_not, ex_i, ex_l, ex_d, ex_r, ex_rs, ex_rn, ex_sm, Nat.sub_zero, eq_self, wn_sI, wn_sL, wn_sP, wsh_sI, wsh_sL, wsh_sP, wI_sL, wI_sP, wL_sI, wL_sP, wP_sI, wP_sL, wI_sI, wL_sL, Int32.reduceLT, Int32.reduceLE, true_implies, not_true_eq_false, false_implies, not_false_eq_true, i_10, na_1, nb_1, nm_1, ns_1, nr_1, na_2, nb_2, nm_2, ns_2, nr_2, na_3, nb_3, nm_3, ns_3, nr_3, na_4, nb_4, nm_4, ns_4, nr_4, na_5, nb_5, nm_5, ns_5, nr_5, na_6, nb_6, nm_6, ns_6, nr_6, na_7, nb_7, nm_7, ns_7, nr_7, na_8, nb_8, nm_8, ns_8, nr_8, na_10, nb_10, nm_10, ns_10, nr_10, na_16, nb_16, nm_16, ns_16, nr_16, nl_m1, ni_add, ni_mul, ni_sub, ni_cl, ni_in, vp_0, vp_1, vp_2, vp_3, vp_4, vp_5, Int32.reduceToNatClampNeg, t0, t1, t6]
          have S3 := S2.to (show p' + 1 ≤ u by omega)
          have f3 := aS_fr (a := a) (w := w2) (nI (p' + 1))
          have hlen : (L ++ [y]).length = L.length + 1 := by rw [List.length_append, List.length_singleton]
          rw [← hlen]
          refine ih (L ++ [y]) (p' + 1) _ c _ _ (by omega) (by omega) (by omega) hp S3 ?_ (by rw [f3.n]; omega) (f3.wfk W2) (fun b h1 h2 => (sm b h1 h2).tr (f3.same fun j z => h2 z.1)) hc (by rw [f3.sh]; exact c2) fun k y' hk => ?_
          · obtain ⟨q2, q3, q4⟩ := Q2
            exact ⟨q2, (f3.I a 3 (by unfold aS; omega)).trans q3, q4⟩
          · obtain ⟨d, d1, d2, d3, d4, d5, d6⟩ := hF2 k y' hk
            exact ⟨d, d1, by rw [f3.P]; exact d5, d6.sm (f3.same fun j z => d3 z.1)⟩
        · rw [if_neg z2, if_neg z] at hp
          simp (disch := omega) only [vX8_understood_61, vX8_understood_62, vX8_understood_63, vX8_understood_66, pI_c, pL_c, pF_c, pD_c, pA_n, pA_c, pA_rf, pR_c, pR_rf, pV_i, pV_a, pV_n, pV_rf, ldI_c, ldL_c, ldF_c, ldD_c, ldA_c, ldA_n, ldA_rf, dup2_l, dup2_ia, dup2_ir, popA_0, popA_s, getL_z, getL_s, setL_z, setL_1, setL_s, setL2_z, setL2_1, setL2_s, drop2_i, drop2_a, drop2_0, drop2_n, drop2_l, drop2_d, drop2_r, cwd_0, cwd_i, cwd_a, cwd_n, cwd_l, cwd_d, cwd_f, cwd_r, rf_s, rf_n, swi_0, swi_s, zR_b0, zR_b1, zN_b0, zN_b1, entV_i, entV_a, entV_n, entV_r, entV_f, entV_l, entV_d, entV_s, entV_0, List.length_cons, List.length_nil, List.nil_append, List.cons_append, true_and, and_true, Nat.reduceAdd, Nat.reduceLT, Nat.reduceEqDiff, Nat.reduceLeDiff, Nat.reduceSub, Nat.zero_add, Classical.not_not, ex_i, ex_l, ex_d, ex_r, ex_rs, ex_rn, ex_sm, Nat.sub_zero, eq_self, wn_sI, wn_sL, wn_sP, wsh_sI, wsh_sL, wsh_sP, wI_sL, wI_sP, wL_sI, wL_sP, wP_sI, wP_sL, wI_sI, wL_sL, Int32.reduceLT, Int32.reduceLE, true_implies, not_true_eq_false, false_implies, not_false_eq_true, i_10, t1, t6]
          refine X8_faultAt_ok t0 t1 _ ?_
          simp only [vX8_understood_69, vX8_understood_70, vX8_understood_71, pI_c, pL_c, pF_c, pD_c, pA_n, pA_c, pA_rf, pR_c, pR_rf, pV_i, pV_a, pV_n, pV_rf, ldI_c, ldL_c, ldF_c, ldD_c, ldA_c, ldA_n, ldA_rf, dup2_l, dup2_ia, dup2_ir, popA_0, popA_s, getL_z, getL_s, setL_z, setL_1, setL_s, setL2_z, setL2_1, setL2_s, drop2_i, drop2_a, drop2_0, drop2_n, drop2_l, drop2_d, drop2_r, cwd_0, cwd_i, cwd_a, cwd_n, cwd_l, cwd_d, cwd_f, cwd_r, rf_s, rf_n, swi_0, swi_s, zR_b0, zR_b1, zN_b0, zN_b1, entV_i, entV_a, entV_n, entV_r, entV_f, entV_l, entV_d, entV_s, entV_0, List.length_cons, List.length_nil, List.nil_append, List.cons_append, true_and, and_true, Nat.reduceAdd, Nat.reduceLT, Nat.reduceEqDiff, Nat.reduceLeDiff, Nat.reduceSub, Nat.zero_add, Classical.not_not, ex_i, ex_l, ex_d, ex_r, ex_rs, ex_rn, ex_sm, Nat.sub_zero, eq_self, wn_sI, wn_sL, wn_sP, wsh_sI, wsh_sL, wsh_sP, wI_sL, wI_sP, wL_sI, wL_sP, wP_sI, wP_sL, wI_sI, wL_sL, Int32.reduceLT, Int32.reduceLE, true_implies, not_true_eq_false, false_implies, not_false_eq_true, i_10]
          exact h0 p' _ hp.symm (show wn w0 ≤ wn w2 by omega) (fun b hb => W2 b hb) (fun b h1 h2 => (sm b h1 h2).tr (sI_same h2)) t1 (wI_at.trans (if_pos rfl))
set_option maxRecDepth 100000 in
set_option maxHeartbeats 4000000 in
theorem X8_understood_ok {g : Ge} {w : Wd} {k n : Nat} {K : Option Nat → Wd → Nat → Nat → Prop} {x a u : Nat} {T : Nat → Int32} (hgw : gB g ≤ wn w) (ha : a < wn w) (hC : Cn g w) (hW : WF w) (hS : SX g x a w T u 0) (hq : wI w a 3 = 0) (hk : 10 ≤ k) (hn : 58 ≤ n)
    (h0 : ∀ f w', pAll T u 8 [] 0 = .inl f → wn w ≤ wn w' → WF w' → (∀ b, b < wn w → b ≠ a → Same b w w') → wsh w' a = (8, 0) → wI w' a 6 = nI f → K none w' (k - 10) (n - 58))
    (h1 : ∀ D w' V c, pAll T u 8 [] 0 = .inr D → wn w ≤ wn w' → WF w' → (∀ b, b < wn w → b ≠ a → Same b w w') → wn w ≤ V → wn w ≤ c → wsh w' V = (10, 0) → wI w' V 1 = nI D.length → wP w' V 0 = some c → wsh w' c = (106, 8) → (∀ k y, D[k]? = some y → ∃ d, wn w ≤ d ∧ wP w' c k = some d ∧ FldY w' d y) → K (some V) w' (k - 10) (n - 58)) : cR g mX8_understood [.ref a] w k n K := by
  refine cR_of 3 10 58 rfl (by decide +kernel) rfl (Nat.le_of_ble_eq_true rfl) hk hn ?_
  have c8 : (8 : Int32).toNatClampNeg = 8 := rfl
  have n8 : ¬ (8 : Int32) < 0 := by decide
  simp (disch := omega) only [vX8_understood_0, vX8_understood_2, vX8_understood_5, vX8_understood_6, vX8_understood_7, pI_c, pL_c, pF_c, pD_c, pA_n, pA_c, pA_rf, pR_c, pR_rf, pV_i, pV_a, pV_n, pV_rf, ldI_c, ldL_c, ldF_c, ldD_c, ldA_c, ldA_n, ldA_rf, dup2_l, dup2_ia, dup2_ir, popA_0, popA_s, getL_z, getL_s, setL_z, setL_1, setL_s, setL2_z, setL2_1, setL2_s, drop2_i, drop2_a, drop2_0, drop2_n, drop2_l, drop2_d, drop2_r, cwd_0, cwd_i, cwd_a, cwd_n, cwd_l, cwd_d, cwd_f, cwd_r, rf_s, rf_n, swi_0, swi_s, zR_b0, zR_b1, zN_b0, zN_b1, entV_i, entV_a, entV_n, entV_r, entV_f, entV_l, entV_d, entV_s, entV_0, List.length_cons, List.length_nil, List.nil_append, List.cons_append, true_and, and_true, Nat.reduceAdd, Nat.reduceLT, Nat.reduceEqDiff, Nat.reduceLeDiff, Nat.reduceSub, Nat.zero_add, Classical.not_not, ex_i, ex_l, ex_d, ex_r, ex_rs, ex_rn, ex_sm, Nat.sub_zero, eq_self, wn_sI, wn_sL, wn_sP, wsh_sI, wsh_sL, wsh_sP, wI_sL, wI_sP, wL_sI, wL_sP, wP_sI, wP_sL, wI_sI, wL_sL, Int32.reduceLT, Int32.reduceLE, true_implies, not_true_eq_false, false_implies, not_false_eq_true, i_10, c8, n8]
  rw [show (0 : Int32) = nI ([] : List Fld).length from rfl]
  have sm0 : ∀ b, b < wn w → Same b w (nw w 106 8) := fun b hb => nw_same (by omega)
  refine X8_und_loop (w0 := w) hgw hS.1 ha hC (fun f w' r1 r2 r3 r4 r5 r6 => ⟨none, rfl, h0 f w' r1 r2 r3 r4 r5 r6⟩) (fun D w' V c r1 r2 r3 r4 r5 r6 r7 r8 r9 r10 r11 => ⟨some V, rfl, h1 D w' V c r1 r2 r3 r4 r5 r6 r7 r8 r9 r10 r11⟩) 8 [] 0 (nw w 106 8) (wn w) _ _ rfl (by decide) (by decide) rfl (hS.sm (sm0 a ha) (sm0 _ (by have := hS.2.2.2.2.2.2.2.2.2; omega))) ⟨0, by rw [(sm0 a ha).2.1]; exact hq, by decide, fun s _ => by rw [Nat.zero_testBit]; rfl⟩ (by rw [wn_nw]; omega) (nw_wf hW 106 8) (fun b hb _ => sm0 b hb) (Nat.le_refl _) (wsh_nwA w 106 8) fun k y hk => by cases hk
set_option maxRecDepth 100000 in
set_option maxHeartbeats 4000000 in
theorem X8_init_ok {g : Ge} {w : Wd} {k n : Nat} {K : Wd → Nat → Nat → Prop} {a t : Nat} {u : Int32} (hg : gB g ≤ a) (hs : wsh w a = (8, 0)) (h : ∀ w', wn w' = wn w → wsh w' = wsh w → (∀ b, b ≠ a → Same b w w') → wP w' a 0 = some t → wI w' a 1 = u → wI w' a 2 = 0 → wI w' a 3 = 0 → K w' k n) : cV g mX8_init [.ref a, .ref t, .int u] w k n K := by
  refine cV_of 3 0 0 rfl (by decide +kernel) rfl (Nat.le_of_ble_eq_true rfl) (Nat.zero_le _) (Nat.zero_le _) ?_
  simp (disch := omega) only [vX8_init_0, vX8_init_1, vX8_init_4, vX8_init_5, vX8_init_6, vX8_init_9, vX8_init_10, vX8_init_11, vX8_init_14, vX8_init_15, vX8_init_16, vX8_init_19, vX8_init_20, vX8_init_21, vX8_init_24, vX8_init_25, vX8_init_26, vX8_init_29, vX8_init_30, vX8_init_31, vX8_init_34, vX8_init_35, vX8_init_36, vX8_init_39, pI_c, pL_c, pF_c, pD_c, pA_n, pA_c, pA_rf, pR_c, pR_rf, pV_i, pV_a, pV_n, pV_rf, ldI_c, ldL_c, ldF_c, ldD_c, ldA_c, ldA_n, ldA_rf, dup2_l, dup2_ia, dup2_ir, popA_0, popA_s, getL_z, getL_s, setL_z, setL_1, setL_s, setL2_z, setL2_1, setL2_s, drop2_i, drop2_a, drop2_0, drop2_n, drop2_l, drop2_d, drop2_r, cwd_0, cwd_i, cwd_a, cwd_n, cwd_l, cwd_d, cwd_f, cwd_r, rf_s, rf_n, swi_0, swi_s, zR_b0, zR_b1, zN_b0, zN_b1, entV_i, entV_a, entV_n, entV_r, entV_f, entV_l, entV_d, entV_s, entV_0, List.length_cons, List.length_nil, List.nil_append, List.cons_append, true_and, and_true, Nat.reduceAdd, Nat.reduceLT, Nat.reduceEqDiff, Nat.reduceLeDiff, Nat.reduceSub, Nat.zero_add, Classical.not_not, ex_i, ex_l, ex_d, ex_r, ex_rs, ex_rn, ex_sm, Nat.sub_zero, eq_self, wn_sI, wn_sL, wn_sP, wsh_sI, wsh_sL, wsh_sP, wI_sL, wI_sP, wL_sI, wL_sP, wP_sI, wP_sL, wI_sI, wL_sL, Int32.reduceLT, Int32.reduceLE, true_implies, not_true_eq_false, false_implies, not_false_eq_true, i_10, hg, hs, zN_b0]
  refine h _ rfl rfl (fun b hb => ((((((sI_same hb).tr (sI_same hb)).tr (sI_same hb)).tr (sI_same hb)).tr (sI_same hb)).tr (sP_same hb)).tr (sI_same hb)) ?_ ?_ ?_ ?_ <;> simp only [wI_sI, wI_sP, wP_sI, wP_sP, up2_n1, up2_at, Nat.reduceEqDiff, eq_self, if_true, if_false]
theorem AbsX.defTo {x : Nat} {w w' : Wd} {s s' : St} {T : Nat → Nat → Prop} (hA : AbsX x w s) (hk : Keep x w w') (hS : ∀ o, 1 ≤ o → o ≤ 40 → o ≠ 2 → Same (x + o) w w') (h0 : (∀ j, j ≠ 11 → wI w' x j = wI w x j) ∧ wL w' x = wL w x ∧ wP w' x = wP w x) (hB : Bt T s s') (hT : ∀ o j, T o j → (o = 0 ∧ j = 15) ∨ (6 ≤ o ∧ o ≤ 12)) (t1 : wI w' x 11 = 0) (t2 : s'.1 0 15 = 0) (h2 : VersX (x + 81) w' (wP w' (x + 2)) (s'.1 6) (fun j i => s'.1 (7 + j) i)) : AbsX x w' s' := by
  obtain ⟨ra, rb, h1, -, h3, h4, h5, h6, h7, h8, h9, h10⟩ := hA
  obtain ⟨i0, l0, q0⟩ := h0
  have b0 : ∀ j, j < 35 → j ≠ 15 → s'.1 0 j = s.1 0 j ∧ s'.2 0 j = s.2 0 j := fun j hj h15 => hB 0 j (Or.inl ⟨rfl, hj⟩) fun z => by have := hT _ _ z; omega
  have bo : ∀ o, 1 ≤ o → o ≤ 25 → (o ≤ 5 ∨ 13 ≤ o) → s'.1 o = s.1 o ∧ s'.2 o = s.2 o := fun o h1 h2 h3 => ⟨hB.A o h1 h2 fun j z => by have := hT _ _ z; omega, hB.B o h1 h2 fun j z => by have := hT _ _ z; omega⟩
  have c := fun o h1 h2 h3 => (bo o h1 h2 h3).1
  refine ⟨ra, rb, ?_, h2, ?_, ?_, ?_, ?_, ?_, ?_, ?_, ?_⟩
  · rw [(hS 1 (by decide) (by decide) (by decide)).2.2.2, c 1 (by decide) (by decide) (by decide), c 2 (by decide) (by decide) (by decide), c 3 (by decide) (by decide) (by decide), c 4 (by decide) (by decide) (by decide), (bo 5 (by decide) (by decide) (by decide)).2]
    exact h1.keep hk rfl
  · exact ⟨0, by decide, t1, t2, fun i hi => absurd hi (Nat.not_lt_zero i)⟩
  · rw [i0 12 (by decide), (hS 4 (by decide) (by decide) (by decide)).2.1, (b0 13 (by decide) (by decide)).1, c 13 (by decide) (by decide) (by decide)]
    exact h4
  · rw [q0, (b0 17 (by decide) (by decide)).1, c 15 (by decide) (by decide) (by decide)]
    exact h5.keep hk rfl
  · rw [i0 14 (by decide), l0, (b0 19 (by decide) (by decide)).1, (b0 20 (by decide) (by decide)).2]
    exact h6
  · rw [i0 13 (by decide), (b0 5 (by decide) (by decide)).1]
    exact h7
  · rw [(hS 36 (by decide) (by decide) (by decide)).2.1, (b0 21 (by decide) (by decide)).1, c 16 (by decide) (by decide) (by decide)]
    exact h8
  · intro i hi
    rw [(hS 5 (by decide) (by decide) (by decide)).2.1, c 17 (by decide) (by decide) (by decide)]
    exact h9 i hi
  · refine h10.keep hk (hS 38 (by decide) (by decide) (by decide)).2.2.2 (hS 39 (by decide) (by decide) (by decide)).2.2.2 (hS 37 (by decide) (by decide) (by decide)).2.1 (hS 40 (by decide) (by decide) (by decide)).2.1 (fun o h1 h2 => bo o (by omega) h2 (by omega)) (fun j h1 h2 => (b0 j (by omega) (by omega)).1) ?_
    rw [c 1 (by decide) (by decide) (by decide)]
    exact h10.ne
set_option maxRecDepth 100000 in
set_option maxHeartbeats 4000000 in
theorem X_define {g : Ge} {w : Wd} {k n : Nat} {K : Int32 → Wd → Nat → Nat → Prop} {x : Nat} {s : St} (hI : CI g x w s) (hk : 1000 ≤ k) (hn : 14000 ≤ n) (a : Int32) (h : ∀ ans w', Xo g x w w' → (∀ b s', SpDefine s a b s' → b = ans ∧ AbsX x w' s') → K ans w' (k - 1000) (n - 14000)) : cI g mX11_define [.ref x, .int a] w k n K := by
  obtain ⟨hx, hC, hW, hw, hA⟩ := id hI
  have hgx := hx.1
  refine cI_of 4 1000 14000 rfl (by decide +kernel) rfl (Nat.le_of_ble_eq_true rfl) hk hn ?_
  simp only [vX11_define_0, vX11_define_1, pI_c, pL_c, pF_c, pD_c, pA_n, pA_c, pA_rf, pR_c, pR_rf, pV_i, pV_a, pV_n, pV_rf, ldI_c, ldL_c, ldF_c, ldD_c, ldA_c, ldA_n, ldA_rf, dup2_l, dup2_ia, dup2_ir, popA_0, popA_s, getL_z, getL_s, setL_z, setL_1, setL_s, setL2_z, setL2_1, setL2_s, drop2_i, drop2_a, drop2_0, drop2_n, drop2_l, drop2_d, drop2_r, cwd_0, cwd_i, cwd_a, cwd_n, cwd_l, cwd_d, cwd_f, cwd_r, rf_s, rf_n, swi_0, swi_s, zR_b0, zR_b1, zN_b0, zN_b1, entV_i, entV_a, entV_n, entV_r, entV_f, entV_l, entV_d, entV_s, entV_0, List.length_cons, List.length_nil, List.nil_append, List.cons_append, true_and, and_true, Nat.reduceAdd, Nat.reduceLT, Nat.reduceEqDiff, Nat.reduceLeDiff, Nat.reduceSub, Nat.zero_add, Classical.not_not, ex_i, ex_l, ex_d, ex_r, ex_rs, ex_rn, ex_sm, Nat.sub_zero, eq_self, wn_sI, wn_sL, wn_sP, wsh_sI, wsh_sL, wsh_sP, wI_sL, wI_sP, wL_sI, wL_sP, wP_sI, wP_sL, wI_sI, wL_sL, Int32.reduceLT, Int32.reduceLE, true_implies, not_true_eq_false, false_implies, not_false_eq_true, i_10]
  refine X11_isVersion_ok _ ?_
  by_cases ha : 0 ≤ a ∧ a ≤ 5
  · rw [b2i_t ha]
    obtain ⟨v, hv, rfl⟩ := i_nat (c := 5) (by decide) ha.1 ha.2
    obtain ⟨u, hu, e1, e2, e3⟩ := hA.tape
    have n0 : ∀ a, a < wn w → Same a w (nw w 8 0) := fun a ha => nw_same (by omega)
    have hx0 : XS g x (nw w 8 0) := hx.sam fun o ho => n0 _ (by omega)
    have e11 : wI (nw w 8 0) x 11 = nI u := by rw [(n0 x (by omega)).2.1]; exact e1
    simp (disch := omega) only [vX11_define_4, vX11_define_7, vX11_define_8, vX11_define_9, vX11_define_12, vX11_define_13, vX11_define_14, vX11_define_17, vX11_define_18, vX11_define_21, xs_b hx0, xs_0 hx0, xs_obj hx0, xs_tape hx0, xp_x_2 hx0, pI_c, pL_c, pF_c, pD_c, pA_n, pA_c, pA_rf, pR_c, pR_rf, pV_i, pV_a, pV_n, pV_rf, ldI_c, ldL_c, ldF_c, ldD_c, ldA_c, ldA_n, ldA_rf, dup2_l, dup2_ia, dup2_ir, popA_0, popA_s, getL_z, getL_s, setL_z, setL_1, setL_s, setL2_z, setL2_1, setL2_s, drop2_i, drop2_a, drop2_0, drop2_n, drop2_l, drop2_d, drop2_r, cwd_0, cwd_i, cwd_a, cwd_n, cwd_l, cwd_d, cwd_f, cwd_r, rf_s, rf_n, swi_0, swi_s, zR_b0, zR_b1, zN_b0, zN_b1, entV_i, entV_a, entV_n, entV_r, entV_f, entV_l, entV_d, entV_s, entV_0, List.length_cons, List.length_nil, List.nil_append, List.cons_append, true_and, and_true, Nat.reduceAdd, Nat.reduceLT, Nat.reduceEqDiff, Nat.reduceLeDiff, Nat.reduceSub, Nat.zero_add, Classical.not_not, ex_i, ex_l, ex_d, ex_r, ex_rs, ex_rn, ex_sm, Nat.sub_zero, eq_self, wn_sI, wn_sL, wn_sP, wsh_sI, wsh_sL, wsh_sP, wI_sL, wI_sP, wL_sI, wL_sP, wP_sI, wP_sL, wI_sI, wL_sL, Int32.reduceLT, Int32.reduceLE, true_implies, not_true_eq_false, false_implies, not_false_eq_true, i_10, i_10, e11]
    refine X8_init_ok (by omega) (wsh_nwA w 8 0) fun w1 g1 g2 g3 g4 g5 g6 g7 => ?_
    have hx1 : XS g x w1 := hx0.sam fun o ho => g3 _ (by omega)
    simp (disch := omega) only [vX11_define_24, vX11_define_25, vX11_define_26, vX11_define_27, vX11_define_30, xs_b hx1, xs_0 hx1, xs_obj hx1, pI_c, pL_c, pF_c, pD_c, pA_n, pA_c, pA_rf, pR_c, pR_rf, pV_i, pV_a, pV_n, pV_rf, ldI_c, ldL_c, ldF_c, ldD_c, ldA_c, ldA_n, ldA_rf, dup2_l, dup2_ia, dup2_ir, popA_0, popA_s, getL_z, getL_s, setL_z, setL_1, setL_s, setL2_z, setL2_1, setL2_s, drop2_i, drop2_a, drop2_0, drop2_n, drop2_l, drop2_d, drop2_r, cwd_0, cwd_i, cwd_a, cwd_n, cwd_l, cwd_d, cwd_f, cwd_r, rf_s, rf_n, swi_0, swi_s, zR_b0, zR_b1, zN_b0, zN_b1, entV_i, entV_a, entV_n, entV_r, entV_f, entV_l, entV_d, entV_s, entV_0, List.length_cons, List.length_nil, List.nil_append, List.cons_append, true_and, and_true, Nat.reduceAdd, Nat.reduceLT, Nat.reduceEqDiff, Nat.reduceLeDiff, Nat.reduceSub, Nat.zero_add, Classical.not_not, ex_i, ex_l, ex_d, ex_r, ex_rs, ex_rn, ex_sm, Nat.sub_zero, eq_self, wn_sI, wn_sL, wn_sP, wsh_sI, wsh_sL, wsh_sP, wI_sL, wI_sP, wL_sI, wL_sP, wP_sI, wP_sL, wI_sI, wL_sL, Int32.reduceLT, Int32.reduceLE, true_implies, not_true_eq_false, false_implies, not_false_eq_true, i_10]
    have s2 : ∀ b, b ≠ x → Same b w1 (sI w1 x 11 0) := fun b hb => sI_same hb
    have hx2 : XS g x (sI w1 x 11 0) := hx1.sm (fun o _ => by rw [wsh_sI]) fun q _ => by rw [wP_sI]
    have i2 : ∀ j, j ≠ 11 → wI (sI w1 x 11 0) x j = wI w x j := fun j hj => by
      rw [wI_at, if_neg hj, (g3 x (by omega)).2.1, (n0 x (by omega)).2.1]
    have t2 : wI (sI w1 x 11 0) x 11 = 0 := wI_at.trans (if_pos rfl)
    have l2 : wL (sI w1 x 11 0) x = wL w x := by rw [wL_sI, (g3 x (by omega)).2.2.1, (n0 x (by omega)).2.2.1]
    have p2 : wP (sI w1 x 11 0) x = wP w x := by rw [wP_sI, (g3 x (by omega)).2.2.2, (n0 x (by omega)).2.2.2]
    have N2 : wn (sI w1 x 11 0) = wn w + 1 := by rw [wn_sI, g1, wn_nw]
    have W2 : WF (sI w1 x 11 0) := fun b hb => by
      rw [wn_sI, g1] at hb
      rw [wsh_sI, g2]
      exact nw_wf hW 8 0 b hb
    have sm2 : ∀ b, b < wn w → b ≠ x → Same b w (sI w1 x 11 0) := fun b hb hne => ((n0 b hb).tr (g3 b (by omega))).tr (s2 b hne)
    have S2 : SX g x (wn w) (sI w1 x 11 0) (s.1 14) u 0 := by
      have sa := s2 (wn w) (by omega)
      refine ⟨by omega, sa.1.trans (by rw [g2]; exact wsh_nwA w 8 0), by rw [sa.2.2.2]; exact g4, ?_, by rw [sa.2.1]; exact g5, hu, by rw [sa.2.1]; exact g6, Nat.zero_le _, fun i hi => ?_, by omega⟩
      · rw [(sm2 (x + 3) (by omega) (by omega)).1]
        exact xs_tape hx
      · rw [(sm2 (x + 3) (by omega) (by omega)).2.1]
        exact (e3 i hi).1
    have C2 : Cn g (sI w1 x 11 0) := hC.kept fun b hb _ => by
      have := sm2 b (by omega) (by omega)
      exact ⟨this.1, this.2.1, this.2.2.2⟩
    have q2 : wI (sI w1 x 11 0) (wn w) 3 = 0 := by rw [(s2 (wn w) (by omega)).2.1]; exact g7
    generalize sI w1 x 11 0 = w2 at hx2 i2 t2 l2 p2 N2 W2 sm2 S2 C2 q2 ⊢
    clear s2
    have s2a := S2.2.1
    simp (disch := omega) only [vX11_define_31, pI_c, pL_c, pF_c, pD_c, pA_n, pA_c, pA_rf, pR_c, pR_rf, pV_i, pV_a, pV_n, pV_rf, ldI_c, ldL_c, ldF_c, ldD_c, ldA_c, ldA_n, ldA_rf, dup2_l, dup2_ia, dup2_ir, popA_0, popA_s, getL_z, getL_s, setL_z, setL_1, setL_s, setL2_z, setL2_1, setL2_s, drop2_i, drop2_a, drop2_0, drop2_n, drop2_l, drop2_d, drop2_r, cwd_0, cwd_i, cwd_a, cwd_n, cwd_l, cwd_d, cwd_f, cwd_r, rf_s, rf_n, swi_0, swi_s, zR_b0, zR_b1, zN_b0, zN_b1, entV_i, entV_a, entV_n, entV_r, entV_f, entV_l, entV_d, entV_s, entV_0, List.length_cons, List.length_nil, List.nil_append, List.cons_append, true_and, and_true, Nat.reduceAdd, Nat.reduceLT, Nat.reduceEqDiff, Nat.reduceLeDiff, Nat.reduceSub, Nat.zero_add, Classical.not_not, ex_i, ex_l, ex_d, ex_r, ex_rs, ex_rn, ex_sm, Nat.sub_zero, eq_self, wn_sI, wn_sL, wn_sP, wsh_sI, wsh_sL, wsh_sP, wI_sL, wI_sP, wL_sI, wL_sP, wP_sI, wP_sL, wI_sI, wL_sL, Int32.reduceLT, Int32.reduceLE, true_implies, not_true_eq_false, false_implies, not_false_eq_true, i_10, s2a]
    refine X8_understood_ok (by omega) (by omega) C2 W2 S2 q2 (by omega) (by omega) (fun f w3 r1 r2 r3 r4 r5 r6 => ?_) (fun D w3 V c r1 r2 r3 r4 r5 r6 r7 r8 r9 r10 r11 => ?_)
    · simp (disch := omega) only [vX11_define_34, vX11_define_35, vX11_define_36, vX11_define_39, vX11_define_41, vX11_define_42, vX11_define_45, vX11_define_46, pI_c, pL_c, pF_c, pD_c, pA_n, pA_c, pA_rf, pR_c, pR_rf, pV_i, pV_a, pV_n, pV_rf, ldI_c, ldL_c, ldF_c, ldD_c, ldA_c, ldA_n, ldA_rf, dup2_l, dup2_ia, dup2_ir, popA_0, popA_s, getL_z, getL_s, setL_z, setL_1, setL_s, setL2_z, setL2_1, setL2_s, drop2_i, drop2_a, drop2_0, drop2_n, drop2_l, drop2_d, drop2_r, cwd_0, cwd_i, cwd_a, cwd_n, cwd_l, cwd_d, cwd_f, cwd_r, rf_s, rf_n, swi_0, swi_s, zR_b0, zR_b1, zN_b0, zN_b1, entV_i, entV_a, entV_n, entV_r, entV_f, entV_l, entV_d, entV_s, entV_0, List.length_cons, List.length_nil, List.nil_append, List.cons_append, true_and, and_true, Nat.reduceAdd, Nat.reduceLT, Nat.reduceEqDiff, Nat.reduceLeDiff, Nat.reduceSub, Nat.zero_add, Classical.not_not, ex_i, ex_l, ex_d, ex_r, ex_rs, ex_rn, ex_sm, Nat.sub_zero, eq_self, wn_sI, wn_sL, wn_sP, wsh_sI, wsh_sL, wsh_sP, wI_sL, wI_sP, wL_sI, wL_sP, wP_sI, wP_sL, wI_sI, wL_sL, Int32.reduceLT, Int32.reduceLE, true_implies, not_true_eq_false, false_implies, not_false_eq_true, i_10, r5, r6]
      have sm3 : ∀ b, b < wn w → b ≠ x → Same b w w3 := fun b hb hne => (sm2 b hb hne).tr (r4 b (by omega) (by omega))
      have sx3 := r4 x (by omega) (by omega)
      have hx3 : XS g x w3 := hx2.sam fun o ho => r4 _ (by omega) (by omega)
      have k3 : Keep x w w3 := fun b hb ht => sm3 b (hW.lt ht) (by omega)
      refine h _ w3 ⟨by omega, r3, hx3, fun b hb => sm3 b (by omega) (by omega)⟩ fun b s' z => ?_
      rcases z with ⟨z, -⟩ | ⟨v', u', hv', ev, hu', eu, z⟩
      · exact absurd ha z
      obtain rfl : v' = v := (nI_inj (by omega) (by omega) ev).symm
      obtain rfl : u' = u := nI_inj (by omega) (by omega) (eu.symm.trans e2)
      rcases z with ⟨f', z0, z1, z2, z3⟩ | ⟨D, z0, -⟩
      · rw [r1] at z0
        cases z0
        refine ⟨z1, hA.defTo k3 (fun o h1 h2 h3 => sm3 _ (by omega) (by omega)) ⟨fun j hj => by rw [sx3.2.1]; exact i2 j hj, by rw [sx3.2.2.1]; exact l2, by rw [sx3.2.2.2]; exact p2⟩ z2 (fun o j q => Or.inl q) (by rw [sx3.2.1]; exact t2) z3 ?_⟩
        rw [(sm3 (x + 2) (by omega) (by omega)).2.2.2]
        exact (hA.vers.keep k3 rfl).cg (fun v _ => z2.I 6 v (Or.inr ⟨by decide, by decide⟩) (by omega)) fun j i hj _ => z2.I _ _ (Or.inr ⟨by omega, by omega⟩) (by omega)
      · rw [r1] at z0
        cases z0
    · have sm3 : ∀ b, b < wn w → b ≠ x → Same b w w3 := fun b hb hne => (sm2 b hb hne).tr (r4 b (by omega) (by omega))
      have sx3 := r4 x (by omega) (by omega)
      have hx3 : XS g x w3 := hx2.sam fun o ho => r4 _ (by omega) (by omega)
      have s4 : ∀ b, b ≠ x + 2 → Same b w3 (sP w3 (x + 2) v (some V)) := fun b hb => sP_same hb
      have l4 : wI (sP w3 (x + 2) v (some V)) V 1 = nI D.length := by rw [wI_sP]; exact r8
      simp (disch := omega) only [vX11_define_34, vX11_define_35, vX11_define_36, vX11_define_47, vX11_define_48, vX11_define_51, vX11_define_52, vX11_define_53, vX11_define_54, vX11_define_55, vX11_define_58, xs_b hx3, xs_0 hx3, xs_obj hx3, xs_versions hx3, xp_x_1 hx3, pI_c, pL_c, pF_c, pD_c, pA_n, pA_c, pA_rf, pR_c, pR_rf, pV_i, pV_a, pV_n, pV_rf, ldI_c, ldL_c, ldF_c, ldD_c, ldA_c, ldA_n, ldA_rf, dup2_l, dup2_ia, dup2_ir, popA_0, popA_s, getL_z, getL_s, setL_z, setL_1, setL_s, setL2_z, setL2_1, setL2_s, drop2_i, drop2_a, drop2_0, drop2_n, drop2_l, drop2_d, drop2_r, cwd_0, cwd_i, cwd_a, cwd_n, cwd_l, cwd_d, cwd_f, cwd_r, rf_s, rf_n, swi_0, swi_s, zR_b0, zR_b1, zN_b0, zN_b1, entV_i, entV_a, entV_n, entV_r, entV_f, entV_l, entV_d, entV_s, entV_0, List.length_cons, List.length_nil, List.nil_append, List.cons_append, true_and, and_true, Nat.reduceAdd, Nat.reduceLT, Nat.reduceEqDiff, Nat.reduceLeDiff, Nat.reduceSub, Nat.zero_add, Classical.not_not, ex_i, ex_l, ex_d, ex_r, ex_rs, ex_rn, ex_sm, Nat.sub_zero, eq_self, wn_sI, wn_sL, wn_sP, wsh_sI, wsh_sL, wsh_sP, wI_sL, wI_sP, wL_sI, wL_sP, wP_sI, wP_sL, wI_sI, wL_sL, Int32.reduceLT, Int32.reduceLE, true_implies, not_true_eq_false, false_implies, not_false_eq_true, i_10, na_1, nb_1, nm_1, ns_1, nr_1, na_2, nb_2, nm_2, ns_2, nr_2, na_3, nb_3, nm_3, ns_3, nr_3, na_4, nb_4, nm_4, ns_4, nr_4, na_5, nb_5, nm_5, ns_5, nr_5, na_6, nb_6, nm_6, ns_6, nr_6, na_7, nb_7, nm_7, ns_7, nr_7, na_8, nb_8, nm_8, ns_8, nr_8, na_10, nb_10, nm_10, ns_10, nr_10, na_16, nb_16, nm_16, ns_16, nr_16, nl_m1, ni_add, ni_mul, ni_sub, ni_cl, ni_in, vp_0, vp_1, vp_2, vp_3, vp_4, vp_5, Int32.reduceToNatClampNeg, so_n, r7, l4]
      refine ⟨fun v' hv' => (by cases hv'; rw [r7]; rfl), ?_⟩
      have P4 : ∀ t, wP (sP w3 (x + 2) v (some V)) (x + 2) t = if t = v then some V else wP w (x + 2) t := fun t => by
        rw [wP_at, (sm3 (x + 2) (by omega) (by omega)).2.2.2]
      have sm4 : ∀ b, b < wn w → b ≠ x → b ≠ x + 2 → Same b w (sP w3 (x + 2) v (some V)) := fun b hb h1 h2 => (sm3 b hb h1).tr (s4 b h2)
      have hx4 : XS g x (sP w3 (x + 2) v (some V)) := hx3.but (fun o _ => by rw [wsh_sP]) fun o h1 h2 h3 h4 h5 => (s4 _ (by omega)).2.2.2
      have sx4 := sx3.tr (s4 x (by omega))
      have W4 : WF (sP w3 (x + 2) v (some V)) := fun b hb => by rw [wn_sP] at hb; rw [wsh_sP]; exact r3 b hb
      have N4 : wn w ≤ wn (sP w3 (x + 2) v (some V)) := by rw [wn_sP]; omega
      generalize sP w3 (x + 2) v (some V) = w4 at s4 l4 P4 sm4 hx4 sx4 W4 N4 ⊢
      have k4 : Keep x w w4 := fun b hb ht => sm4 b (hW.lt ht) (by omega) (by omega)
      refine h _ w4 ⟨N4, W4, hx4, fun b hb => sm4 b (by omega) (by omega) (by omega)⟩ fun b s' z => ?_
      rcases z with ⟨z, -⟩ | ⟨v', u', hv', ev, hu', eu, z⟩
      · exact absurd ha z
      obtain rfl : v' = v := (nI_inj (by omega) (by omega) ev).symm
      obtain rfl : u' = u := nI_inj (by omega) (by omega) (eu.symm.trans e2)
      rcases z with ⟨f', z0, -⟩ | ⟨D', z0, z1, z2, z3, z4, z5⟩
      · rw [r1] at z0
        cases z0
      · rw [r1] at z0
        cases z0
        obtain ⟨hDK, hD0, hD8⟩ := pAll_ok ⟨fun k x hx => (by cases hx), fun k l x y hx => (by cases hx)⟩ r1
        have hD8' : D.length ≤ 8 := by simpa using hD8
        have hD0' : 0 < D.length := hD0
        refine ⟨z1.trans r8.symm, hA.defTo k4 (fun o h1 h2 h3 => sm4 _ (by omega) (by omega) (by omega)) ⟨fun j hj => by rw [sx4.2.1]; exact i2 j hj, by rw [sx4.2.2.1]; exact l2, by rw [sx4.2.2.2]; exact p2⟩ z2 (fun o j q => by omega) (by rw [sx4.2.1]; exact t2) z3 ?_⟩
        refine (hA.vers.keep k4 rfl).upd (v0 := v') (fun t ht hne => ⟨by rw [P4, if_neg hne], z2.I 6 t (Or.inr ⟨by decide, by decide⟩) (by omega), fun j i hj hi => z2.I _ _ (Or.inr ⟨by omega, by omega⟩) (by omega)⟩) (Or.inr ⟨V, D.length, hD0', z4, by rw [P4, if_pos rfl], ⟨hD8', fun i hi => ?_, fun i l hi hl e => ?_⟩, ⟨by omega, (s4 V (by omega)).1.trans r7, l4, c, by omega, by rw [(s4 V (by omega)).2.2.2]; exact r9, (s4 c (by omega)).1.trans r10, fun i hi => ?_⟩⟩)
        · have hg := List.getElem?_eq_getElem hi
          obtain ⟨y0, y1, y2, y3, y4, y5⟩ := z5 i _ hg
          obtain ⟨f1, f2, f3, f4, f5, f6, f7, f8, f9⟩ := hDK.1 i _ hg
          exact ⟨_, _, _, _, _, f1, f2, f3, f4, f5, y0, y1, y2, y3, y4, fun q => y5.trans (f6 q), f7, by show -999999 ≤ (s'.1 12 (8 * v' + i)).toInt; rw [y5]; exact f8, by show (s'.1 12 (8 * v' + i)).toInt ≤ 999999; rw [y5]; exact f9⟩
        · have hg := List.getElem?_eq_getElem hi
          have hg2 := List.getElem?_eq_getElem hl
          have e' : nI (D[i]).1 = nI (D[l]).1 := ((z5 i _ hg).1.symm.trans e).trans (z5 l _ hg2).1
          have b1 := (hDK.1 i _ hg).1
          have b2 := (hDK.1 l _ hg2).1
          exact hDK.2 i l _ _ hg hg2 (nI_inj (by omega) (by omega) e')
        · have hg := List.getElem?_eq_getElem hi
          obtain ⟨y0, y1, y2, y3, y4, y5⟩ := z5 i _ hg
          obtain ⟨d, d1, d2, d3⟩ := r11 i _ hg
          have d4 := d3.sm (s4 d (by omega))
          obtain ⟨f0, f1, f2, f3, f4, f5, f6⟩ := d4
          refine ⟨d, by omega, by rw [(s4 c (by omega)).2.2.2]; exact d2, f0, fun j hj => ?_⟩
          rcases (show j = 0 ∨ j = 1 ∨ j = 2 ∨ j = 3 ∨ j = 4 ∨ j = 5 by omega) with rfl | rfl | rfl | rfl | rfl | rfl
          · exact f1.trans y0.symm
          · exact f2.trans y1.symm
          · exact f3.trans y2.symm
          · exact f4.trans y3.symm
          · exact f5.trans y4.symm
          · exact f6.trans y5.symm
  · rw [b2i_f ha]
    simp only [vX11_define_4, vX11_define_7, vX11_define_8, pI_c, pL_c, pF_c, pD_c, pA_n, pA_c, pA_rf, pR_c, pR_rf, pV_i, pV_a, pV_n, pV_rf, ldI_c, ldL_c, ldF_c, ldD_c, ldA_c, ldA_n, ldA_rf, dup2_l, dup2_ia, dup2_ir, popA_0, popA_s, getL_z, getL_s, setL_z, setL_1, setL_s, setL2_z, setL2_1, setL2_s, drop2_i, drop2_a, drop2_0, drop2_n, drop2_l, drop2_d, drop2_r, cwd_0, cwd_i, cwd_a, cwd_n, cwd_l, cwd_d, cwd_f, cwd_r, rf_s, rf_n, swi_0, swi_s, zR_b0, zR_b1, zN_b0, zN_b1, entV_i, entV_a, entV_n, entV_r, entV_f, entV_l, entV_d, entV_s, entV_0, List.length_cons, List.length_nil, List.nil_append, List.cons_append, true_and, and_true, Nat.reduceAdd, Nat.reduceLT, Nat.reduceEqDiff, Nat.reduceLeDiff, Nat.reduceSub, Nat.zero_add, Classical.not_not, ex_i, ex_l, ex_d, ex_r, ex_rs, ex_rn, ex_sm, Nat.sub_zero, eq_self, wn_sI, wn_sL, wn_sP, wsh_sI, wsh_sL, wsh_sP, wI_sL, wI_sP, wL_sI, wL_sP, wP_sI, wP_sL, wI_sI, wL_sL, Int32.reduceLT, Int32.reduceLE, true_implies, not_true_eq_false, false_implies, not_false_eq_true, i_10]
    refine SpNo hI h fun b s' z => ?_
    rcases z with ⟨-, z1, z2⟩ | ⟨v', u', hv', ev, -⟩
    · exact ⟨z1, z2⟩
    · refine absurd ?_ ha
      rw [ev, ni_lit 0, ni_lit 5, ni_le (by decide) (by omega), ni_le (by omega) (by decide)]
      omega
