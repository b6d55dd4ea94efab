/-! the class: pack -/
theorem cpI_at (w : Wd) (a b sp dp len j : Nat) : wI (cpI w a b sp dp len) b j = if dp ≤ j ∧ j < dp + len then wI w a (sp + (j - dp)) else wI w b j := by
  show va_up (wI w) b (va_cpy (wI w a) (wI w b) sp dp len) b j = _
  simp [va_up, va_cpy]
theorem cpI_ne {w : Wd} {a b sp dp len c : Nat} (h : c ≠ b) : wI (cpI w a b sp dp len) c = wI w c := by
  show va_up (wI w) b (va_cpy (wI w a) (wI w b) sp dp len) c = _
  simp [va_up, h]
theorem Fr.cp {S : Nat → Nat → Prop} {w w1 : Wd} (h : Fr S w w1) {a b sp dp len : Nat} (hs : ∀ j, dp ≤ j → j < dp + len → S b j) : Fr S w (cpI w1 a b sp dp len) := by
  refine ⟨h.1, h.2.1, h.2.2.1, fun c j q => ⟨Eq.trans ?_ (h.2.2.2 c j q).1, (h.2.2.2 c j q).2⟩⟩
  by_cases e : c = b
  · subst e
    rw [cpI_at, if_neg fun z => q (hs j z.1 z.2)]
  · rw [cpI_ne e]
set_option maxRecDepth 100000 in
set_option maxHeartbeats 4000000 in
theorem X11_putFrame_ok {g : Ge} {w : Wd} {k n : Nat} {K : Wd → Nat → Nat → Prop} {x u : Nat} {p a : Int32} {L : List Int32} (hx : XS g x w) (e12 : wI w x 12 = nI u) (hO : OutX x w (p :: L)) (hu : u + L.length + 5 ≤ 500) (h : ∀ w', Fr (fun b j => (b = x ∧ j = 12) ∨ (b = x + 4 ∧ u ≤ j)) w w' → wI w' x 12 = nI (u + L.length + 5) → bufH (wI w' (x + 4)) u (frL a p L) → K w' k n) : cV g mX11_putFrame [.ref x, .int a, .ref (x + 7)] w k n K := by
  obtain ⟨o1, o2⟩ := hO
  rw [List.length_cons] at o1
  refine cV_of 6 0 0 rfl (by decide +kernel) rfl (Nat.le_of_ble_eq_true rfl) (Nat.zero_le _) (Nat.zero_le _) ?_
  simp (disch := omega) only [vX11_putFrame_0, vX11_putFrame_1, vX11_putFrame_4, vX11_putFrame_5, vX11_putFrame_6, vX11_putFrame_9, vX11_putFrame_10, vX11_putFrame_11, vX11_putFrame_12, vX11_putFrame_13, vX11_putFrame_16, vX11_putFrame_17, vX11_putFrame_18, vX11_putFrame_19, vX11_putFrame_20, vX11_putFrame_23, vX11_putFrame_24, vX11_putFrame_25, vX11_putFrame_28, vX11_putFrame_29, vX11_putFrame_30, vX11_putFrame_33, vX11_putFrame_34, vX11_putFrame_35, vX11_putFrame_36, vX11_putFrame_37, xs_b hx, xs_0 hx, xs_obj hx, xs_wire hx, xp_x_3 hx, xs_body hx, xp_packer_0 hx, xs_bytes hx, xp_body_0 hx, pI_c, pL_c, pF_c, pD_c, pA_n, pA_c, pA_rf, pR_c, pR_rf, pV_i, pV_a, pV_n, pV_rf, ldI_c, ldL_c, ldF_c, ldD_c, ldA_c, ldA_n, ldA_rf, dup2_l, dup2_ia, dup2_ir, popA_0, popA_s, getL_z, getL_s, setL_z, setL_1, setL_s, setL2_z, setL2_1, setL2_s, drop2_i, drop2_a, drop2_0, drop2_n, drop2_l, drop2_d, drop2_r, cwd_0, cwd_i, cwd_a, cwd_n, cwd_l, cwd_d, cwd_f, cwd_r, rf_s, rf_n, swi_0, swi_s, zR_b0, zR_b1, zN_b0, zN_b1, entV_i, entV_a, entV_n, entV_r, entV_f, entV_l, entV_d, entV_s, entV_0, List.length_cons, List.length_nil, List.nil_append, List.cons_append, true_and, and_true, Nat.reduceAdd, Nat.reduceLT, Nat.reduceEqDiff, Nat.reduceLeDiff, Nat.reduceSub, Nat.zero_add, Classical.not_not, ex_i, ex_l, ex_d, ex_r, ex_rs, ex_rn, ex_sm, Nat.sub_zero, eq_self, wn_sI, wn_sL, wn_sP, wsh_sI, wsh_sL, wsh_sP, wI_sL, wI_sP, wL_sI, wL_sP, wP_sI, wP_sL, wI_sI, wL_sL, Int32.reduceLT, Int32.reduceLE, true_implies, not_true_eq_false, false_implies, not_false_eq_true, i_10, na_1, nb_1, nm_1, ns_1, nr_1, na_2, nb_2, nm_2, ns_2, nr_2, na_3, nb_3, nm_3, ns_3, nr_3, na_4, nb_4, nm_4, ns_4, nr_4, na_5, nb_5, nm_5, ns_5, nr_5, na_6, nb_6, nm_6, ns_6, nr_6, na_7, nb_7, nm_7, ns_7, nr_7, na_8, nb_8, nm_8, ns_8, nr_8, na_10, nb_10, nm_10, ns_10, nr_10, na_16, nb_16, nm_16, ns_16, nr_16, nl_m1, ni_add, ni_mul, ni_sub, ni_cl, ni_in, vp_0, vp_1, vp_2, vp_3, vp_4, vp_5, Int32.reduceToNatClampNeg, up2_n1, up2_at, if_true, if_false, Nat.reduceEqDiff, eq_self, e12, o1]
  rw [vX11_putFrame_40]
  unfold stNat
  simp (disch := omega) only [xs_b hx, xs_0 hx, xs_obj hx, xs_wire hx, xp_x_3 hx, xs_body hx, xp_packer_0 hx, xs_bytes hx, xp_body_0 hx, pI_c, pL_c, pF_c, pD_c, pA_n, pA_c, pA_rf, pR_c, pR_rf, pV_i, pV_a, pV_n, pV_rf, ldI_c, ldL_c, ldF_c, ldD_c, ldA_c, ldA_n, ldA_rf, dup2_l, dup2_ia, dup2_ir, popA_0, popA_s, getL_z, getL_s, setL_z, setL_1, setL_s, setL2_z, setL2_1, setL2_s, drop2_i, drop2_a, drop2_0, drop2_n, drop2_l, drop2_d, drop2_r, cwd_0, cwd_i, cwd_a, cwd_n, cwd_l, cwd_d, cwd_f, cwd_r, rf_s, rf_n, swi_0, swi_s, zR_b0, zR_b1, zN_b0, zN_b1, entV_i, entV_a, entV_n, entV_r, entV_f, entV_l, entV_d, entV_s, entV_0, List.length_cons, List.length_nil, List.nil_append, List.cons_append, true_and, and_true, Nat.reduceAdd, Nat.reduceLT, Nat.reduceEqDiff, Nat.reduceLeDiff, Nat.reduceSub, Nat.zero_add, Classical.not_not, ex_i, ex_l, ex_d, ex_r, ex_rs, ex_rn, ex_sm, Nat.sub_zero, eq_self, wn_sI, wn_sL, wn_sP, wsh_sI, wsh_sL, wsh_sP, wI_sL, wI_sP, wL_sI, wL_sP, wP_sI, wP_sL, wI_sI, wL_sL, Int32.reduceLT, Int32.reduceLE, true_implies, not_true_eq_false, false_implies, not_false_eq_true, i_10, na_1, nb_1, nm_1, ns_1, nr_1, na_2, nb_2, nm_2, ns_2, nr_2, na_3, nb_3, nm_3, ns_3, nr_3, na_4, nb_4, nm_4, ns_4, nr_4, na_5, nb_5, nm_5, ns_5, nr_5, na_6, nb_6, nm_6, ns_6, nr_6, na_7, nb_7, nm_7, ns_7, nr_7, na_8, nb_8, nm_8, ns_8, nr_8, na_10, nb_10, nm_10, ns_10, nr_10, na_16, nb_16, nm_16, ns_16, nr_16, nl_m1, ni_add, ni_mul, ni_sub, ni_cl, ni_in, vp_0, vp_1, vp_2, vp_3, vp_4, vp_5, Int32.reduceToNatClampNeg, up2_n1, up2_at, if_true, if_false, Nat.reduceEqDiff, eq_self]
  refine ⟨⟨by decide +kernel, by decide +kernel⟩, by rw [show (0 : Int32) = nI 0 from rfl, ni_lt (by omega) (by omega)]; omega, by rw [show (0 : Int32) = nI 0 from rfl, ni_lt (by omega) (by omega)]; omega, by omega, by omega, Or.inl ?_⟩
  generalize hw1 : cpI (sI (sI w (x + 4) u a) (x + 4) (u + 1) (nI (L.length + 1))) (x + 8) (x + 4) 0 (u + 2) (L.length + 1) = w1
  have f1 : Fr (fun b j => (b = x ∧ j = 12) ∨ (b = x + 4 ∧ u ≤ j)) w w1 := by
    rw [← hw1]
    exact Fr.cp ((Fr.rf.i _ (Or.inr ⟨rfl, Nat.le_refl u⟩)).i _ (Or.inr ⟨rfl, by omega⟩)) fun j h1 h2 => Or.inr ⟨rfl, by omega⟩
  have b1 : bufH (wI w1 (x + 4)) u (frH a p L) := by
    intro i hi
    rw [← hw1, cpI_at]
    have hl : (frH a p L).length = L.length + 3 := rfl
    rw [hl] at hi
    rcases (show i = 0 ∨ i = 1 ∨ ∃ j, i = j + 2 by
      rcases i with _ | _ | j
      · exact Or.inl rfl
      · exact Or.inr (Or.inl rfl)
      · exact Or.inr (Or.inr ⟨j, rfl⟩)) with rfl | rfl | ⟨j, rfl⟩
    · rw [if_neg (by omega), wI_at, if_neg (by omega), wI_at, if_pos (by omega)]
      rfl
    · rw [if_neg (by omega), wI_at, if_pos (by omega), Nat.add_comm L.length 1]
      rfl
    · rw [if_pos (by omega), wI_ne (by omega), wI_ne (by omega)]
      have h3 := o2 j (by rw [List.length_cons]; omega)
      rw [show 0 + (u + (j + 2) - (u + 2)) = 0 + j by omega, ← h3]
      rfl
  clear hw1
  have hx1 := hx.fr f1
  have o1' : wI w1 (x + 7) 1 = nI (L.length + 1) := (f1.I _ _ (by omega)).trans o1
  simp (disch := omega) only [vX11_putFrame_43, vX11_putFrame_44, vX11_putFrame_45, vX11_putFrame_46, vX11_putFrame_47, vX11_putFrame_50, vX11_putFrame_51, vX11_putFrame_53, vX11_putFrame_54, vX11_putFrame_57, vX11_putFrame_58, xs_b hx1, xs_0 hx1, xs_obj hx1, xs_wire hx1, xp_x_3 hx1, xs_body hx1, xp_packer_0 hx1, pI_c, pL_c, pF_c, pD_c, pA_n, pA_c, pA_rf, pR_c, pR_rf, pV_i, pV_a, pV_n, pV_rf, ldI_c, ldL_c, ldF_c, ldD_c, ldA_c, ldA_n, ldA_rf, dup2_l, dup2_ia, dup2_ir, popA_0, popA_s, getL_z, getL_s, setL_z, setL_1, setL_s, setL2_z, setL2_1, setL2_s, drop2_i, drop2_a, drop2_0, drop2_n, drop2_l, drop2_d, drop2_r, cwd_0, cwd_i, cwd_a, cwd_n, cwd_l, cwd_d, cwd_f, cwd_r, rf_s, rf_n, swi_0, swi_s, zR_b0, zR_b1, zN_b0, zN_b1, entV_i, entV_a, entV_n, entV_r, entV_f, entV_l, entV_d, entV_s, entV_0, List.length_cons, List.length_nil, List.nil_append, List.cons_append, true_and, and_true, Nat.reduceAdd, Nat.reduceLT, Nat.reduceEqDiff, Nat.reduceLeDiff, Nat.reduceSub, Nat.zero_add, Classical.not_not, ex_i, ex_l, ex_d, ex_r, ex_rs, ex_rn, ex_sm, Nat.sub_zero, eq_self, wn_sI, wn_sL, wn_sP, wsh_sI, wsh_sL, wsh_sP, wI_sL, wI_sP, wL_sI, wL_sP, wP_sI, wP_sL, wI_sI, wL_sL, Int32.reduceLT, Int32.reduceLE, true_implies, not_true_eq_false, false_implies, not_false_eq_true, i_10, na_1, nb_1, nm_1, ns_1, nr_1, na_2, nb_2, nm_2, ns_2, nr_2, na_3, nb_3, nm_3, ns_3, nr_3, na_4, nb_4, nm_4, ns_4, nr_4, na_5, nb_5, nm_5, ns_5, nr_5, na_6, nb_6, nm_6, ns_6, nr_6, na_7, nb_7, nm_7, ns_7, nr_7, na_8, nb_8, nm_8, ns_8, nr_8, na_10, nb_10, nm_10, ns_10, nr_10, na_16, nb_16, nm_16, ns_16, nr_16, nl_m1, ni_add, ni_mul, ni_sub, ni_cl, ni_in, vp_0, vp_1, vp_2, vp_3, vp_4, vp_5, Int32.reduceToNatClampNeg, o1']
  have hsh : wsh w1 (x + 4) = (100, 500) := xs_wire hx1
  rw [show u + 2 + (L.length + 1) = u + (L.length + 3) by omega]
  simp (disch := omega) only [vX11_putFrame_60, pI_c, pL_c, pF_c, pD_c, pA_n, pA_c, pA_rf, pR_c, pR_rf, pV_i, pV_a, pV_n, pV_rf, ldI_c, ldL_c, ldF_c, ldD_c, ldA_c, ldA_n, ldA_rf, dup2_l, dup2_ia, dup2_ir, popA_0, popA_s, getL_z, getL_s, setL_z, setL_1, setL_s, setL2_z, setL2_1, setL2_s, drop2_i, drop2_a, drop2_0, drop2_n, drop2_l, drop2_d, drop2_r, cwd_0, cwd_i, cwd_a, cwd_n, cwd_l, cwd_d, cwd_f, cwd_r, rf_s, rf_n, swi_0, swi_s, zR_b0, zR_b1, zN_b0, zN_b1, entV_i, entV_a, entV_n, entV_r, entV_f, entV_l, entV_d, entV_s, entV_0, List.length_cons, List.length_nil, List.nil_append, List.cons_append, true_and, and_true, Nat.reduceAdd, Nat.reduceLT, Nat.reduceEqDiff, Nat.reduceLeDiff, Nat.reduceSub, Nat.zero_add, Classical.not_not, ex_i, ex_l, ex_d, ex_r, ex_rs, ex_rn, ex_sm, Nat.sub_zero, eq_self, wn_sI, wn_sL, wn_sP, wsh_sI, wsh_sL, wsh_sP, wI_sL, wI_sP, wL_sI, wL_sP, wP_sI, wP_sL, wI_sI, wL_sL, Int32.reduceLT, Int32.reduceLE, true_implies, not_true_eq_false, false_implies, not_false_eq_true, i_10]
  refine X2_sumOf_ok (x + 4) u (L.length + 3) (by rw [hsh]) (by rw [hsh]; show _ ≤ 500; omega) (by rw [hsh]; decide) ?_
  have hz : dgI (wI w1 (x + 4)) u 7 (L.length + 3) = dgL 7 (frH a p L) := dgI_off _ _ _ _ b1
  rw [hz]
  simp (disch := omega) only [vX11_putFrame_63, vX11_putFrame_65, vX11_putFrame_66, vX11_putFrame_69, vX11_putFrame_71, vX11_putFrame_73, vX11_putFrame_75, vX11_putFrame_76, vX11_putFrame_77, vX11_putFrame_78, vX11_putFrame_81, vX11_putFrame_83, vX11_putFrame_84, vX11_putFrame_85, vX11_putFrame_87, vX11_putFrame_90, vX11_putFrame_91, vX11_putFrame_92, vX11_putFrame_93, vX11_putFrame_95, vX11_putFrame_96, vX11_putFrame_97, vX11_putFrame_100, xs_b hx1, xs_0 hx1, xs_obj hx1, xs_wire hx1, xp_x_3 hx1, pI_c, pL_c, pF_c, pD_c, pA_n, pA_c, pA_rf, pR_c, pR_rf, pV_i, pV_a, pV_n, pV_rf, ldI_c, ldL_c, ldF_c, ldD_c, ldA_c, ldA_n, ldA_rf, dup2_l, dup2_ia, dup2_ir, popA_0, popA_s, getL_z, getL_s, setL_z, setL_1, setL_s, setL2_z, setL2_1, setL2_s, drop2_i, drop2_a, drop2_0, drop2_n, drop2_l, drop2_d, drop2_r, cwd_0, cwd_i, cwd_a, cwd_n, cwd_l, cwd_d, cwd_f, cwd_r, rf_s, rf_n, swi_0, swi_s, zR_b0, zR_b1, zN_b0, zN_b1, entV_i, entV_a, entV_n, entV_r, entV_f, entV_l, entV_d, entV_s, entV_0, List.length_cons, List.length_nil, List.nil_append, List.cons_append, true_and, and_true, Nat.reduceAdd, Nat.reduceLT, Nat.reduceEqDiff, Nat.reduceLeDiff, Nat.reduceSub, Nat.zero_add, Classical.not_not, ex_i, ex_l, ex_d, ex_r, ex_rs, ex_rn, ex_sm, Nat.sub_zero, eq_self, wn_sI, wn_sL, wn_sP, wsh_sI, wsh_sL, wsh_sP, wI_sL, wI_sP, wL_sI, wL_sP, wP_sI, wP_sL, wI_sI, wL_sL, Int32.reduceLT, Int32.reduceLE, true_implies, not_true_eq_false, false_implies, not_false_eq_true, i_10, na_1, nb_1, nm_1, ns_1, nr_1, na_2, nb_2, nm_2, ns_2, nr_2, na_3, nb_3, nm_3, ns_3, nr_3, na_4, nb_4, nm_4, ns_4, nr_4, na_5, nb_5, nm_5, ns_5, nr_5, na_6, nb_6, nm_6, ns_6, nr_6, na_7, nb_7, nm_7, ns_7, nr_7, na_8, nb_8, nm_8, ns_8, nr_8, na_10, nb_10, nm_10, ns_10, nr_10, na_16, nb_16, nm_16, ns_16, nr_16, nl_m1, ni_add, ni_mul, ni_sub, ni_cl, ni_in, vp_0, vp_1, vp_2, vp_3, vp_4, vp_5, Int32.reduceToNatClampNeg, up2_n1, up2_at, if_true, if_false, Nat.reduceEqDiff, eq_self, sum_hi, sum_lo]
  have hlen : (frH a p L).length = L.length + 3 := rfl
  refine h _ (((f1.i _ (Or.inr ⟨rfl, by omega⟩)).i _ (Or.inr ⟨rfl, by omega⟩)).i _ (Or.inl ⟨rfl, rfl⟩)) ?_ ?_
  · rw [wI_at, if_pos rfl, show u + (L.length + 3) + 2 = u + L.length + 5 by omega]
  · rw [show frL a p L = frH a p L ++ [(dgL 7 (frH a p L) >>> (8 &&& 31)) &&& 255] ++ [dgL 7 (frH a p L) &&& 255] by unfold frL; rw [List.append_assoc]; rfl]
    refine (b1.push (f' := wI (sI w1 (x + 4) (u + (L.length + 3)) ((dgL 7 (frH a p L) >>> (8 &&& 31)) &&& 255)) (x + 4)) _ ?_ fun i hi => ?_).push _ ?_ fun i hi => ?_
    · rw [hlen, wI_at, if_pos rfl]
    · rw [hlen] at hi
      rw [wI_at, if_neg (by omega)]
    · rw [List.length_append, hlen, List.length_singleton, wI_ne (by omega), wI_at, if_pos (by omega)]
    · rw [List.length_append, hlen, List.length_singleton] at hi
      rw [wI_ne (by omega), wI_at, if_neg (by omega)]
