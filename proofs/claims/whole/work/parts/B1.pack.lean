/-! the class: pack -/
theorem bys_box {K : Nat → Int32} {V : Nat → Int64} : ∀ n, (∀ i, i < n → ∃ o, o ≤ 8 ∧ K i = nI o) → bys (boxL K V n)
  | 0, _ => bys.nil
  | n + 1, h => by
    unfold boxL boxB
    refine (bys_box n fun i hi => h i (by omega)).app (bys.cons ?_ (bys_byts _ _))
    obtain ⟨o, h1, h2⟩ := h n (by omega)
    have h3 := wd_le (V n)
    split
    · exact ⟨0, by decide, rfl⟩
    · refine ⟨16 * (o + 1) + wd (V n), by omega, ?_⟩
      rw [h2, show (1 : Int32) = nI 1 from rfl, show (16 : Int32) = nI 16 from rfl, ni_add, ni_mul, ni_add]
theorem bys_nums (f : Nat → Int64) {n : Nat} (hn : n ≤ 16) : bys (numsL f n) := by
  have h1 := pMd_le f n
  have h2 := pW_le f n
  have h3 := smx_le f n
  unfold numsL
  refine bys.cons ⟨_, by omega, rfl⟩ (bys.app ?_ ?_)
  · split
    · exact bys.cons ⟨_, by omega, rfl⟩ bys.nil
    · exact bys.nil
  · split
    · exact bys_ru hn bys_byts _ _
    · exact bys_bp bys_byts _
theorem bys_pk {x v n : Nat} {w : Wd} {s : St} (hA : AbsX x w s) (hV : VerW n (fun j k => s.1 (7 + j) (8 * v + k))) : ∀ {k : Nat} {p : Int32} {L : List Int32}, k ≤ n → pk s v k = .inr (p, L) → bys L
  | 0, p, L, _, h => by
    unfold pk at h
    cases h
    exact bys.nil
  | k + 1, p, L, hk, h => by
    unfold pk at h
    split at h
    · cases h
    next p0 L0 h0 =>
      have ih := bys_pk hA hV (by omega) h0
      split at h
      next e1 =>
        split at h
        · cases h
        · cases h
          exact ih
      next e1 =>
        split at h
        next e2 =>
          cases h
          obtain ⟨t, kd, c, nd, td, a1, a2, a3, a4, a5, f0, f1, f2, -⟩ := hV.2.1 k (by omega)
          obtain ⟨r, z, b1, b2, b3, b4, b5, b6⟩ := (fcode_s hA.RW a1 f0 e1).2 e2
          refine ih.app ?_
          unfold fbyt
          refine bys.app ?_ ?_
          · split
            · exact bys.cons ⟨_, by omega, rfl⟩ bys.nil
            · exact bys.nil
          · split
            next e8 =>
              refine bys_box _ fun i hi => ?_
              have es : fsl s (8 * v + k) = s.1 1 t := by unfold fsl; rw [show s.1 7 (8 * v + k) = nI t from f0, ni_cl (by omega)]
              obtain ⟨o, o1, o2, -⟩ := box_at hA a1 es b3 b1 e8 i hi
              exact ⟨o, o1, o2⟩
            · split
              · exact bys.nil
              · exact bys_nums _ (by omega)
        · cases h
theorem bys_frL {a : Nat} {p : Int32} {L : List Int32} (ha : a ≤ 255) (hp : ∃ c, c ≤ 255 ∧ p = nI c) (hl : L.length ≤ 254) (hL : bys L) : bys (frL (nI a) p L) := by
  unfold frL frH
  refine bys.app (bys.cons ⟨_, ha, rfl⟩ (bys.cons ⟨_, by omega, rfl⟩ (bys.cons hp hL))) (bys.cons (and255 _) (bys.cons (and255 _) bys.nil))
theorem frL_len (a p : Int32) (L : List Int32) : (frL a p L).length = L.length + 5 := by
  unfold frL frH
  rw [List.length_append]
  rfl
set_option maxRecDepth 100000 in
set_option maxHeartbeats 4000000 in
theorem X_pack {g : Ge} {w : Wd} {k n : Nat} {K : Int32 → Wd → Nat → Nat → Prop} {x : Nat} {s : St} (hI : CI g x w s) (hk : 1000 ≤ k) (hn : 14000 ≤ n) (a : Int32) (h : ∀ ans w', Xo g x w w' → (∀ b s', SpPack s a b s' → b = ans ∧ AbsX x w' s') → K ans w' (k - 1000) (n - 14000)) : cI g mX11_pack [.ref x, .int a] w k n K := by
  obtain ⟨hx, hC, hW, hw, hA⟩ := id hI
  refine cI_of 4 1000 14000 rfl (by decide +kernel) rfl (Nat.le_of_ble_eq_true rfl) hk hn ?_
  simp only [vX11_pack_0, vX11_pack_1, vX11_pack_2, xs_b hx, xs_0 hx, xs_obj hx, pI_c, pL_c, pF_c, pD_c, pA_n, pA_c, pA_rf, pR_c, pR_rf, pV_i, pV_a, pV_n, pV_rf, ldI_c, ldL_c, ldF_c, ldD_c, ldA_c, ldA_n, ldA_rf, dup2_l, dup2_ia, dup2_ir, popA_0, popA_s, getL_z, getL_s, setL_z, setL_1, setL_s, setL2_z, setL2_1, setL2_s, drop2_i, drop2_a, drop2_0, drop2_n, drop2_l, drop2_d, drop2_r, cwd_0, cwd_i, cwd_a, cwd_n, cwd_l, cwd_d, cwd_f, cwd_r, rf_s, rf_n, swi_0, swi_s, zR_b0, zR_b1, zN_b0, zN_b1, entV_i, entV_a, entV_n, entV_r, entV_f, entV_l, entV_d, entV_s, entV_0, List.length_cons, List.length_nil, List.nil_append, List.cons_append, true_and, and_true, Nat.reduceAdd, Nat.reduceLT, Nat.reduceEqDiff, Nat.reduceLeDiff, Nat.reduceSub, Nat.zero_add, Classical.not_not, ex_i, ex_l, ex_d, ex_r, ex_rs, ex_rn, ex_sm, Nat.sub_zero, eq_self, wn_sI, wn_sL, wn_sP, wsh_sI, wsh_sL, wsh_sP, wI_sL, wI_sP, wL_sI, wL_sP, wP_sI, wP_sL, wI_sI, wL_sL, Int32.reduceLT, Int32.reduceLE, true_implies, not_true_eq_false, false_implies, not_false_eq_true, i_10]
  refine X11_lackOf_ok hx hA a ?_
  by_cases q : lackV s a = 0
  · rw [q]
    obtain ⟨v, hv, rfl, hv0⟩ := lackV_0 q
    have ha : 0 ≤ nI v ∧ nI v ≤ 5 := by
      rw [show (0 : Int32) = nI 0 from rfl, show (5 : Int32) = nI 5 from rfl, ni_le (by omega) (by omega), ni_le (by omega) (by omega)]
      omega
    rcases hA.ver hv with ⟨z1, z2⟩ | ⟨p, c, nn, z1, hV⟩
    · exact absurd z1 hv0
    · have hn8 := hV.n8
      have en : (s.1 6 v).toNatClampNeg = nn := by rw [hV.2.1, ni_cl (by omega)]
      obtain ⟨u, hu, e1, e2, e3⟩ := hA.wire
      simp (disch := omega) only [vX11_pack_5, vX11_pack_6, vX11_pack_7, vX11_pack_12, vX11_pack_13, vX11_pack_16, vX11_pack_17, vX11_pack_20, vX11_pack_21, vX11_pack_22, vX11_pack_23, vX11_pack_26, xs_b hx, xs_0 hx, xs_obj hx, xs_packer hx, xp_x_5 hx, xs_slots hx, xp_x_0 hx, xs_versions hx, xp_x_1 hx, pI_c, pL_c, pF_c, pD_c, pA_n, pA_c, pA_rf, pR_c, pR_rf, pV_i, pV_a, pV_n, pV_rf, ldI_c, ldL_c, ldF_c, ldD_c, ldA_c, ldA_n, ldA_rf, dup2_l, dup2_ia, dup2_ir, popA_0, popA_s, getL_z, getL_s, setL_z, setL_1, setL_s, setL2_z, setL2_1, setL2_s, drop2_i, drop2_a, drop2_0, drop2_n, drop2_l, drop2_d, drop2_r, cwd_0, cwd_i, cwd_a, cwd_n, cwd_l, cwd_d, cwd_f, cwd_r, rf_s, rf_n, swi_0, swi_s, zR_b0, zR_b1, zN_b0, zN_b1, entV_i, entV_a, entV_n, entV_r, entV_f, entV_l, entV_d, entV_s, entV_0, List.length_cons, List.length_nil, List.nil_append, List.cons_append, true_and, and_true, Nat.reduceAdd, Nat.reduceLT, Nat.reduceEqDiff, Nat.reduceLeDiff, Nat.reduceSub, Nat.zero_add, Classical.not_not, ex_i, ex_l, ex_d, ex_r, ex_rs, ex_rn, ex_sm, Nat.sub_zero, eq_self, wn_sI, wn_sL, wn_sP, wsh_sI, wsh_sL, wsh_sP, wI_sL, wI_sP, wL_sI, wL_sP, wP_sI, wP_sL, wI_sI, wL_sL, Int32.reduceLT, Int32.reduceLE, true_implies, not_true_eq_false, false_implies, not_false_eq_true, i_10, na_1, nb_1, nm_1, ns_1, nr_1, na_2, nb_2, nm_2, ns_2, nr_2, na_3, nb_3, nm_3, ns_3, nr_3, na_4, nb_4, nm_4, ns_4, nr_4, na_5, nb_5, nm_5, ns_5, nr_5, na_6, nb_6, nm_6, ns_6, nr_6, na_7, nb_7, nm_7, ns_7, nr_7, na_8, nb_8, nm_8, ns_8, nr_8, na_10, nb_10, nm_10, ns_10, nr_10, na_16, nb_16, nm_16, ns_16, nr_16, nl_m1, ni_add, ni_mul, ni_sub, ni_cl, ni_in, vp_0, vp_1, vp_2, vp_3, vp_4, vp_5, Int32.reduceToNatClampNeg, z1]
      refine X5_packs_ok hv hx hC hA hV (fun w1 e f1 q0 q1 q2 q3 => ?_) (fun w1 p' L f1 q0 q1 q2 => ?_)
      · have hx1 := hx.fr f1
        simp (disch := omega) only [vX11_pack_29, vX11_pack_32, vX11_pack_33, vX11_pack_34, vX11_pack_35, vX11_pack_38, vX11_pack_41, vX11_pack_42, vX11_pack_45, vX11_pack_48, vX11_pack_49, vX11_pack_52, vX11_pack_55, xs_b hx1, xs_0 hx1, xs_obj hx1, xs_packer hx1, xp_x_5 hx1, pI_c, pL_c, pF_c, pD_c, pA_n, pA_c, pA_rf, pR_c, pR_rf, pV_i, pV_a, pV_n, pV_rf, ldI_c, ldL_c, ldF_c, ldD_c, ldA_c, ldA_n, ldA_rf, dup2_l, dup2_ia, dup2_ir, popA_0, popA_s, getL_z, getL_s, setL_z, setL_1, setL_s, setL2_z, setL2_1, setL2_s, drop2_i, drop2_a, drop2_0, drop2_n, drop2_l, drop2_d, drop2_r, cwd_0, cwd_i, cwd_a, cwd_n, cwd_l, cwd_d, cwd_f, cwd_r, rf_s, rf_n, swi_0, swi_s, zR_b0, zR_b1, zN_b0, zN_b1, entV_i, entV_a, entV_n, entV_r, entV_f, entV_l, entV_d, entV_s, entV_0, List.length_cons, List.length_nil, List.nil_append, List.cons_append, true_and, and_true, Nat.reduceAdd, Nat.reduceLT, Nat.reduceEqDiff, Nat.reduceLeDiff, Nat.reduceSub, Nat.zero_add, Classical.not_not, ex_i, ex_l, ex_d, ex_r, ex_rs, ex_rn, ex_sm, Nat.sub_zero, eq_self, wn_sI, wn_sL, wn_sP, wsh_sI, wsh_sL, wsh_sP, wI_sL, wI_sP, wL_sI, wL_sP, wP_sI, wP_sL, wI_sI, wL_sL, Int32.reduceLT, Int32.reduceLE, true_implies, not_true_eq_false, false_implies, not_false_eq_true, i_10, na_1, nb_1, nm_1, ns_1, nr_1, na_2, nb_2, nm_2, ns_2, nr_2, na_3, nb_3, nm_3, ns_3, nr_3, na_4, nb_4, nm_4, ns_4, nr_4, na_5, nb_5, nm_5, ns_5, nr_5, na_6, nb_6, nm_6, ns_6, nr_6, na_7, nb_7, nm_7, ns_7, nr_7, na_8, nb_8, nm_8, ns_8, nr_8, na_10, nb_10, nm_10, ns_10, nr_10, na_16, nb_16, nm_16, ns_16, nr_16, nl_m1, ni_add, ni_mul, ni_sub, ni_cl, ni_in, vp_0, vp_1, vp_2, vp_3, vp_4, vp_5, Int32.reduceToNatClampNeg, q1, q2, q3]
        refine X11_stopBy_ok hx1 1 e.1 e.2.1 e.2.2 fun w2 f2 g0 g1 g2 g3 => ?_
        simp (disch := omega) only [vX11_pack_58, vX11_pack_60, pI_c, pL_c, pF_c, pD_c, pA_n, pA_c, pA_rf, pR_c, pR_rf, pV_i, pV_a, pV_n, pV_rf, ldI_c, ldL_c, ldF_c, ldD_c, ldA_c, ldA_n, ldA_rf, dup2_l, dup2_ia, dup2_ir, popA_0, popA_s, getL_z, getL_s, setL_z, setL_1, setL_s, setL2_z, setL2_1, setL2_s, drop2_i, drop2_a, drop2_0, drop2_n, drop2_l, drop2_d, drop2_r, cwd_0, cwd_i, cwd_a, cwd_n, cwd_l, cwd_d, cwd_f, cwd_r, rf_s, rf_n, swi_0, swi_s, zR_b0, zR_b1, zN_b0, zN_b1, entV_i, entV_a, entV_n, entV_r, entV_f, entV_l, entV_d, entV_s, entV_0, List.length_cons, List.length_nil, List.nil_append, List.cons_append, true_and, and_true, Nat.reduceAdd, Nat.reduceLT, Nat.reduceEqDiff, Nat.reduceLeDiff, Nat.reduceSub, Nat.zero_add, Classical.not_not, ex_i, ex_l, ex_d, ex_r, ex_rs, ex_rn, ex_sm, Nat.sub_zero, eq_self, wn_sI, wn_sL, wn_sP, wsh_sI, wsh_sL, wsh_sP, wI_sL, wI_sP, wL_sI, wL_sP, wP_sI, wP_sL, wI_sI, wL_sL, Int32.reduceLT, Int32.reduceLE, true_implies, not_true_eq_false, false_implies, not_false_eq_true, i_10]
        have hf : Fr (fun b j => pkX x b j ∨ b = x + 36) w w2 := (f1.mo fun _ _ z => Or.inl z).tr (f2.mo fun _ _ z => Or.inr z)
        refine h _ _ (hf.xo hx hW fun b j h => by unfold pkX; omega) fun b s' z => ?_
        unfold SpPack at z
        rw [if_neg (not_not_intro ha), ni_cl (by omega), if_neg hv0, en, q0] at z
        obtain ⟨z1, z2, z3, z4, z5, z6, z7⟩ := z
        refine ⟨z1, hA.part hx hf (fun b j q => by unfold pkX at q; omega) z2 (fun o j q => by unfold intS; omega) (Or.inr ⟨by unfold pkX; omega, fun j => by unfold pkX; omega, by omega, fun j => by omega⟩) (Or.inr ⟨by unfold pkX; omega, fun j => by unfold pkX; omega, by omega, fun j => by omega⟩) (Or.inr ⟨by unfold pkX; omega, by unfold pkX; omega, by omega, by omega⟩) (Or.inr ⟨by unfold pkX; omega, by omega⟩) (Or.inl (Or.inr ⟨z3, by rw [g0]; decide, ?_⟩)) (Or.inr ⟨fun j => by unfold pkX; omega, fun j => by omega⟩)⟩
        intro i hi
        rcases (by omega : i = 0 ∨ i = 1 ∨ i = 2 ∨ i = 3) with rfl | rfl | rfl | rfl
        · rw [g0, z4]
        · rw [g1, z5]
        · rw [g2, z6]
        · rw [g3, z7]
      · have hx1 := hx.fr f1
        have i1 : ¬ (1 : Int32) = 0 := by decide
        have e1' : wI w1 x 12 = nI u := (f1.I _ _ (by unfold pkX; omega)).trans e1
        have eb : wI w1 (x + 7) 1 = nI (L.length + 1) := q1.1
        have hl : L.length ≤ 1160 := by omega
        have no : (249 < L.length ∨ 495 < u + L.length) → K (-4) w1 (k - 1000) (n - 14000) := fun qq => by
          refine scr_end hI (pkX.sc f1) h fun b s' z => ?_
          unfold SpPack at z
          rw [if_neg (not_not_intro ha), ni_cl (by omega), if_neg hv0, en, q0, e2, ni_cl (by omega)] at z
          simp only [if_pos qq] at z
          exact z
        simp (disch := omega) only [vX11_pack_29, vX11_pack_61, vX11_pack_62, vX11_pack_65, vX11_pack_68, vX11_pack_71, vX11_pack_72, vX11_pack_73, vX11_pack_76, xs_b hx1, xs_0 hx1, xs_obj hx1, xs_packer hx1, xp_x_5 hx1, xs_body hx1, xp_packer_0 hx1, pI_c, pL_c, pF_c, pD_c, pA_n, pA_c, pA_rf, pR_c, pR_rf, pV_i, pV_a, pV_n, pV_rf, ldI_c, ldL_c, ldF_c, ldD_c, ldA_c, ldA_n, ldA_rf, dup2_l, dup2_ia, dup2_ir, popA_0, popA_s, getL_z, getL_s, setL_z, setL_1, setL_s, setL2_z, setL2_1, setL2_s, drop2_i, drop2_a, drop2_0, drop2_n, drop2_l, drop2_d, drop2_r, cwd_0, cwd_i, cwd_a, cwd_n, cwd_l, cwd_d, cwd_f, cwd_r, rf_s, rf_n, swi_0, swi_s, zR_b0, zR_b1, zN_b0, zN_b1, entV_i, entV_a, entV_n, entV_r, entV_f, entV_l, entV_d, entV_s, entV_0, List.length_cons, List.length_nil, List.nil_append, List.cons_append, true_and, and_true, Nat.reduceAdd, Nat.reduceLT, Nat.reduceEqDiff, Nat.reduceLeDiff, Nat.reduceSub, Nat.zero_add, Classical.not_not, ex_i, ex_l, ex_d, ex_r, ex_rs, ex_rn, ex_sm, Nat.sub_zero, eq_self, wn_sI, wn_sL, wn_sP, wsh_sI, wsh_sL, wsh_sP, wI_sL, wI_sP, wL_sI, wL_sP, wP_sI, wP_sL, wI_sI, wL_sL, Int32.reduceLT, Int32.reduceLE, true_implies, not_true_eq_false, false_implies, not_false_eq_true, i_10, na_1, nb_1, nm_1, ns_1, nr_1, na_2, nb_2, nm_2, ns_2, nr_2, na_3, nb_3, nm_3, ns_3, nr_3, na_4, nb_4, nm_4, ns_4, nr_4, na_5, nb_5, nm_5, ns_5, nr_5, na_6, nb_6, nm_6, ns_6, nr_6, na_7, nb_7, nm_7, ns_7, nr_7, na_8, nb_8, nm_8, ns_8, nr_8, na_10, nb_10, nm_10, ns_10, nr_10, na_16, nb_16, nm_16, ns_16, nr_16, nl_m1, ni_add, ni_mul, ni_sub, ni_cl, ni_in, vp_0, vp_1, vp_2, vp_3, vp_4, vp_5, Int32.reduceToNatClampNeg, i1, eb]
        have c250 : (250 < nI (L.length + 1)) = (250 < L.length + 1) := ni_lt (by decide) (by omega)
        refine ⟨fun z => ?_, fun z => ?_⟩
        · rw [c250] at z
          simp (disch := omega) only [vX11_pack_93, vX11_pack_95, pI_c, pL_c, pF_c, pD_c, pA_n, pA_c, pA_rf, pR_c, pR_rf, pV_i, pV_a, pV_n, pV_rf, ldI_c, ldL_c, ldF_c, ldD_c, ldA_c, ldA_n, ldA_rf, dup2_l, dup2_ia, dup2_ir, popA_0, popA_s, getL_z, getL_s, setL_z, setL_1, setL_s, setL2_z, setL2_1, setL2_s, drop2_i, drop2_a, drop2_0, drop2_n, drop2_l, drop2_d, drop2_r, cwd_0, cwd_i, cwd_a, cwd_n, cwd_l, cwd_d, cwd_f, cwd_r, rf_s, rf_n, swi_0, swi_s, zR_b0, zR_b1, zN_b0, zN_b1, entV_i, entV_a, entV_n, entV_r, entV_f, entV_l, entV_d, entV_s, entV_0, List.length_cons, List.length_nil, List.nil_append, List.cons_append, true_and, and_true, Nat.reduceAdd, Nat.reduceLT, Nat.reduceEqDiff, Nat.reduceLeDiff, Nat.reduceSub, Nat.zero_add, Classical.not_not, ex_i, ex_l, ex_d, ex_r, ex_rs, ex_rn, ex_sm, Nat.sub_zero, eq_self, wn_sI, wn_sL, wn_sP, wsh_sI, wsh_sL, wsh_sP, wI_sL, wI_sP, wL_sI, wL_sP, wP_sI, wP_sL, wI_sI, wL_sL, Int32.reduceLT, Int32.reduceLE, true_implies, not_true_eq_false, false_implies, not_false_eq_true, i_10]
          exact no (by omega)
        · rw [c250] at z
          simp (disch := omega) only [vX11_pack_79, vX11_pack_80, vX11_pack_83, vX11_pack_84, vX11_pack_85, vX11_pack_86, vX11_pack_87, vX11_pack_90, xs_b hx1, xs_0 hx1, xs_obj hx1, pI_c, pL_c, pF_c, pD_c, pA_n, pA_c, pA_rf, pR_c, pR_rf, pV_i, pV_a, pV_n, pV_rf, ldI_c, ldL_c, ldF_c, ldD_c, ldA_c, ldA_n, ldA_rf, dup2_l, dup2_ia, dup2_ir, popA_0, popA_s, getL_z, getL_s, setL_z, setL_1, setL_s, setL2_z, setL2_1, setL2_s, drop2_i, drop2_a, drop2_0, drop2_n, drop2_l, drop2_d, drop2_r, cwd_0, cwd_i, cwd_a, cwd_n, cwd_l, cwd_d, cwd_f, cwd_r, rf_s, rf_n, swi_0, swi_s, zR_b0, zR_b1, zN_b0, zN_b1, entV_i, entV_a, entV_n, entV_r, entV_f, entV_l, entV_d, entV_s, entV_0, List.length_cons, List.length_nil, List.nil_append, List.cons_append, true_and, and_true, Nat.reduceAdd, Nat.reduceLT, Nat.reduceEqDiff, Nat.reduceLeDiff, Nat.reduceSub, Nat.zero_add, Classical.not_not, ex_i, ex_l, ex_d, ex_r, ex_rs, ex_rn, ex_sm, Nat.sub_zero, eq_self, wn_sI, wn_sL, wn_sP, wsh_sI, wsh_sL, wsh_sP, wI_sL, wI_sP, wL_sI, wL_sP, wP_sI, wP_sL, wI_sI, wL_sL, Int32.reduceLT, Int32.reduceLE, true_implies, not_true_eq_false, false_implies, not_false_eq_true, i_10, na_1, nb_1, nm_1, ns_1, nr_1, na_2, nb_2, nm_2, ns_2, nr_2, na_3, nb_3, nm_3, ns_3, nr_3, na_4, nb_4, nm_4, ns_4, nr_4, na_5, nb_5, nm_5, ns_5, nr_5, na_6, nb_6, nm_6, ns_6, nr_6, na_7, nb_7, nm_7, ns_7, nr_7, na_8, nb_8, nm_8, ns_8, nr_8, na_10, nb_10, nm_10, ns_10, nr_10, na_16, nb_16, nm_16, ns_16, nr_16, nl_m1, ni_add, ni_mul, ni_sub, ni_cl, ni_in, vp_0, vp_1, vp_2, vp_3, vp_4, vp_5, Int32.reduceToNatClampNeg, e1']
          have c500 : (nI (u + (L.length + 1) + 4) ≤ 500) = (u + (L.length + 1) + 4 ≤ 500) := ni_le (by omega) (by decide)
          refine ⟨fun z2 => ?_, fun z2 => ?_⟩
          · rw [c500] at z2
            simp (disch := omega) only [vX11_pack_96, vX11_pack_97, vX11_pack_98, vX11_pack_99, vX11_pack_102, vX11_pack_105, xs_b hx1, xs_0 hx1, xs_obj hx1, xs_packer hx1, xp_x_5 hx1, xs_body hx1, xp_packer_0 hx1, pI_c, pL_c, pF_c, pD_c, pA_n, pA_c, pA_rf, pR_c, pR_rf, pV_i, pV_a, pV_n, pV_rf, ldI_c, ldL_c, ldF_c, ldD_c, ldA_c, ldA_n, ldA_rf, dup2_l, dup2_ia, dup2_ir, popA_0, popA_s, getL_z, getL_s, setL_z, setL_1, setL_s, setL2_z, setL2_1, setL2_s, drop2_i, drop2_a, drop2_0, drop2_n, drop2_l, drop2_d, drop2_r, cwd_0, cwd_i, cwd_a, cwd_n, cwd_l, cwd_d, cwd_f, cwd_r, rf_s, rf_n, swi_0, swi_s, zR_b0, zR_b1, zN_b0, zN_b1, entV_i, entV_a, entV_n, entV_r, entV_f, entV_l, entV_d, entV_s, entV_0, List.length_cons, List.length_nil, List.nil_append, List.cons_append, true_and, and_true, Nat.reduceAdd, Nat.reduceLT, Nat.reduceEqDiff, Nat.reduceLeDiff, Nat.reduceSub, Nat.zero_add, Classical.not_not, ex_i, ex_l, ex_d, ex_r, ex_rs, ex_rn, ex_sm, Nat.sub_zero, eq_self, wn_sI, wn_sL, wn_sP, wsh_sI, wsh_sL, wsh_sP, wI_sL, wI_sP, wL_sI, wL_sP, wP_sI, wP_sL, wI_sI, wL_sL, Int32.reduceLT, Int32.reduceLE, true_implies, not_true_eq_false, false_implies, not_false_eq_true, i_10, na_1, nb_1, nm_1, ns_1, nr_1, na_2, nb_2, nm_2, ns_2, nr_2, na_3, nb_3, nm_3, ns_3, nr_3, na_4, nb_4, nm_4, ns_4, nr_4, na_5, nb_5, nm_5, ns_5, nr_5, na_6, nb_6, nm_6, ns_6, nr_6, na_7, nb_7, nm_7, ns_7, nr_7, na_8, nb_8, nm_8, ns_8, nr_8, na_10, nb_10, nm_10, ns_10, nr_10, na_16, nb_16, nm_16, ns_16, nr_16, nl_m1, ni_add, ni_mul, ni_sub, ni_cl, ni_in, vp_0, vp_1, vp_2, vp_3, vp_4, vp_5, Int32.reduceToNatClampNeg]
            refine X11_putFrame_ok hx1 e1' q1 (by omega) fun w2 f2 g1 g2 => ?_
            have hx2 := hx1.fr f2
            simp (disch := omega) only [vX11_pack_108, vX11_pack_109, vX11_pack_112, vX11_pack_113, vX11_pack_114, vX11_pack_115, vX11_pack_116, vX11_pack_117, vX11_pack_118, vX11_pack_119, vX11_pack_120, vX11_pack_121, xs_b hx2, xs_0 hx2, xs_obj hx2, xs_tallies hx2, xp_x_4 hx2, pI_c, pL_c, pF_c, pD_c, pA_n, pA_c, pA_rf, pR_c, pR_rf, pV_i, pV_a, pV_n, pV_rf, ldI_c, ldL_c, ldF_c, ldD_c, ldA_c, ldA_n, ldA_rf, dup2_l, dup2_ia, dup2_ir, popA_0, popA_s, getL_z, getL_s, setL_z, setL_1, setL_s, setL2_z, setL2_1, setL2_s, drop2_i, drop2_a, drop2_0, drop2_n, drop2_l, drop2_d, drop2_r, cwd_0, cwd_i, cwd_a, cwd_n, cwd_l, cwd_d, cwd_f, cwd_r, rf_s, rf_n, swi_0, swi_s, zR_b0, zR_b1, zN_b0, zN_b1, entV_i, entV_a, entV_n, entV_r, entV_f, entV_l, entV_d, entV_s, entV_0, List.length_cons, List.length_nil, List.nil_append, List.cons_append, true_and, and_true, Nat.reduceAdd, Nat.reduceLT, Nat.reduceEqDiff, Nat.reduceLeDiff, Nat.reduceSub, Nat.zero_add, Classical.not_not, ex_i, ex_l, ex_d, ex_r, ex_rs, ex_rn, ex_sm, Nat.sub_zero, eq_self, wn_sI, wn_sL, wn_sP, wsh_sI, wsh_sL, wsh_sP, wI_sL, wI_sP, wL_sI, wL_sP, wP_sI, wP_sL, wI_sI, wL_sL, Int32.reduceLT, Int32.reduceLE, true_implies, not_true_eq_false, false_implies, not_false_eq_true, i_10, na_1, nb_1, nm_1, ns_1, nr_1, na_2, nb_2, nm_2, ns_2, nr_2, na_3, nb_3, nm_3, ns_3, nr_3, na_4, nb_4, nm_4, ns_4, nr_4, na_5, nb_5, nm_5, ns_5, nr_5, na_6, nb_6, nm_6, ns_6, nr_6, na_7, nb_7, nm_7, ns_7, nr_7, na_8, nb_8, nm_8, ns_8, nr_8, na_10, nb_10, nm_10, ns_10, nr_10, na_16, nb_16, nm_16, ns_16, nr_16, nl_m1, ni_add, ni_mul, ni_sub, ni_cl, ni_in, vp_0, vp_1, vp_2, vp_3, vp_4, vp_5, Int32.reduceToNatClampNeg]
            have f3 : Fr (fun b j => b = x + 5 ∧ j = 0) w2 (sI w2 (x + 5) 0 (wI w2 (x + 5) 0 + 1)) := Fr.rf.i _ ⟨rfl, rfl⟩
            have hf : Fr (fun b j => pkX x b j ∨ (b = x ∧ j = 12) ∨ (b = x + 4 ∧ u ≤ j) ∨ (b = x + 5 ∧ j = 0)) w (sI w2 (x + 5) 0 (wI w2 (x + 5) 0 + 1)) := ((f1.mo fun _ _ z => Or.inl z).tr (f2.mo fun _ _ z => Or.inr (z.imp id Or.inl))).tr (f3.mo fun _ _ z => Or.inr (Or.inr (Or.inr z)))
            refine h _ _ (hf.xo hx hW fun b j h => by unfold pkX; omega) fun b s' z => ?_
            unfold SpPack at z
            rw [if_neg (not_not_intro ha), ni_cl (by omega), if_neg hv0, en, q0, e2, ni_cl (show u < 2147483648 by omega)] at z
            simp only [if_neg (show ¬ (249 < L.length ∨ 495 < u + L.length) by omega)] at z
            obtain ⟨y1, y2, y3, y4, y5⟩ := z
            refine ⟨y1.trans (by rw [show L.length + 5 = L.length + 1 + 4 by omega]), hA.part hx hf (fun b j q => by unfold pkX at q; omega) y2 (fun o j q => by unfold intS; omega) (Or.inr ⟨by unfold pkX; omega, fun j => by unfold pkX; omega, by omega, fun j => by omega⟩) (Or.inl ⟨u + L.length + 5, by omega, (f3.I _ _ (by omega)).trans g1, y3, fun i hi => ?_⟩) (Or.inr ⟨by unfold pkX; omega, by unfold pkX; omega, by omega, by omega⟩) (Or.inr ⟨by unfold pkX; omega, by omega⟩) (Or.inr ⟨fun j => by unfold pkX; omega, by omega, fun j => by omega⟩) (Or.inl fun i hi => ?_)⟩
            · by_cases qi : i < u
              · rw [hf.I _ _ (by unfold pkX; omega), y2.I 13 i (Or.inr ⟨by decide, by decide⟩) (by omega)]
                exact e3 i qi
              · have t1 := g2 (i - u) (by rw [frL_len]; omega)
                have t2 := y4 (i - u) (by rw [frL_len]; omega)
                rw [show u + (i - u) = i by omega] at t1 t2
                obtain ⟨pb, p1, p2, -⟩ := pk_pres hn8 q0
                have pb8 : pb < 256 := Nat.lt_of_lt_of_le p2 (Nat.pow_le_pow_right (by decide) hn8)
                have hb := bys_frL (show v ≤ 255 by omega) ⟨pb, by omega, p1⟩ (by omega) (bys_pk hA hV.2.2.1 (Nat.le_refl _) q0) _ (List.mem_of_getElem? t2)
                rw [t1] at t2
                refine ⟨(f3.I _ _ (by omega)).trans (Option.some.inj t2), hb⟩
            · by_cases qi : i = 0
              · subst qi
                rw [wI_at, if_pos rfl, y5, f2.I _ _ (by omega), f1.I _ _ (by unfold pkX; omega), hA.tal 0 hi]
              · rw [hf.I _ _ (by unfold pkX; omega), y2.I 17 i (Or.inr ⟨by decide, by decide⟩) (by omega)]
                exact hA.tal i hi
          · rw [c500] at z2
            simp (disch := omega) only [vX11_pack_93, vX11_pack_95, pI_c, pL_c, pF_c, pD_c, pA_n, pA_c, pA_rf, pR_c, pR_rf, pV_i, pV_a, pV_n, pV_rf, ldI_c, ldL_c, ldF_c, ldD_c, ldA_c, ldA_n, ldA_rf, dup2_l, dup2_ia, dup2_ir, popA_0, popA_s, getL_z, getL_s, setL_z, setL_1, setL_s, setL2_z, setL2_1, setL2_s, drop2_i, drop2_a, drop2_0, drop2_n, drop2_l, drop2_d, drop2_r, cwd_0, cwd_i, cwd_a, cwd_n, cwd_l, cwd_d, cwd_f, cwd_r, rf_s, rf_n, swi_0, swi_s, zR_b0, zR_b1, zN_b0, zN_b1, entV_i, entV_a, entV_n, entV_r, entV_f, entV_l, entV_d, entV_s, entV_0, List.length_cons, List.length_nil, List.nil_append, List.cons_append, true_and, and_true, Nat.reduceAdd, Nat.reduceLT, Nat.reduceEqDiff, Nat.reduceLeDiff, Nat.reduceSub, Nat.zero_add, Classical.not_not, ex_i, ex_l, ex_d, ex_r, ex_rs, ex_rn, ex_sm, Nat.sub_zero, eq_self, wn_sI, wn_sL, wn_sP, wsh_sI, wsh_sL, wsh_sP, wI_sL, wI_sP, wL_sI, wL_sP, wP_sI, wP_sL, wI_sI, wL_sL, Int32.reduceLT, Int32.reduceLE, true_implies, not_true_eq_false, false_implies, not_false_eq_true, i_10]
            exact no (by omega)
  · simp only [vX11_pack_5, vX11_pack_6, vX11_pack_7, vX11_pack_10, vX11_pack_11, xs_b hx, xs_0 hx, xs_obj hx, pI_c, pL_c, pF_c, pD_c, pA_n, pA_c, pA_rf, pR_c, pR_rf, pV_i, pV_a, pV_n, pV_rf, ldI_c, ldL_c, ldF_c, ldD_c, ldA_c, ldA_n, ldA_rf, dup2_l, dup2_ia, dup2_ir, popA_0, popA_s, getL_z, getL_s, setL_z, setL_1, setL_s, setL2_z, setL2_1, setL2_s, drop2_i, drop2_a, drop2_0, drop2_n, drop2_l, drop2_d, drop2_r, cwd_0, cwd_i, cwd_a, cwd_n, cwd_l, cwd_d, cwd_f, cwd_r, rf_s, rf_n, swi_0, swi_s, zR_b0, zR_b1, zN_b0, zN_b1, entV_i, entV_a, entV_n, entV_r, entV_f, entV_l, entV_d, entV_s, entV_0, List.length_cons, List.length_nil, List.nil_append, List.cons_append, true_and, and_true, Nat.reduceAdd, Nat.reduceLT, Nat.reduceEqDiff, Nat.reduceLeDiff, Nat.reduceSub, Nat.zero_add, Classical.not_not, ex_i, ex_l, ex_d, ex_r, ex_rs, ex_rn, ex_sm, Nat.sub_zero, eq_self, wn_sI, wn_sL, wn_sP, wsh_sI, wsh_sL, wsh_sP, wI_sL, wI_sP, wL_sI, wL_sP, wP_sI, wP_sL, wI_sI, wL_sL, Int32.reduceLT, Int32.reduceLE, true_implies, not_true_eq_false, false_implies, not_false_eq_true, i_10, q]
    refine SpNo hI h fun b s' z => ?_
    unfold SpPack at z
    unfold lackV at q ⊢
    by_cases ha : 0 ≤ a ∧ a ≤ 5
    · rw [if_neg (not_not_intro ha)] at z q ⊢
      by_cases q3 : s.1 6 a.toNatClampNeg = 0
      · rw [if_pos q3] at z ⊢
        exact z
      · rw [if_neg q3] at q
        exact absurd rfl q
    · rw [if_pos ha] at z ⊢
      exact z
