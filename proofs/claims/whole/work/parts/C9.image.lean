/-! the class: image, back -/
theorem XS.but {g : Ge} {x : Nat} {w w' : Wd} (hx : XS g x w) (h1 : ∀ o, o ≤ 40 → wsh w' (x + o) = wsh w (x + o)) (h2 : ∀ o, o ≤ 40 → o ≠ 1 → o ≠ 2 → o ≠ 38 → o ≠ 39 → wP w' (x + o) = wP w (x + o)) : XS g x w' := hx.sm h1 fun q hq => by
  have t1 : ∀ q ∈ xpT, q.1 ≤ 40 ∧ q.1 ≠ 1 ∧ q.1 ≠ 2 ∧ q.1 ≠ 38 ∧ q.1 ≠ 39 := by decide
  obtain ⟨a1, a2, a3, a4, a5⟩ := t1 q hq
  rw [h2 q.1 a1 a2 a3 a4 a5]
theorem RowsX.mono {b b' : Nat} {w : Wd} {P : Nat → Option Nat} {ra : Nat → Nat} {sl rk rs kd : Nat → Int32} {vl : Nat → Int64} (hb : b' ≤ b) (h : RowsX b w P ra sl rk rs kd vl) : RowsX b' w P ra sl rk rs kd vl := by
  refine ⟨fun s hs => ?_, h.2⟩
  rcases h.1 s hs with h | ⟨h1, a, h2, h3, h4⟩ | ⟨r, h1, h2, h3, h4, h5⟩
  · exact Or.inl h
  · exact Or.inr (Or.inl ⟨h1, a, Nat.le_trans hb h2, h3, h4⟩)
  · exact Or.inr (Or.inr ⟨r, h1, h2, h3, Nat.le_trans hb h4, h5⟩)
theorem RowsX.ge {b : Nat} {w : Wd} {P : Nat → Option Nat} {ra : Nat → Nat} {sl rk rs kd : Nat → Int32} {vl : Nat → Int64} (h : RowsX b w P ra sl rk rs kd vl) : ∀ t r, t < 8 → r < 8 → sl t = nI r → b ≤ ra r := fun t r ht hr e => (RwSt.row (h.1 t ht) hr e).2.1
theorem VersX.ptr {b : Nat} {w : Wd} {P P' : Nat → Option Nat} {mn : Nat → Int32} {f : Nat → Nat → Int32} (h : VersX b w P mn f) (e : ∀ v, v < 6 → P' v = P v) : VersX b w P' mn f := fun v hv => by
  rw [e v hv]
  exact h v hv
theorem VersX.tag {b : Nat} {w : Wd} {P : Nat → Option Nat} {mn : Nat → Int32} {f : Nat → Nat → Int32} (h : VersX b w P mn f) : ∀ v a, v < 6 → P v = some a → (wsh w a).1 = 10 := fun v a hv e => by
  rcases h v hv with ⟨-, z⟩ | ⟨a', n, -, -, z, -, -, z2, -⟩
  · rw [z] at e; cases e
  · rw [z] at e; cases e; rw [z2]
theorem AbsX.imgTo {x : Nat} {w w' : Wd} {s s' : St} (hA : AbsX x w s) (hk : Keep x w w') (hS : ∀ o, o ≤ 36 → Same (x + o) w w') (hB : Bt imS s s') (hI : ∀ ra, RowsX (x + 81) w (wP w (x + 1)) ra (s.1 1) (s.1 2) (s.1 3) (s.1 4) (s.2 5) → ∃ rb, ImgR x w' ra rb s') : AbsX x w' s' := by
  obtain ⟨ra, rb, h1, h2, h3, h4, h5, h6, h7, h8, h9, h10⟩ := hA
  obtain ⟨rb', hI'⟩ := hI ra h1
  have b0 : ∀ j, j < 24 → s'.1 0 j = s.1 0 j ∧ s'.2 0 j = s.2 0 j := fun j hj => hB 0 j (Or.inl ⟨rfl, by omega⟩) fun z => by unfold imS at z; omega
  have bo : ∀ o, 1 ≤ o → o ≤ 17 → s'.1 o = s.1 o ∧ s'.2 o = s.2 o := fun o h1 h2 => ⟨hB.A o (by omega) (by omega) fun j z => by unfold imS at z; omega, hB.B o (by omega) (by omega) fun j z => by unfold imS at z; omega⟩
  have c := fun o h1 h2 => (bo o h1 h2).1
  have S0 : Same x w w' := hS 0 (by decide)
  refine ⟨ra, rb', ?_, ?_, ?_, ?_, ?_, ?_, ?_, ?_, ?_, hI'⟩
  · rw [(hS 1 (by decide)).2.2.2, c 1 (by decide) (by decide), c 2 (by decide) (by decide), c 3 (by decide) (by decide), c 4 (by decide) (by decide), (bo 5 (by decide) (by decide)).2]
    exact h1.keep hk rfl
  · rw [(hS 2 (by decide)).2.2.2]
    exact (h2.keep hk rfl).cg (fun v _ => by rw [c 6 (by decide) (by decide)]) fun j i hj _ => by rw [c (7 + j) (by omega) (by omega)]
  · rw [S0.2.1, (hS 3 (by decide)).2.1, (b0 15 (by decide)).1, c 14 (by decide) (by decide)]
    exact h3
  · rw [S0.2.1, (hS 4 (by decide)).2.1, (b0 13 (by decide)).1, c 13 (by decide) (by decide)]
    exact h4
  · rw [S0.2.2.2, (b0 17 (by decide)).1, c 15 (by decide) (by decide)]
    exact h5.keep hk rfl
  · rw [S0.2.1, S0.2.2.1, (b0 19 (by decide)).1, (b0 20 (by decide)).2]
    exact h6
  · rw [S0.2.1, (b0 5 (by decide)).1]
    exact h7
  · rw [(hS 36 (by decide)).2.1, (b0 21 (by decide)).1, c 16 (by decide) (by decide)]
    exact h8
  · intro i hi
    rw [(hS 5 (by decide)).2.1, c 17 (by decide) (by decide)]
    exact h9 i hi
set_option maxRecDepth 100000 in
set_option maxHeartbeats 4000000 in
theorem X_image {g : Ge} {w : Wd} {k n : Nat} {K : Int32 → Wd → Nat → Nat → Prop} {x : Nat} {s : St} (hI : CI g x w s) (hk : 1000 ≤ k) (hn : 14000 ≤ n) (h : ∀ ans w', Xo g x w w' → (∀ b s', SpImage s b s' → b = ans ∧ AbsX x w' s') → K ans w' (k - 1000) (n - 14000)) : cI g mX11_image [.ref x] w k n K := by
  obtain ⟨hx, hC, hW, hw, hA⟩ := id hI
  have hgx := hx.1
  refine cI_of 1 1000 14000 rfl (by decide +kernel) rfl (Nat.le_of_ble_eq_true rfl) hk hn ?_
  simp only [vX11_image_0, vX11_image_1, vX11_image_4, vX11_image_5, vX11_image_8, vX11_image_11, xs_b hx, xs_0 hx, xs_obj hx, xs_slots hx, xp_x_0 hx, xs_kept hx, xp_x_9 hx, xs_kslots hx, xp_kept_1 hx, pI_c, pL_c, pF_c, pD_c, pA_n, pA_c, pA_rf, pR_c, pR_rf, pV_i, pV_a, pV_n, pV_rf, ldI_c, ldL_c, ldF_c, ldD_c, ldA_c, ldA_n, ldA_rf, dup2_l, dup2_ia, dup2_ir, popA_0, popA_s, getL_z, getL_s, setL_z, setL_1, setL_s, setL2_z, setL2_1, setL2_s, drop2_i, drop2_a, drop2_0, drop2_n, drop2_l, drop2_d, drop2_r, cwd_0, cwd_i, cwd_a, cwd_n, cwd_l, cwd_d, cwd_f, cwd_r, rf_s, rf_n, swi_0, swi_s, zR_b0, zR_b1, zN_b0, zN_b1, entV_i, entV_a, entV_n, entV_r, entV_f, entV_l, entV_d, entV_s, entV_0, List.length_cons, List.length_nil, List.nil_append, List.cons_append, true_and, and_true, Nat.reduceAdd, Nat.reduceLT, Nat.reduceEqDiff, Nat.reduceLeDiff, Nat.reduceSub, Nat.zero_add, Classical.not_not, ex_i, ex_l, ex_d, ex_r, ex_rs, ex_rn, ex_sm, Nat.sub_zero, eq_self, wn_sI, wn_sL, wn_sP, wsh_sI, wsh_sL, wsh_sP, wI_sL, wI_sP, wL_sI, wL_sP, wP_sI, wP_sL, wI_sI, wL_sL, Int32.reduceLT, Int32.reduceLE, true_implies, not_true_eq_false, false_implies, not_false_eq_true, i_10]
  obtain ⟨ra, hR⟩ := hA.rows
  refine X11_cpR_ok (by omega) (xs_slots hx) (xs_kslots hx) (by omega) hW hR (by omega) (by omega) fun w1 rb e1 e2 e3 e4 e5 => ?_
  have hx1 : XS g x w1 := hx.but (fun o ho => by
    by_cases z : o = 38
    · rw [z, e4, xs_kslots hx]
    · exact (e3 _ (by omega) (by omega)).1) fun o h1 h2 h3 h4 h5 => (e3 _ (by omega) (by omega)).2.2.2
  simp only [vX11_image_14, vX11_image_15, vX11_image_18, vX11_image_19, vX11_image_22, vX11_image_25, xs_b hx1, xs_0 hx1, xs_obj hx1, xs_versions hx1, xp_x_1 hx1, xs_kept hx1, xp_x_9 hx1, xs_kversions hx1, xp_kept_2 hx1, pI_c, pL_c, pF_c, pD_c, pA_n, pA_c, pA_rf, pR_c, pR_rf, pV_i, pV_a, pV_n, pV_rf, ldI_c, ldL_c, ldF_c, ldD_c, ldA_c, ldA_n, ldA_rf, dup2_l, dup2_ia, dup2_ir, popA_0, popA_s, getL_z, getL_s, setL_z, setL_1, setL_s, setL2_z, setL2_1, setL2_s, drop2_i, drop2_a, drop2_0, drop2_n, drop2_l, drop2_d, drop2_r, cwd_0, cwd_i, cwd_a, cwd_n, cwd_l, cwd_d, cwd_f, cwd_r, rf_s, rf_n, swi_0, swi_s, zR_b0, zR_b1, zN_b0, zN_b1, entV_i, entV_a, entV_n, entV_r, entV_f, entV_l, entV_d, entV_s, entV_0, List.length_cons, List.length_nil, List.nil_append, List.cons_append, true_and, and_true, Nat.reduceAdd, Nat.reduceLT, Nat.reduceEqDiff, Nat.reduceLeDiff, Nat.reduceSub, Nat.zero_add, Classical.not_not, ex_i, ex_l, ex_d, ex_r, ex_rs, ex_rn, ex_sm, Nat.sub_zero, eq_self, wn_sI, wn_sL, wn_sP, wsh_sI, wsh_sL, wsh_sP, wI_sL, wI_sP, wL_sI, wL_sP, wP_sI, wP_sL, wI_sI, wL_sL, Int32.reduceLT, Int32.reduceLE, true_implies, not_true_eq_false, false_implies, not_false_eq_true, i_10]
  have hV1 : VersX (x + 81) w1 (wP w1 (x + 2)) (s.1 6) (fun j i => s.1 (7 + j) i) := hA.vers.keep (fun a ha ht => e3 a (hW.lt ht) (by omega)) (e3 _ (by omega) (by omega)).2.2.2
  refine X11_cpV_ok (by omega) (xs_versions hx1) (xs_kversions hx1) (by omega) hV1.tag fun w2 g1 g2 g3 g4 => ?_
  have hx2 : XS g x w2 := hx1.but (fun o ho => by rw [g2]) fun o h1 h2 h3 h4 h5 => (g3 _ (by omega)).2.2.2
  obtain ⟨u, hu, u1, u2, u3⟩ := hA.wire
  have e12 : wI w2 x 12 = nI u := by rw [(g3 x (by omega)).2.1, (e3 x (by omega) (by omega)).2.1]; exact u1
  simp only [vX11_image_28, vX11_image_29, vX11_image_32, vX11_image_33, vX11_image_34, vX11_image_37, vX11_image_40, vX11_image_41, vX11_image_42, xs_b hx2, xs_0 hx2, xs_obj hx2, xs_wire hx2, xp_x_3 hx2, xs_kept hx2, xp_x_9 hx2, xs_kwire hx2, xp_kept_3 hx2, pI_c, pL_c, pF_c, pD_c, pA_n, pA_c, pA_rf, pR_c, pR_rf, pV_i, pV_a, pV_n, pV_rf, ldI_c, ldL_c, ldF_c, ldD_c, ldA_c, ldA_n, ldA_rf, dup2_l, dup2_ia, dup2_ir, popA_0, popA_s, getL_z, getL_s, setL_z, setL_1, setL_s, setL2_z, setL2_1, setL2_s, drop2_i, drop2_a, drop2_0, drop2_n, drop2_l, drop2_d, drop2_r, cwd_0, cwd_i, cwd_a, cwd_n, cwd_l, cwd_d, cwd_f, cwd_r, rf_s, rf_n, swi_0, swi_s, zR_b0, zR_b1, zN_b0, zN_b1, entV_i, entV_a, entV_n, entV_r, entV_f, entV_l, entV_d, entV_s, entV_0, List.length_cons, List.length_nil, List.nil_append, List.cons_append, true_and, and_true, Nat.reduceAdd, Nat.reduceLT, Nat.reduceEqDiff, Nat.reduceLeDiff, Nat.reduceSub, Nat.zero_add, Classical.not_not, ex_i, ex_l, ex_d, ex_r, ex_rs, ex_rn, ex_sm, Nat.sub_zero, eq_self, wn_sI, wn_sL, wn_sP, wsh_sI, wsh_sL, wsh_sP, wI_sL, wI_sP, wL_sI, wL_sP, wP_sI, wP_sL, wI_sI, wL_sL, Int32.reduceLT, Int32.reduceLE, true_implies, not_true_eq_false, false_implies, not_false_eq_true, i_10, e12]
  rw [vX11_image_45]
  refine stCpI (sp := 0) (dp := 0) ⟨by decide +kernel, by decide +kernel⟩ (by decide) (xs_wire hx2) (xs_kwire hx2) (by omega) (by omega) (by omega) (by omega) (by omega) ?_
  have c1 : ∀ b, b ≠ x + 40 → Same b w2 (cpI w2 (x + 4) (x + 40) 0 0 u) := fun b hb => cpI_same hb
  have c2 : ∀ i, i < u → wI (cpI w2 (x + 4) (x + 40) 0 0 u) (x + 40) i = wI w (x + 4) i := fun i hi => by
    rw [cpI_at, if_pos (by omega), (g3 (x + 4) (by omega)).2.1, (e3 (x + 4) (by omega) (by omega)).2.1, show 0 + (i - 0) = i by omega]
  have c3 : wn (cpI w2 (x + 4) (x + 40) 0 0 u) = wn w2 := rfl
  have c4 : wsh (cpI w2 (x + 4) (x + 40) 0 0 u) = wsh w2 := rfl
  have c5 : wP (cpI w2 (x + 4) (x + 40) 0 0 u) = wP w2 := rfl
  generalize cpI w2 (x + 4) (x + 40) 0 0 u = w3 at c1 c2 c3 c4 c5 ⊢
  have hx3 : XS g x w3 := hx2.but (fun o ho => by rw [c4]) fun o h1 h2 h3 h4 h5 => by rw [c5]
  have e12' : wI w3 x 12 = nI u := by rw [(c1 x (by omega)).2.1]; exact e12
  have e13' : wI w3 x 13 = wI w x 13 := by rw [(c1 x (by omega)).2.1, (g3 x (by omega)).2.1, (e3 x (by omega) (by omega)).2.1]
  simp (disch := omega) only [vX11_image_48, vX11_image_49, vX11_image_52, vX11_image_53, vX11_image_56, vX11_image_59, vX11_image_60, vX11_image_63, vX11_image_64, vX11_image_67, xs_b hx3, xs_0 hx3, xs_obj hx3, xs_kept hx3, xp_x_9 hx3, pI_c, pL_c, pF_c, pD_c, pA_n, pA_c, pA_rf, pR_c, pR_rf, pV_i, pV_a, pV_n, pV_rf, ldI_c, ldL_c, ldF_c, ldD_c, ldA_c, ldA_n, ldA_rf, dup2_l, dup2_ia, dup2_ir, popA_0, popA_s, getL_z, getL_s, setL_z, setL_1, setL_s, setL2_z, setL2_1, setL2_s, drop2_i, drop2_a, drop2_0, drop2_n, drop2_l, drop2_d, drop2_r, cwd_0, cwd_i, cwd_a, cwd_n, cwd_l, cwd_d, cwd_f, cwd_r, rf_s, rf_n, swi_0, swi_s, zR_b0, zR_b1, zN_b0, zN_b1, entV_i, entV_a, entV_n, entV_r, entV_f, entV_l, entV_d, entV_s, entV_0, List.length_cons, List.length_nil, List.nil_append, List.cons_append, true_and, and_true, Nat.reduceAdd, Nat.reduceLT, Nat.reduceEqDiff, Nat.reduceLeDiff, Nat.reduceSub, Nat.zero_add, Classical.not_not, ex_i, ex_l, ex_d, ex_r, ex_rs, ex_rn, ex_sm, Nat.sub_zero, eq_self, wn_sI, wn_sL, wn_sP, wsh_sI, wsh_sL, wsh_sP, wI_sL, wI_sP, wL_sI, wL_sP, wP_sI, wP_sL, wI_sI, wL_sL, Int32.reduceLT, Int32.reduceLE, true_implies, not_true_eq_false, false_implies, not_false_eq_true, i_10, up2_n1, up2_at, if_true, if_false, Nat.reduceEqDiff, eq_self, e12', e13']
  simp (disch := omega) only [vX11_image_70, vX11_image_71, vX11_image_74, vX11_image_75, vX11_image_78, vX11_image_79, xs_b hx3, xs_0 hx3, xs_obj hx3, xs_kept hx3, xp_x_9 hx3, pI_c, pL_c, pF_c, pD_c, pA_n, pA_c, pA_rf, pR_c, pR_rf, pV_i, pV_a, pV_n, pV_rf, ldI_c, ldL_c, ldF_c, ldD_c, ldA_c, ldA_n, ldA_rf, dup2_l, dup2_ia, dup2_ir, popA_0, popA_s, getL_z, getL_s, setL_z, setL_1, setL_s, setL2_z, setL2_1, setL2_s, drop2_i, drop2_a, drop2_0, drop2_n, drop2_l, drop2_d, drop2_r, cwd_0, cwd_i, cwd_a, cwd_n, cwd_l, cwd_d, cwd_f, cwd_r, rf_s, rf_n, swi_0, swi_s, zR_b0, zR_b1, zN_b0, zN_b1, entV_i, entV_a, entV_n, entV_r, entV_f, entV_l, entV_d, entV_s, entV_0, List.length_cons, List.length_nil, List.nil_append, List.cons_append, true_and, and_true, Nat.reduceAdd, Nat.reduceLT, Nat.reduceEqDiff, Nat.reduceLeDiff, Nat.reduceSub, Nat.zero_add, Classical.not_not, ex_i, ex_l, ex_d, ex_r, ex_rs, ex_rn, ex_sm, Nat.sub_zero, eq_self, wn_sI, wn_sL, wn_sP, wsh_sI, wsh_sL, wsh_sP, wI_sL, wI_sP, wL_sI, wL_sP, wP_sI, wP_sL, wI_sI, wL_sL, Int32.reduceLT, Int32.reduceLE, true_implies, not_true_eq_false, false_implies, not_false_eq_true, i_10, up2_n1, up2_at, if_true, if_false, Nat.reduceEqDiff, eq_self, zN_b1]
  have f4 : Fr (fun b _ => b = x + 37) w3 (sI (sI (sI w3 (x + 37) 4 (nI u)) (x + 37) 5 (wI w x 13)) (x + 37) 0 1) := (((Fr.rf : Fr (fun b _ => b = x + 37) w3 w3).i _ rfl).i _ rfl).i _ rfl
  have i0 : wI (sI (sI (sI w3 (x + 37) 4 (nI u)) (x + 37) 5 (wI w x 13)) (x + 37) 0 1) (x + 37) 0 = 1 := wI_at.trans (if_pos rfl)
  have i4 : wI (sI (sI (sI w3 (x + 37) 4 (nI u)) (x + 37) 5 (wI w x 13)) (x + 37) 0 1) (x + 37) 4 = nI u := (wI_at.trans (if_neg (by decide))).trans ((wI_at.trans (if_neg (by decide))).trans (wI_at.trans (if_pos rfl)))
  have i5 : wI (sI (sI (sI w3 (x + 37) 4 (nI u)) (x + 37) 5 (wI w x 13)) (x + 37) 0 1) (x + 37) 5 = wI w x 13 := (wI_at.trans (if_neg (by decide))).trans (wI_at.trans (if_pos rfl))
  generalize sI (sI (sI w3 (x + 37) 4 (nI u)) (x + 37) 5 (wI w x 13)) (x + 37) 0 1 = w4 at f4 i0 i4 i5 ⊢
  have hx4 := hx3.fr f4
  have s14 : ∀ a, a ≠ x + 37 → a ≠ x + 39 → a ≠ x + 40 → Same a w1 w4 := fun a h1 h2 h3 => ((g3 a h2).tr (c1 a h3)).tr (f4.same fun j => by omega)
  have s04 : ∀ a, a < wn w → a ≠ x + 37 → a ≠ x + 38 → a ≠ x + 39 → a ≠ x + 40 → Same a w w4 := fun a h0 h1 h2 h3 h4 => (e3 a h0 h2).tr (s14 a h1 h3 h4)
  have k14 : Keep x w1 w4 := fun a ha _ => s14 a (by omega) (by omega) (by omega)
  have k04 : Keep x w w4 := fun a ha ht => s04 a (hW.lt ht) (by omega) (by omega) (by omega) (by omega)
  have n4 : wn w4 = wn w1 := by rw [f4.n, c3, g1]
  have W4 : WF w4 := fun a ha => by
    rw [n4] at ha
    rw [f4.sh, c4, g2]
    exact e1 a ha
  refine X11_unl_ok hx4 (hR.keep k04 (s04 (x + 1) (by omega) (by omega) (by omega) (by omega) (by omega)).2.2.2) ?_
  simp only [vX11_image_82, pI_c, pL_c, pF_c, pD_c, pA_n, pA_c, pA_rf, pR_c, pR_rf, pV_i, pV_a, pV_n, pV_rf, ldI_c, ldL_c, ldF_c, ldD_c, ldA_c, ldA_n, ldA_rf, dup2_l, dup2_ia, dup2_ir, popA_0, popA_s, getL_z, getL_s, setL_z, setL_1, setL_s, setL2_z, setL2_1, setL2_s, drop2_i, drop2_a, drop2_0, drop2_n, drop2_l, drop2_d, drop2_r, cwd_0, cwd_i, cwd_a, cwd_n, cwd_l, cwd_d, cwd_f, cwd_r, rf_s, rf_n, swi_0, swi_s, zR_b0, zR_b1, zN_b0, zN_b1, entV_i, entV_a, entV_n, entV_r, entV_f, entV_l, entV_d, entV_s, entV_0, List.length_cons, List.length_nil, List.nil_append, List.cons_append, true_and, and_true, Nat.reduceAdd, Nat.reduceLT, Nat.reduceEqDiff, Nat.reduceLeDiff, Nat.reduceSub, Nat.zero_add, Classical.not_not, ex_i, ex_l, ex_d, ex_r, ex_rs, ex_rn, ex_sm, Nat.sub_zero, eq_self, wn_sI, wn_sL, wn_sP, wsh_sI, wsh_sL, wsh_sP, wI_sL, wI_sP, wL_sI, wL_sP, wP_sI, wP_sL, wI_sI, wL_sL, Int32.reduceLT, Int32.reduceLE, true_implies, not_true_eq_false, false_implies, not_false_eq_true, i_10]
  refine h _ w4 ⟨by rw [n4]; exact e2, W4, hx4, fun a ha => s04 a (by omega) (by omega) (by omega) (by omega) (by omega)⟩ fun b s' z => ?_
  obtain ⟨z1, z2, z3, z4, z5, z6, z7, z8, z9, z10⟩ := z
  refine ⟨z1, hA.imgTo k04 (fun o ho => s04 _ (by omega) (by omega) (by omega) (by omega) (by omega)) z2 fun ra2 hR2 => ⟨rb, ?_⟩⟩
  have lt2 := hR2.lt hW
  have ge5 := RowsX.ge (show RowsX (wn w) w1 (wP w1 (x + 38)) rb _ _ _ _ _ from e5)
  have hR5 : RowsX (x + 81) w1 (wP w1 (x + 38)) rb (s.1 1) (s.1 2) (s.1 3) (s.1 4) (s.2 5) := RowsX.mono hw e5
  refine ⟨by rw [i0, z3], Or.inr ⟨z3, ?_, ?_, ?_, ?_, fun t u' r q ht hu' hr hq a1 a2 => ?_⟩⟩
  · refine (hR5.keep k14 (s14 (x + 38) (by omega) (by omega) (by omega)).2.2.2).cg (fun t _ => rfl) (fun t ht => (z6 t ht).1) fun t r ht hr _ => ⟨(z6 r hr).2.1, (z6 r hr).2.2, fun i hi => z7 _ (by omega)⟩
  · have h39 : ∀ v, v < 6 → wP w4 (x + 39) v = wP w1 (x + 2) v := fun v hv => by rw [f4.P, c5, g4 v hv]
    refine ((hV1.keep k14 rfl).ptr h39).cg (fun v hv => z8 v hv) fun j i hj hi => ?_
    obtain ⟨y0, y1, y2, y3, y4, y5⟩ := z9 i hi
    rcases (show j = 0 ∨ j = 1 ∨ j = 2 ∨ j = 3 ∨ j = 4 ∨ j = 5 by omega) with rfl | rfl | rfl | rfl | rfl | rfl
    · exact y0
    · exact y1
    · exact y2
    · exact y3
    · exact y4
    · exact y5
  · refine ⟨u, hu, i4, by rw [z5]; exact u2, fun i hi => ?_⟩
    obtain ⟨y1, c, y2, y3⟩ := u3 i hi
    rw [(f4.I _ _ (by omega)).trans (c2 i hi), z10 i (by omega)]
    exact ⟨y1, c, y2, y3⟩
  · rw [i5, z4]
    exact hA.lax
  · have e1s : s'.1 1 t = s.1 1 t := z2.I 1 t (Or.inr ⟨by decide, by decide⟩) (by unfold imS; omega)
    have l1 := lt2 t r ht hr (e1s.symm.trans a1)
    have l2 := ge5 u' q hu' hq ((z6 u' hu').1.symm.trans a2)
    omega
theorem cntI_cg {f f' : Nat → Int32} {r : Int32} : ∀ {n : Nat}, (∀ j, j < n → f' j = f j) → cntI f' r n = cntI f r n
  | 0, _ => rfl
  | n + 1, h => by
    unfold cntI
    rw [cntI_cg (n := n) fun j hj => h j (by omega), h n (Nat.lt_succ_self n)]
theorem unlN_cg {f f' : Nat → Int32} (h : ∀ j, j < 8 → f' j = f j) : ∀ r, unlN f' r = unlN f r
  | 0 => rfl
  | r + 1 => by
    unfold unlN
    rw [unlN_cg h r, cntI_cg h]
set_option maxRecDepth 100000 in
set_option maxHeartbeats 4000000 in
theorem X_back {g : Ge} {w : Wd} {k n : Nat} {K : Int32 → Wd → Nat → Nat → Prop} {x : Nat} {s : St} (hI : CI g x w s) (hk : 1000 ≤ k) (hn : 14000 ≤ n) (h : ∀ ans w', Xo g x w w' → (∀ b s', SpBack s b s' → b = ans ∧ AbsX x w' s') → K ans w' (k - 1000) (n - 14000)) : cI g mX11_back [.ref x] w k n K := by
  obtain ⟨hx, hC, hW, hw, hA⟩ := id hI
  have hgx := hx.1
  obtain ⟨ra, rb, h1, h2, h3, h4, h5, h6, h7, h8, h9, h10⟩ := id hA
  refine cI_of 1 1000 14000 rfl (by decide +kernel) rfl (Nat.le_of_ble_eq_true rfl) hk hn ?_
  rcases h10.2 with q0 | ⟨q1, i18, i23, iw, il, ine⟩
  · have e0 : wI w (x + 37) 0 = 0 := h10.1.trans q0
    simp only [vX11_back_0, vX11_back_1, vX11_back_4, vX11_back_7, vX11_back_10, vX11_back_12, xs_b hx, xs_0 hx, xs_obj hx, xs_kept hx, xp_x_9 hx, pI_c, pL_c, pF_c, pD_c, pA_n, pA_c, pA_rf, pR_c, pR_rf, pV_i, pV_a, pV_n, pV_rf, ldI_c, ldL_c, ldF_c, ldD_c, ldA_c, ldA_n, ldA_rf, dup2_l, dup2_ia, dup2_ir, popA_0, popA_s, getL_z, getL_s, setL_z, setL_1, setL_s, setL2_z, setL2_1, setL2_s, drop2_i, drop2_a, drop2_0, drop2_n, drop2_l, drop2_d, drop2_r, cwd_0, cwd_i, cwd_a, cwd_n, cwd_l, cwd_d, cwd_f, cwd_r, rf_s, rf_n, swi_0, swi_s, zR_b0, zR_b1, zN_b0, zN_b1, entV_i, entV_a, entV_n, entV_r, entV_f, entV_l, entV_d, entV_s, entV_0, List.length_cons, List.length_nil, List.nil_append, List.cons_append, true_and, and_true, Nat.reduceAdd, Nat.reduceLT, Nat.reduceEqDiff, Nat.reduceLeDiff, Nat.reduceSub, Nat.zero_add, Classical.not_not, ex_i, ex_l, ex_d, ex_r, ex_rs, ex_rn, ex_sm, Nat.sub_zero, eq_self, wn_sI, wn_sL, wn_sP, wsh_sI, wsh_sL, wsh_sP, wI_sL, wI_sP, wL_sI, wL_sP, wP_sI, wP_sL, wI_sI, wL_sL, Int32.reduceLT, Int32.reduceLE, true_implies, not_true_eq_false, false_implies, not_false_eq_true, i_10, e0]
    refine SpNo hI h fun b s' z => ?_
    unfold SpBack at z
    rw [if_pos q0] at z
    exact z
  have e0 : wI w (x + 37) 0 = 1 := h10.1.trans q1
  have i1 : ¬ (1 : Int32) = 0 := by decide
  simp only [vX11_back_0, vX11_back_1, vX11_back_4, vX11_back_7, vX11_back_13, vX11_back_14, vX11_back_17, vX11_back_20, vX11_back_21, vX11_back_24, xs_b hx, xs_0 hx, xs_obj hx, xs_slots hx, xp_x_0 hx, xs_kept hx, xp_x_9 hx, xs_kslots hx, xp_kept_1 hx, pI_c, pL_c, pF_c, pD_c, pA_n, pA_c, pA_rf, pR_c, pR_rf, pV_i, pV_a, pV_n, pV_rf, ldI_c, ldL_c, ldF_c, ldD_c, ldA_c, ldA_n, ldA_rf, dup2_l, dup2_ia, dup2_ir, popA_0, popA_s, getL_z, getL_s, setL_z, setL_1, setL_s, setL2_z, setL2_1, setL2_s, drop2_i, drop2_a, drop2_0, drop2_n, drop2_l, drop2_d, drop2_r, cwd_0, cwd_i, cwd_a, cwd_n, cwd_l, cwd_d, cwd_f, cwd_r, rf_s, rf_n, swi_0, swi_s, zR_b0, zR_b1, zN_b0, zN_b1, entV_i, entV_a, entV_n, entV_r, entV_f, entV_l, entV_d, entV_s, entV_0, List.length_cons, List.length_nil, List.nil_append, List.cons_append, true_and, and_true, Nat.reduceAdd, Nat.reduceLT, Nat.reduceEqDiff, Nat.reduceLeDiff, Nat.reduceSub, Nat.zero_add, Classical.not_not, ex_i, ex_l, ex_d, ex_r, ex_rs, ex_rn, ex_sm, Nat.sub_zero, eq_self, wn_sI, wn_sL, wn_sP, wsh_sI, wsh_sL, wsh_sP, wI_sL, wI_sP, wL_sI, wL_sP, wP_sI, wP_sL, wI_sI, wL_sL, Int32.reduceLT, Int32.reduceLE, true_implies, not_true_eq_false, false_implies, not_false_eq_true, i_10, e0, i1]
  refine X11_cpR_ok (by omega) (xs_kslots hx) (xs_slots hx) (by omega) hW i18 (by omega) (by omega) fun w1 rc e1 e2 e3 e4 e5 => ?_
  have hx1 : XS g x w1 := hx.but (fun o ho => by
    by_cases z : o = 1
    · rw [z, e4, xs_slots hx]
    · exact (e3 _ (by omega) (by omega)).1) fun o h1 h2 h3 h4 h5 => (e3 _ (by omega) (by omega)).2.2.2
  simp only [vX11_back_27, vX11_back_28, vX11_back_31, vX11_back_34, vX11_back_35, vX11_back_38, xs_b hx1, xs_0 hx1, xs_obj hx1, xs_versions hx1, xp_x_1 hx1, xs_kept hx1, xp_x_9 hx1, xs_kversions hx1, xp_kept_2 hx1, pI_c, pL_c, pF_c, pD_c, pA_n, pA_c, pA_rf, pR_c, pR_rf, pV_i, pV_a, pV_n, pV_rf, ldI_c, ldL_c, ldF_c, ldD_c, ldA_c, ldA_n, ldA_rf, dup2_l, dup2_ia, dup2_ir, popA_0, popA_s, getL_z, getL_s, setL_z, setL_1, setL_s, setL2_z, setL2_1, setL2_s, drop2_i, drop2_a, drop2_0, drop2_n, drop2_l, drop2_d, drop2_r, cwd_0, cwd_i, cwd_a, cwd_n, cwd_l, cwd_d, cwd_f, cwd_r, rf_s, rf_n, swi_0, swi_s, zR_b0, zR_b1, zN_b0, zN_b1, entV_i, entV_a, entV_n, entV_r, entV_f, entV_l, entV_d, entV_s, entV_0, List.length_cons, List.length_nil, List.nil_append, List.cons_append, true_and, and_true, Nat.reduceAdd, Nat.reduceLT, Nat.reduceEqDiff, Nat.reduceLeDiff, Nat.reduceSub, Nat.zero_add, Classical.not_not, ex_i, ex_l, ex_d, ex_r, ex_rs, ex_rn, ex_sm, Nat.sub_zero, eq_self, wn_sI, wn_sL, wn_sP, wsh_sI, wsh_sL, wsh_sP, wI_sL, wI_sP, wL_sI, wL_sP, wP_sI, wP_sL, wI_sI, wL_sL, Int32.reduceLT, Int32.reduceLE, true_implies, not_true_eq_false, false_implies, not_false_eq_true, i_10]
  have hV1 : VersX (x + 81) w1 (wP w1 (x + 39)) (s.1 23) (fun j i => s.1 24 (6 * i + j)) := i23.keep (fun a ha ht => e3 a (hW.lt ht) (by omega)) (e3 _ (by omega) (by omega)).2.2.2
  refine X11_cpV_ok (by omega) (xs_kversions hx1) (xs_versions hx1) (by omega) hV1.tag fun w2 g1 g2 g3 g4 => ?_
  have hx2 : XS g x w2 := hx1.but (fun o ho => by rw [g2]) fun o h1 h2 h3 h4 h5 => (g3 _ (by omega)).2.2.2
  obtain ⟨u, hu, u1, u2, u3⟩ := iw
  have e37 : wI w2 (x + 37) = wI w (x + 37) := by rw [(g3 (x + 37) (by omega)).2.1, (e3 (x + 37) (by omega) (by omega)).2.1]
  have e374 : wI w2 (x + 37) 4 = nI u := by rw [e37]; exact u1
  simp only [vX11_back_41, vX11_back_42, vX11_back_45, vX11_back_48, vX11_back_49, vX11_back_50, vX11_back_53, vX11_back_54, vX11_back_55, vX11_back_58, xs_b hx2, xs_0 hx2, xs_obj hx2, xs_wire hx2, xp_x_3 hx2, xs_kept hx2, xp_x_9 hx2, xs_kwire hx2, xp_kept_3 hx2, pI_c, pL_c, pF_c, pD_c, pA_n, pA_c, pA_rf, pR_c, pR_rf, pV_i, pV_a, pV_n, pV_rf, ldI_c, ldL_c, ldF_c, ldD_c, ldA_c, ldA_n, ldA_rf, dup2_l, dup2_ia, dup2_ir, popA_0, popA_s, getL_z, getL_s, setL_z, setL_1, setL_s, setL2_z, setL2_1, setL2_s, drop2_i, drop2_a, drop2_0, drop2_n, drop2_l, drop2_d, drop2_r, cwd_0, cwd_i, cwd_a, cwd_n, cwd_l, cwd_d, cwd_f, cwd_r, rf_s, rf_n, swi_0, swi_s, zR_b0, zR_b1, zN_b0, zN_b1, entV_i, entV_a, entV_n, entV_r, entV_f, entV_l, entV_d, entV_s, entV_0, List.length_cons, List.length_nil, List.nil_append, List.cons_append, true_and, and_true, Nat.reduceAdd, Nat.reduceLT, Nat.reduceEqDiff, Nat.reduceLeDiff, Nat.reduceSub, Nat.zero_add, Classical.not_not, ex_i, ex_l, ex_d, ex_r, ex_rs, ex_rn, ex_sm, Nat.sub_zero, eq_self, wn_sI, wn_sL, wn_sP, wsh_sI, wsh_sL, wsh_sP, wI_sL, wI_sP, wL_sI, wL_sP, wP_sI, wP_sL, wI_sI, wL_sL, Int32.reduceLT, Int32.reduceLE, true_implies, not_true_eq_false, false_implies, not_false_eq_true, i_10, e374]
  rw [vX11_back_61]
  refine stCpI (sp := 0) (dp := 0) ⟨by decide +kernel, by decide +kernel⟩ (by decide) (xs_kwire hx2) (xs_wire hx2) (by omega) (by omega) (by omega) (by omega) (by omega) ?_
  have c1 : ∀ b, b ≠ x + 4 → Same b w2 (cpI w2 (x + 40) (x + 4) 0 0 u) := fun b hb => cpI_same hb
  have c2 : ∀ i, i < u → wI (cpI w2 (x + 40) (x + 4) 0 0 u) (x + 4) i = wI w (x + 40) i := fun i hi => by
    rw [cpI_at, if_pos (by omega), (g3 (x + 40) (by omega)).2.1, (e3 (x + 40) (by omega) (by omega)).2.1, show 0 + (i - 0) = i by omega]
  have c3 : wn (cpI w2 (x + 40) (x + 4) 0 0 u) = wn w2 := rfl
  have c4 : wsh (cpI w2 (x + 40) (x + 4) 0 0 u) = wsh w2 := rfl
  have c5 : wP (cpI w2 (x + 40) (x + 4) 0 0 u) = wP w2 := rfl
  generalize cpI w2 (x + 40) (x + 4) 0 0 u = w3 at c1 c2 c3 c4 c5 ⊢
  have hx3 : XS g x w3 := hx2.but (fun o ho => by rw [c4]) fun o h1 h2 h3 h4 h5 => by rw [c5]
  have e374' : wI w3 (x + 37) 4 = nI u := by rw [(c1 (x + 37) (by omega)).2.1]; exact e374
  have e375' : wI w3 (x + 37) 5 = wI w (x + 37) 5 := by rw [(c1 (x + 37) (by omega)).2.1, e37]
  simp (disch := omega) only [vX11_back_64, vX11_back_65, vX11_back_66, vX11_back_69, vX11_back_72, xs_b hx3, xs_0 hx3, xs_obj hx3, xs_kept hx3, xp_x_9 hx3, pI_c, pL_c, pF_c, pD_c, pA_n, pA_c, pA_rf, pR_c, pR_rf, pV_i, pV_a, pV_n, pV_rf, ldI_c, ldL_c, ldF_c, ldD_c, ldA_c, ldA_n, ldA_rf, dup2_l, dup2_ia, dup2_ir, popA_0, popA_s, getL_z, getL_s, setL_z, setL_1, setL_s, setL2_z, setL2_1, setL2_s, drop2_i, drop2_a, drop2_0, drop2_n, drop2_l, drop2_d, drop2_r, cwd_0, cwd_i, cwd_a, cwd_n, cwd_l, cwd_d, cwd_f, cwd_r, rf_s, rf_n, swi_0, swi_s, zR_b0, zR_b1, zN_b0, zN_b1, entV_i, entV_a, entV_n, entV_r, entV_f, entV_l, entV_d, entV_s, entV_0, List.length_cons, List.length_nil, List.nil_append, List.cons_append, true_and, and_true, Nat.reduceAdd, Nat.reduceLT, Nat.reduceEqDiff, Nat.reduceLeDiff, Nat.reduceSub, Nat.zero_add, Classical.not_not, ex_i, ex_l, ex_d, ex_r, ex_rs, ex_rn, ex_sm, Nat.sub_zero, eq_self, wn_sI, wn_sL, wn_sP, wsh_sI, wsh_sL, wsh_sP, wI_sL, wI_sP, wL_sI, wL_sP, wP_sI, wP_sL, wI_sI, wL_sL, Int32.reduceLT, Int32.reduceLE, true_implies, not_true_eq_false, false_implies, not_false_eq_true, i_10, up2_n1, up2_at, if_true, if_false, Nat.reduceEqDiff, eq_self, e374']
  simp (disch := omega) only [vX11_back_75, vX11_back_76, vX11_back_77, vX11_back_80, vX11_back_83, vX11_back_86, vX11_back_87, xs_b hx3, xs_0 hx3, xs_obj hx3, xs_kept hx3, xp_x_9 hx3, pI_c, pL_c, pF_c, pD_c, pA_n, pA_c, pA_rf, pR_c, pR_rf, pV_i, pV_a, pV_n, pV_rf, ldI_c, ldL_c, ldF_c, ldD_c, ldA_c, ldA_n, ldA_rf, dup2_l, dup2_ia, dup2_ir, popA_0, popA_s, getL_z, getL_s, setL_z, setL_1, setL_s, setL2_z, setL2_1, setL2_s, drop2_i, drop2_a, drop2_0, drop2_n, drop2_l, drop2_d, drop2_r, cwd_0, cwd_i, cwd_a, cwd_n, cwd_l, cwd_d, cwd_f, cwd_r, rf_s, rf_n, swi_0, swi_s, zR_b0, zR_b1, zN_b0, zN_b1, entV_i, entV_a, entV_n, entV_r, entV_f, entV_l, entV_d, entV_s, entV_0, List.length_cons, List.length_nil, List.nil_append, List.cons_append, true_and, and_true, Nat.reduceAdd, Nat.reduceLT, Nat.reduceEqDiff, Nat.reduceLeDiff, Nat.reduceSub, Nat.zero_add, Classical.not_not, ex_i, ex_l, ex_d, ex_r, ex_rs, ex_rn, ex_sm, Nat.sub_zero, eq_self, wn_sI, wn_sL, wn_sP, wsh_sI, wsh_sL, wsh_sP, wI_sL, wI_sP, wL_sI, wL_sP, wP_sI, wP_sL, wI_sI, wL_sL, Int32.reduceLT, Int32.reduceLE, true_implies, not_true_eq_false, false_implies, not_false_eq_true, i_10, up2_n1, up2_at, if_true, if_false, Nat.reduceEqDiff, eq_self, wI_ne, e375']
  have f4 : Fr (fun b j => b = x ∧ (j = 12 ∨ j = 13)) w3 (sI (sI w3 x 12 (nI u)) x 13 (wI w (x + 37) 5)) := (Fr.rf.i _ ⟨rfl, Or.inl rfl⟩).i _ ⟨rfl, Or.inr rfl⟩
  have i12 : wI (sI (sI w3 x 12 (nI u)) x 13 (wI w (x + 37) 5)) x 12 = nI u := (wI_at.trans (if_neg (by decide))).trans (wI_at.trans (if_pos rfl))
  have i13 : wI (sI (sI w3 x 12 (nI u)) x 13 (wI w (x + 37) 5)) x 13 = wI w (x + 37) 5 := wI_at.trans (if_pos rfl)
  generalize sI (sI w3 x 12 (nI u)) x 13 (wI w (x + 37) 5) = w4 at f4 i12 i13 ⊢
  have hx4 := hx3.fr f4
  have s14 : ∀ a, a ≠ x → a ≠ x + 2 → a ≠ x + 4 → Same a w1 w4 := fun a h1 h2 h3 => ((g3 a h2).tr (c1 a h3)).tr (f4.same fun j => by omega)
  have s04 : ∀ a, a < wn w → a ≠ x → a ≠ x + 1 → a ≠ x + 2 → a ≠ x + 4 → Same a w w4 := fun a h0 h1 h2 h3 h4 => (e3 a h0 h2).tr (s14 a h1 h3 h4)
  have sx : ∀ j, j ≠ 12 → j ≠ 13 → wI w4 x j = wI w x j := fun j h1 h2 => by
    rw [f4.I _ _ (by omega), (c1 x (by omega)).2.1, (g3 x (by omega)).2.1, (e3 x (by omega) (by omega)).2.1]
  have sxL : ∀ j, j ≠ 12 → j ≠ 13 → wL w4 x j = wL w x j := fun j h1 h2 => by
    rw [f4.L _ _ (by omega), (c1 x (by omega)).2.2.1, (g3 x (by omega)).2.2.1, (e3 x (by omega) (by omega)).2.2.1]
  have sxP : ∀ j, wP w4 x j = wP w x j := fun j => by
    rw [f4.P, c5, (g3 x (by omega)).2.2.2, (e3 x (by omega) (by omega)).2.2.2]
  have k14 : Keep x w1 w4 := fun a ha _ => s14 a (by omega) (by omega) (by omega)
  have k04 : Keep x w w4 := fun a ha ht => s04 a (hW.lt ht) (by omega) (by omega) (by omega) (by omega)
  have n4 : wn w4 = wn w1 := by rw [f4.n, c3, g1]
  have W4 : WF w4 := fun a ha => by
    rw [n4] at ha
    rw [f4.sh, c4, g2]
    exact e1 a ha
  have ge5 := RowsX.ge (show RowsX (wn w) w1 (wP w1 (x + 1)) rc _ _ _ _ _ from e5)
  have hR4 : RowsX (x + 81) w4 (wP w4 (x + 1)) rc (s.1 18) (s.1 19) (s.1 20) (s.1 21) (s.2 22) := (RowsX.mono hw e5).keep k14 (s14 (x + 1) (by omega) (by omega) (by omega)).2.2.2
  refine X11_unl_ok (s := (fun o => s.1 (o + 17), fun o => s.2 (o + 17))) hx4 hR4 ?_
  simp only [vX11_back_90, pI_c, pL_c, pF_c, pD_c, pA_n, pA_c, pA_rf, pR_c, pR_rf, pV_i, pV_a, pV_n, pV_rf, ldI_c, ldL_c, ldF_c, ldD_c, ldA_c, ldA_n, ldA_rf, dup2_l, dup2_ia, dup2_ir, popA_0, popA_s, getL_z, getL_s, setL_z, setL_1, setL_s, setL2_z, setL2_1, setL2_s, drop2_i, drop2_a, drop2_0, drop2_n, drop2_l, drop2_d, drop2_r, cwd_0, cwd_i, cwd_a, cwd_n, cwd_l, cwd_d, cwd_f, cwd_r, rf_s, rf_n, swi_0, swi_s, zR_b0, zR_b1, zN_b0, zN_b1, entV_i, entV_a, entV_n, entV_r, entV_f, entV_l, entV_d, entV_s, entV_0, List.length_cons, List.length_nil, List.nil_append, List.cons_append, true_and, and_true, Nat.reduceAdd, Nat.reduceLT, Nat.reduceEqDiff, Nat.reduceLeDiff, Nat.reduceSub, Nat.zero_add, Classical.not_not, ex_i, ex_l, ex_d, ex_r, ex_rs, ex_rn, ex_sm, Nat.sub_zero, eq_self, wn_sI, wn_sL, wn_sP, wsh_sI, wsh_sL, wsh_sP, wI_sL, wI_sP, wL_sI, wL_sP, wP_sI, wP_sL, wI_sI, wL_sL, Int32.reduceLT, Int32.reduceLE, true_implies, not_true_eq_false, false_implies, not_false_eq_true, i_10]
  refine h _ w4 ⟨by rw [n4]; exact e2, W4, hx4, fun a ha => s04 a (by omega) (by omega) (by omega) (by omega) (by omega)⟩ fun b s' z => ?_
  unfold SpBack at z
  rw [if_neg (by rw [q1]; decide)] at z
  obtain ⟨z1, z2, z3, z4, z6, z7, z8, z9, z10⟩ := z
  have b0 : ∀ j, j < 35 → j ≠ 5 → j ≠ 13 → s'.1 0 j = s.1 0 j ∧ s'.2 0 j = s.2 0 j := fun j hj h5 h13 => z2 0 j (Or.inl ⟨rfl, hj⟩) fun z => by unfold bkS at z; omega
  have bo : ∀ o, 14 ≤ o → o ≤ 25 → s'.1 o = s.1 o ∧ s'.2 o = s.2 o := fun o h1 h2 => ⟨z2.A o (by omega) (by omega) fun j z => by unfold bkS at z; omega, z2.B o (by omega) (by omega) fun j z => by unfold bkS at z; omega⟩
  have c := fun o h1 h2 => (bo o h1 h2).1
  refine ⟨z1.trans (congrArg nI (unlN_cg (fun j hj => (z6 j hj).1) 8)), rc, rb, ?_, ?_, ?_, ?_, ?_, ?_, ?_, ?_, ?_, ?_⟩
  · exact hR4.cg (fun t _ => rfl) (fun t ht => (z6 t ht).1) fun t r ht hr _ => ⟨(z6 r hr).2.1, (z6 r hr).2.2, fun i hi => z7 _ (by omega)⟩
  · have h39 : ∀ v, v < 6 → wP w4 (x + 2) v = wP w1 (x + 39) v := fun v hv => by rw [f4.P, c5, g4 v hv]
    refine ((hV1.keep k14 rfl).ptr h39).cg (fun v hv => z8 v hv) fun j i hj hi => ?_
    obtain ⟨y0, y1, y2, y3, y4, y5⟩ := z9 i hi
    rcases (show j = 0 ∨ j = 1 ∨ j = 2 ∨ j = 3 ∨ j = 4 ∨ j = 5 by omega) with rfl | rfl | rfl | rfl | rfl | rfl
    · exact y0
    · exact y1
    · exact y2
    · exact y3
    · exact y4
    · exact y5
  · rw [sx 11 (by decide) (by decide), (s04 (x + 3) (by omega) (by omega) (by omega) (by omega) (by omega)).2.1, (b0 15 (by decide) (by decide) (by decide)).1, c 14 (by decide) (by decide)]
    exact h3
  · refine ⟨u, hu, i12, by rw [z4]; exact u2, fun i hi => ?_⟩
    obtain ⟨y1, c, y2, y3⟩ := u3 i hi
    rw [(f4.I _ _ (by omega)).trans (c2 i hi), z10 i (by omega)]
    exact ⟨y1, c, y2, y3⟩
  · rw [sxP 10, (b0 17 (by decide) (by decide) (by decide)).1, c 15 (by decide) (by decide)]
    exact h5.keep k04 rfl
  · rw [sx 14 (by decide) (by decide), sxL 15 (by decide) (by decide), (b0 19 (by decide) (by decide) (by decide)).1, (b0 20 (by decide) (by decide) (by decide)).2]
    exact h6
  · rw [i13, z3]
    exact il
  · rw [(s04 (x + 36) (by omega) (by omega) (by omega) (by omega) (by omega)).2.1, (b0 21 (by decide) (by decide) (by decide)).1, c 16 (by decide) (by decide)]
    exact h8
  · intro i hi
    rw [(s04 (x + 5) (by omega) (by omega) (by omega) (by omega) (by omega)).2.1, c 17 (by decide) (by decide)]
    exact h9 i hi
  · refine h10.keep k04 (s04 (x + 38) (by omega) (by omega) (by omega) (by omega) (by omega)).2.2.2 (s04 (x + 39) (by omega) (by omega) (by omega) (by omega) (by omega)).2.2.2 (s04 (x + 37) (by omega) (by omega) (by omega) (by omega) (by omega)).2.1 (s04 (x + 40) (by omega) (by omega) (by omega) (by omega) (by omega)).2.1 (fun o h1 h2 => bo o (by omega) h2) (fun j h1 h2 => (b0 j (by omega) (by omega) (by omega)).1) fun _ t u' r q ht hu' hr hq a1 a2 => ?_
    have l1 := ge5 t r ht hr ((z6 t ht).1.symm.trans a1)
    have l2 := i18.lt hW u' q hu' hq a2
    omega
