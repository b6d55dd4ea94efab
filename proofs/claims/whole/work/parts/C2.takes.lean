/-! the class: a field by its default; taking all fields -/
theorem VerO.tag {b a c n v : Nat} {w w' : Wd} {s : St} (h : VerO b w a c n v s) (hs : ∀ a, b ≤ a → (wsh w a).1 < 109 → Same a w w') : VerO b w' a c n v s := by
  obtain ⟨h1, h2, h3, h4, h5, h6, h7, h8, h9, h10⟩ := h
  have sa := hs a h4 (by rw [h5]; decide)
  have sc := hs c h7 (by rw [h9]; decide)
  refine ⟨h1, h2, h3, h4, sa.1.trans h5, by rw [sa.2.1]; exact h6, h7, by rw [sa.2.2.2]; exact h8, sc.1.trans h9, fun k hk => ?_⟩
  obtain ⟨d, d1, d2, d3, d4⟩ := h10 k hk
  have sd := hs d d1 (by rw [d3]; decide)
  exact ⟨d, d1, by rw [sc.2.2.2]; exact d2, sd.1.trans d3, fun j hj => by rw [sd.2.1]; exact d4 j hj⟩
theorem TkR.same {g : Ge} {x : Nat} {w w' : Wd} (h : TkR g x w w') (hW : WF w) {a : Nat} (ha : a ≠ x + 34) (hb : a ≠ x + 35) (ht : (wsh w a).1 < 109) : Same a w w' := h.2.2.2 a (hW.lt ht) ha hb
theorem TkR.ver {g : Ge} {x a c n v : Nat} {w w' : Wd} {s : St} (h : TkR g x w w') (hW : WF w) (hV : VerO (x + 81) w a c n v s) : VerO (x + 81) w' a c n v s := hV.tag fun a ha ht => h.same hW (by omega) (by omega) ht
theorem TkR.cn {g : Ge} {x : Nat} {w w' : Wd} (h : TkR g x w w') (hx : XS g x w) (hW : WF w) (hC : Cn g w) : Cn g w' := hC.kept fun a ha ht => by
  have := h.same hW (show a ≠ x + 34 by have := hx.1; omega) (by have := hx.1; omega) ht
  exact ⟨this.1, this.2.1, this.2.2.2⟩
theorem TkR.low {g : Ge} {x : Nat} {w w' : Wd} (h : TkR g x w w') (hw : x + 81 ≤ wn w) {a : Nat} (ha : a < x + 34) : Same a w w' := h.2.2.2 a (by omega) (by omega) (by omega)
theorem TkR.got {g : Ge} {x : Nat} {w w' : Wd} {L : List (Option (List (Int32 × Int64)))} (h : TkR g x w w') (hw : x + 81 ≤ wn w) (hl : L.length ≤ 8) (hG : GotX x w L) : GotX x w' L := fun k C hk => by
  obtain ⟨h1, h2, h3⟩ := hG k C hk
  have hlt := (List.getElem?_eq_some_iff.mp hk).1
  refine ⟨h1, by rw [(h.low hw (show x + 14 < x + 34 by omega)).2.1]; exact h2, fun i hi => ?_⟩
  rw [(h.low hw (show x + 16 + k < x + 34 by omega)).2.1, (h.low hw (show x + 25 + k < x + 34 by omega)).2.2.1]
  exact h3 i hi
theorem TkR.prs {g : Ge} {x p : Nat} {w w' : Wd} (h : TkR g x w w') (hw : x + 81 ≤ wn w) (hP : PrX x w p 8) : PrX x w' p 8 := fun k hk => by
  rw [(h.low hw (show x + 13 < x + 34 by omega)).2.1]
  exact hP k hk
theorem NewX.tk {g : Ge} {x b k to : Nat} {w w' : Wd} {y : Option (List (Int32 × Int64))} (hy : NewX x b w k to y) (h : TkR g x w w') (hb : x + 81 ≤ b) (hp : wP w' (x + 35) k = wP w (x + 35) k) : NewX x b w' k to y := by
  cases y with
  | none => exact hp.trans hy
  | some D =>
    obtain ⟨A, h1, h2, h3, h4, ⟨r1, r2, r3, r4, r5, r6⟩, h6⟩ := hy
    have s0 := h.2.2.2 A (by omega) (by omega) (by omega)
    have s1 := h.2.2.2 (A + 1) (by omega) (by omega) (by omega)
    have s2 := h.2.2.2 (A + 2) (by omega) (by omega) (by omega)
    refine ⟨A, hp.trans h1, h2, Nat.le_trans h3 h.1, h4, ⟨s0.1.trans r1, by rw [s0.2.1]; exact r2, by rw [s0.2.2.2]; exact r3, by rw [s0.2.2.2]; exact r4, s1.1.trans r5, s2.1.trans r6⟩, fun i hi => ?_⟩
    rw [s1.2.1, s2.2.2.1]
    exact h6 i hi
theorem TkR.put {g : Ge} {x kf : Nat} {w w1 : Wd} {v : Option Nat} (h : TkR g x w w1) : TkR g x w (sP w1 (x + 35) kf v) := ⟨by rw [wn_sP]; exact h.1, fun b hb => by
    rw [wn_sP] at hb
    rw [wsh_sP]
    exact h.2.1 b hb, h.2.2.1.sm (fun o _ => by rw [wsh_sP]) fun q hq => by
    have := xpT35 q hq
    rw [wP_ne (by omega)], fun b h1 h2 h3 => (h.2.2.2 b h1 h2 h3).tr (sP_same h3)⟩
theorem TkR.rf {g : Ge} {x : Nat} {w : Wd} (hx : XS g x w) (hW : WF w) : TkR g x w w := ⟨Nat.le_refl _, hW, hx, fun _ _ _ _ => Same.rf⟩
set_option maxRecDepth 100000 in
set_option maxHeartbeats 4000000 in
theorem X9_def_loop {g : Ge} {x k0 n0 A kd cc kf d : Nat} {V : Int64} {K : Option Value → Wd → Prop} (hA : x + 81 ≤ A) (hcc : cc ≤ 16) : ∀ (r i : Nat) (w : Wd), i + r = cc → XS g x w → RowS w A kd cc → (∀ q, q < cc → wI w (A + 1) q = nI kd) → (∀ q, q < i → wL w (A + 2) q = V) →
    (∀ w', Fr (fun a _ => a = A + 2) w w' → (∀ q, q < cc → wI w' (A + 1) q = nI kd ∧ wL w' (A + 2) q = V) → R g mX9_fillByDefault K 81 [some (.ref (x + 34)), some (.int (nI kf)), some (.ref d), some (.ref A), some (.long V), none, some (.int (nI cc))] [] w' k0 n0) →
    R g mX9_fillByDefault K 57 [some (.ref (x + 34)), some (.int (nI kf)), some (.ref d), some (.ref A), some (.long V), none, some (.int (nI i))] [] w k0 n0 := by
  intro r
  induction r with
  | zero =>
    intro i w hi hx hr hk hv hK
    obtain rfl : i = cc := by omega
    simp (disch := omega) only [vX9_fillByDefault_57, vX9_fillByDefault_59, vX9_fillByDefault_60, pI_c, pL_c, pF_c, pD_c, pA_n, pA_c, pA_rf, pR_c, pR_rf, pV_i, pV_a, pV_n, pV_rf, ldI_c, ldL_c, ldF_c, ldD_c, ldA_c, ldA_n, ldA_rf, dup2_l, dup2_ia, dup2_ir, popA_0, popA_s, getL_z, getL_s, setL_z, setL_1, setL_s, setL2_z, setL2_1, setL2_s, drop2_i, drop2_a, drop2_0, drop2_n, drop2_l, drop2_d, drop2_r, cwd_0, cwd_i, cwd_a, cwd_n, cwd_l, cwd_d, cwd_f, cwd_r, rf_s, rf_n, swi_0, swi_s, zR_b0, zR_b1, zN_b0, zN_b1, entV_i, entV_a, entV_n, entV_r, entV_f, entV_l, entV_d, entV_s, entV_0, List.length_cons, List.length_nil, List.nil_append, List.cons_append, true_and, and_true, Nat.reduceAdd, Nat.reduceLT, Nat.reduceEqDiff, Nat.reduceLeDiff, Nat.reduceSub, Nat.zero_add, Classical.not_not, ex_i, ex_l, ex_d, ex_r, ex_rs, ex_rn, ex_sm, Nat.sub_zero, eq_self, wn_sI, wn_sL, wn_sP, wsh_sI, wsh_sL, wsh_sP, wI_sL, wI_sP, wL_sI, wL_sP, wP_sI, wP_sL, wI_sI, wL_sL, Int32.reduceLT, Int32.reduceLE, true_implies, not_true_eq_false, false_implies, not_false_eq_true, i_10, hr.1]
    refine X7_size_ok hr ?_
    simp (disch := omega) only [vX9_fillByDefault_63, pI_c, pL_c, pF_c, pD_c, pA_n, pA_c, pA_rf, pR_c, pR_rf, pV_i, pV_a, pV_n, pV_rf, ldI_c, ldL_c, ldF_c, ldD_c, ldA_c, ldA_n, ldA_rf, dup2_l, dup2_ia, dup2_ir, popA_0, popA_s, getL_z, getL_s, setL_z, setL_1, setL_s, setL2_z, setL2_1, setL2_s, drop2_i, drop2_a, drop2_0, drop2_n, drop2_l, drop2_d, drop2_r, cwd_0, cwd_i, cwd_a, cwd_n, cwd_l, cwd_d, cwd_f, cwd_r, rf_s, rf_n, swi_0, swi_s, zR_b0, zR_b1, zN_b0, zN_b1, entV_i, entV_a, entV_n, entV_r, entV_f, entV_l, entV_d, entV_s, entV_0, List.length_cons, List.length_nil, List.nil_append, List.cons_append, true_and, and_true, Nat.reduceAdd, Nat.reduceLT, Nat.reduceEqDiff, Nat.reduceLeDiff, Nat.reduceSub, Nat.zero_add, Classical.not_not, ex_i, ex_l, ex_d, ex_r, ex_rs, ex_rn, ex_sm, Nat.sub_zero, eq_self, wn_sI, wn_sL, wn_sP, wsh_sI, wsh_sL, wsh_sP, wI_sL, wI_sP, wL_sI, wL_sP, wP_sI, wP_sL, wI_sI, wL_sL, Int32.reduceLT, Int32.reduceLE, true_implies, not_true_eq_false, false_implies, not_false_eq_true, i_10, ni_le, ni_lt, ni_eq, ni_le1, ni_le0, ni_eq0, ni_eq1, ni_eq2, ni_eq8, ni_eq9, Nat.le_refl]
    exact hK w Fr.rf fun q hq => ⟨hk q hq, hv q hq⟩
  | succ r ih =>
    intro i w hi hx hr hk hv hK
    have hlt : ¬ cc ≤ i := by omega
    have g1 : gB g ≤ A + 2 := Nat.le_trans hx.1 (by omega)
    obtain ⟨r1, r2, r3, r4, r5, r6⟩ := id hr
    simp (disch := omega) only [vX9_fillByDefault_57, vX9_fillByDefault_59, vX9_fillByDefault_60, pI_c, pL_c, pF_c, pD_c, pA_n, pA_c, pA_rf, pR_c, pR_rf, pV_i, pV_a, pV_n, pV_rf, ldI_c, ldL_c, ldF_c, ldD_c, ldA_c, ldA_n, ldA_rf, dup2_l, dup2_ia, dup2_ir, popA_0, popA_s, getL_z, getL_s, setL_z, setL_1, setL_s, setL2_z, setL2_1, setL2_s, drop2_i, drop2_a, drop2_0, drop2_n, drop2_l, drop2_d, drop2_r, cwd_0, cwd_i, cwd_a, cwd_n, cwd_l, cwd_d, cwd_f, cwd_r, rf_s, rf_n, swi_0, swi_s, zR_b0, zR_b1, zN_b0, zN_b1, entV_i, entV_a, entV_n, entV_r, entV_f, entV_l, entV_d, entV_s, entV_0, List.length_cons, List.length_nil, List.nil_append, List.cons_append, true_and, and_true, Nat.reduceAdd, Nat.reduceLT, Nat.reduceEqDiff, Nat.reduceLeDiff, Nat.reduceSub, Nat.zero_add, Classical.not_not, ex_i, ex_l, ex_d, ex_r, ex_rs, ex_rn, ex_sm, Nat.sub_zero, eq_self, wn_sI, wn_sL, wn_sP, wsh_sI, wsh_sL, wsh_sP, wI_sL, wI_sP, wL_sI, wL_sP, wP_sI, wP_sL, wI_sI, wL_sL, Int32.reduceLT, Int32.reduceLE, true_implies, not_true_eq_false, false_implies, not_false_eq_true, i_10, hr.1]
    refine X7_size_ok hr ?_
    simp (disch := omega) only [vX9_fillByDefault_63, pI_c, pL_c, pF_c, pD_c, pA_n, pA_c, pA_rf, pR_c, pR_rf, pV_i, pV_a, pV_n, pV_rf, ldI_c, ldL_c, ldF_c, ldD_c, ldA_c, ldA_n, ldA_rf, dup2_l, dup2_ia, dup2_ir, popA_0, popA_s, getL_z, getL_s, setL_z, setL_1, setL_s, setL2_z, setL2_1, setL2_s, drop2_i, drop2_a, drop2_0, drop2_n, drop2_l, drop2_d, drop2_r, cwd_0, cwd_i, cwd_a, cwd_n, cwd_l, cwd_d, cwd_f, cwd_r, rf_s, rf_n, swi_0, swi_s, zR_b0, zR_b1, zN_b0, zN_b1, entV_i, entV_a, entV_n, entV_r, entV_f, entV_l, entV_d, entV_s, entV_0, List.length_cons, List.length_nil, List.nil_append, List.cons_append, true_and, and_true, Nat.reduceAdd, Nat.reduceLT, Nat.reduceEqDiff, Nat.reduceLeDiff, Nat.reduceSub, Nat.zero_add, Classical.not_not, ex_i, ex_l, ex_d, ex_r, ex_rs, ex_rn, ex_sm, Nat.sub_zero, eq_self, wn_sI, wn_sL, wn_sP, wsh_sI, wsh_sL, wsh_sP, wI_sL, wI_sP, wL_sI, wL_sP, wP_sI, wP_sL, wI_sI, wL_sL, Int32.reduceLT, Int32.reduceLE, true_implies, not_true_eq_false, false_implies, not_false_eq_true, i_10, ni_le, ni_lt, ni_eq, ni_le1, ni_le0, ni_eq0, ni_eq1, ni_eq2, ni_eq8, ni_eq9, hlt]
    simp (disch := omega) only [vX9_fillByDefault_66, vX9_fillByDefault_67, vX9_fillByDefault_70, vX9_fillByDefault_72, vX9_fillByDefault_74, vX9_fillByDefault_75, vX9_fillByDefault_78, pI_c, pL_c, pF_c, pD_c, pA_n, pA_c, pA_rf, pR_c, pR_rf, pV_i, pV_a, pV_n, pV_rf, ldI_c, ldL_c, ldF_c, ldD_c, ldA_c, ldA_n, ldA_rf, dup2_l, dup2_ia, dup2_ir, popA_0, popA_s, getL_z, getL_s, setL_z, setL_1, setL_s, setL2_z, setL2_1, setL2_s, drop2_i, drop2_a, drop2_0, drop2_n, drop2_l, drop2_d, drop2_r, cwd_0, cwd_i, cwd_a, cwd_n, cwd_l, cwd_d, cwd_f, cwd_r, rf_s, rf_n, swi_0, swi_s, zR_b0, zR_b1, zN_b0, zN_b1, entV_i, entV_a, entV_n, entV_r, entV_f, entV_l, entV_d, entV_s, entV_0, List.length_cons, List.length_nil, List.nil_append, List.cons_append, true_and, and_true, Nat.reduceAdd, Nat.reduceLT, Nat.reduceEqDiff, Nat.reduceLeDiff, Nat.reduceSub, Nat.zero_add, Classical.not_not, ex_i, ex_l, ex_d, ex_r, ex_rs, ex_rn, ex_sm, Nat.sub_zero, eq_self, wn_sI, wn_sL, wn_sP, wsh_sI, wsh_sL, wsh_sP, wI_sL, wI_sP, wL_sI, wL_sP, wP_sI, wP_sL, wI_sI, wL_sL, Int32.reduceLT, Int32.reduceLE, true_implies, not_true_eq_false, false_implies, not_false_eq_true, i_10, na_1, nb_1, nm_1, ns_1, nr_1, na_2, nb_2, nm_2, ns_2, nr_2, na_3, nb_3, nm_3, ns_3, nr_3, na_4, nb_4, nm_4, ns_4, nr_4, na_5, nb_5, nm_5, ns_5, nr_5, na_6, nb_6, nm_6, ns_6, nr_6, na_7, nb_7, nm_7, ns_7, nr_7, na_8, nb_8, nm_8, ns_8, nr_8, na_10, nb_10, nm_10, ns_10, nr_10, na_16, nb_16, nm_16, ns_16, nr_16, nl_m1, ni_add, ni_mul, ni_sub, ni_cl, ni_in, vp_0, vp_1, vp_2, vp_3, vp_4, vp_5, Int32.reduceToNatClampNeg, r1, r4, r6, g1]
    have f1 : Fr (fun a _ => a = A + 2) w (sL w (A + 2) i V) := Fr.rf.l _ rfl
    refine ih (i + 1) _ (by omega) (hx.fr f1) (hr.fr f1 fun j => by omega) (fun q hq => hk q hq) (fun q hq => ?_) fun w' f2 h2 => hK w' (f1.tr f2) h2
    by_cases z : q = i
    · rw [z]
      exact wL_at.trans (if_pos rfl)
    · rw [wL_at, if_neg z]
      exact hv q (by omega)
def defY (s : St) (fi : Nat) : Option (List (Int32 × Int64)) := if s.1 11 fi = 0 then none else some (List.replicate (s.1 9 fi).toNatClampNeg (s.1 8 fi, numOf (s.1 8 fi) (s.1 12 fi).toInt64))
set_option maxRecDepth 100000 in
set_option maxHeartbeats 4000000 in
theorem X9_byDef_ok {g : Ge} {w : Wd} {k n : Nat} {K : Int32 → Wd → Nat → Nat → Prop} {x kf d fi : Nat} {s : St} (hx : XS g x w) (hW : WF w) (hw : x + 81 ≤ wn w) (hO : FldO w d s fi) (hF : FldW (fun j => s.1 (7 + j) fi)) (hd : x + 81 ≤ d) (hkf : kf < 8) (hk : 3 ≤ k) (hn : 64 ≤ n) (h1 : s.1 10 fi = 1 → K (-15) w (k - 3) (n - 64))
    (h0 : ¬ s.1 10 fi = 1 → ∀ w', TkR g x w w' → (∀ k', k' ≠ kf → wP w' (x + 35) k' = wP w (x + 35) k') → NewX x (wn w) w' kf (s.1 8 fi).toNatClampNeg (defY s fi) → wP w' (x + 34) = wP w (x + 34) → K 0 w' (k - 3) (n - 64)) : cI g mX9_fillByDefault [.ref (x + 34), .int (nI kf), .ref d] w k n K := by
  obtain ⟨sl, kd, cc, nd, td, hs8, hkd, hc, hnd, htd, f0, f1, f2, f3, f4, f5, f6, -, -⟩ := hF
  have g8 : s.1 8 fi = nI kd := f1
  have g9 : s.1 9 fi = nI cc := f2
  have g10 : s.1 10 fi = nI nd := f3
  have g11 : s.1 11 fi = nI td := f4
  have o1 : wI w d 1 = nI kd := (hO.2 1 (by decide)).trans f1
  have o2 : wI w d 2 = nI cc := (hO.2 2 (by decide)).trans f2
  have o3 : wI w d 3 = nI nd := (hO.2 3 (by decide)).trans f3
  have o4 : wI w d 4 = nI td := (hO.2 4 (by decide)).trans f4
  have o5 : wI w d 5 = s.1 12 fi := hO.2 5 (by decide)
  have dl : d < wn w := hW.lt (by rw [hO.1]; decide)
  refine cI_of 7 3 64 rfl (by decide +kernel) rfl (Nat.le_of_ble_eq_true rfl) hk hn ?_
  unfold defY at h0
  rw [g8, g9, g10, g11, ni_cl (by omega), ni_cl (by omega), ni_eq1 (by omega)] at h0
  rw [g10, ni_eq1 (by omega)] at h1
  by_cases q1 : nd = 1
  · simp (disch := omega) only [vX9_fillByDefault_0, vX9_fillByDefault_1, vX9_fillByDefault_4, vX9_fillByDefault_7, vX9_fillByDefault_9, pI_c, pL_c, pF_c, pD_c, pA_n, pA_c, pA_rf, pR_c, pR_rf, pV_i, pV_a, pV_n, pV_rf, ldI_c, ldL_c, ldF_c, ldD_c, ldA_c, ldA_n, ldA_rf, dup2_l, dup2_ia, dup2_ir, popA_0, popA_s, getL_z, getL_s, setL_z, setL_1, setL_s, setL2_z, setL2_1, setL2_s, drop2_i, drop2_a, drop2_0, drop2_n, drop2_l, drop2_d, drop2_r, cwd_0, cwd_i, cwd_a, cwd_n, cwd_l, cwd_d, cwd_f, cwd_r, rf_s, rf_n, swi_0, swi_s, zR_b0, zR_b1, zN_b0, zN_b1, entV_i, entV_a, entV_n, entV_r, entV_f, entV_l, entV_d, entV_s, entV_0, List.length_cons, List.length_nil, List.nil_append, List.cons_append, true_and, and_true, Nat.reduceAdd, Nat.reduceLT, Nat.reduceEqDiff, Nat.reduceLeDiff, Nat.reduceSub, Nat.zero_add, Classical.not_not, ex_i, ex_l, ex_d, ex_r, ex_rs, ex_rn, ex_sm, Nat.sub_zero, eq_self, wn_sI, wn_sL, wn_sP, wsh_sI, wsh_sL, wsh_sP, wI_sL, wI_sP, wL_sI, wL_sP, wP_sI, wP_sL, wI_sI, wL_sL, Int32.reduceLT, Int32.reduceLE, true_implies, not_true_eq_false, false_implies, not_false_eq_true, i_10, na_1, nb_1, nm_1, ns_1, nr_1, na_2, nb_2, nm_2, ns_2, nr_2, na_3, nb_3, nm_3, ns_3, nr_3, na_4, nb_4, nm_4, ns_4, nr_4, na_5, nb_5, nm_5, ns_5, nr_5, na_6, nb_6, nm_6, ns_6, nr_6, na_7, nb_7, nm_7, ns_7, nr_7, na_8, nb_8, nm_8, ns_8, nr_8, na_10, nb_10, nm_10, ns_10, nr_10, na_16, nb_16, nm_16, ns_16, nr_16, nl_m1, ni_add, ni_mul, ni_sub, ni_cl, ni_in, vp_0, vp_1, vp_2, vp_3, vp_4, vp_5, Int32.reduceToNatClampNeg, hO.1, o3, ni_eq0, q1]
    exact h1 q1
  · have n0 : nd = 0 := by omega
    have T1 : TkR g x w (sP w (x + 35) kf none) := (TkR.rf hx hW).put
    simp (disch := omega) only [vX9_fillByDefault_0, vX9_fillByDefault_1, vX9_fillByDefault_4, vX9_fillByDefault_10, vX9_fillByDefault_11, vX9_fillByDefault_14, vX9_fillByDefault_15, vX9_fillByDefault_16, vX9_fillByDefault_17, vX9_fillByDefault_18, vX9_fillByDefault_21, xs_b hx, xs_0 hx, xs_obj hx, xs_taker hx, xp_x_7 hx, xs_rows hx, xp_taker_0 hx, pI_c, pL_c, pF_c, pD_c, pA_n, pA_c, pA_rf, pR_c, pR_rf, pV_i, pV_a, pV_n, pV_rf, ldI_c, ldL_c, ldF_c, ldD_c, ldA_c, ldA_n, ldA_rf, dup2_l, dup2_ia, dup2_ir, popA_0, popA_s, getL_z, getL_s, setL_z, setL_1, setL_s, setL2_z, setL2_1, setL2_s, drop2_i, drop2_a, drop2_0, drop2_n, drop2_l, drop2_d, drop2_r, cwd_0, cwd_i, cwd_a, cwd_n, cwd_l, cwd_d, cwd_f, cwd_r, rf_s, rf_n, swi_0, swi_s, zR_b0, zR_b1, zN_b0, zN_b1, entV_i, entV_a, entV_n, entV_r, entV_f, entV_l, entV_d, entV_s, entV_0, List.length_cons, List.length_nil, List.nil_append, List.cons_append, true_and, and_true, Nat.reduceAdd, Nat.reduceLT, Nat.reduceEqDiff, Nat.reduceLeDiff, Nat.reduceSub, Nat.zero_add, Classical.not_not, ex_i, ex_l, ex_d, ex_r, ex_rs, ex_rn, ex_sm, Nat.sub_zero, eq_self, wn_sI, wn_sL, wn_sP, wsh_sI, wsh_sL, wsh_sP, wI_sL, wI_sP, wL_sI, wL_sP, wP_sI, wP_sL, wI_sI, wL_sL, Int32.reduceLT, Int32.reduceLE, true_implies, not_true_eq_false, false_implies, not_false_eq_true, i_10, na_1, nb_1, nm_1, ns_1, nr_1, na_2, nb_2, nm_2, ns_2, nr_2, na_3, nb_3, nm_3, ns_3, nr_3, na_4, nb_4, nm_4, ns_4, nr_4, na_5, nb_5, nm_5, ns_5, nr_5, na_6, nb_6, nm_6, ns_6, nr_6, na_7, nb_7, nm_7, ns_7, nr_7, na_8, nb_8, nm_8, ns_8, nr_8, na_10, nb_10, nm_10, ns_10, nr_10, na_16, nb_16, nm_16, ns_16, nr_16, nl_m1, ni_add, ni_mul, ni_sub, ni_cl, ni_in, vp_0, vp_1, vp_2, vp_3, vp_4, vp_5, Int32.reduceToNatClampNeg, hO.1, o3, o4, n0, ni_eq0]
    have p1 : ∀ k', wP (sP w (x + 35) kf none) (x + 35) k' = if k' = kf then none else wP w (x + 35) k' := fun k' => wP_at
    have p2 : ∀ a, a ≠ x + 35 → wP (sP w (x + 35) kf none) a = wP w a := fun a ha => funext fun j => wP_ne ha
    have p3 : wsh (sP w (x + 35) kf none) = wsh w := rfl
    have p4 : wI (sP w (x + 35) kf none) = wI w := rfl
    have p5 : wn (sP w (x + 35) kf none) = wn w := rfl
    generalize sP w (x + 35) kf none = w1 at T1 p1 p2 p3 p4 p5 ⊢
    obtain ⟨t1, t2, t3, t4⟩ := id T1
    refine ⟨fun v hv => (by cases hv), fun q => ?_, fun q => ?_⟩
    · simp (disch := omega) only [vX9_fillByDefault_88, vX9_fillByDefault_89, pI_c, pL_c, pF_c, pD_c, pA_n, pA_c, pA_rf, pR_c, pR_rf, pV_i, pV_a, pV_n, pV_rf, ldI_c, ldL_c, ldF_c, ldD_c, ldA_c, ldA_n, ldA_rf, dup2_l, dup2_ia, dup2_ir, popA_0, popA_s, getL_z, getL_s, setL_z, setL_1, setL_s, setL2_z, setL2_1, setL2_s, drop2_i, drop2_a, drop2_0, drop2_n, drop2_l, drop2_d, drop2_r, cwd_0, cwd_i, cwd_a, cwd_n, cwd_l, cwd_d, cwd_f, cwd_r, rf_s, rf_n, swi_0, swi_s, zR_b0, zR_b1, zN_b0, zN_b1, entV_i, entV_a, entV_n, entV_r, entV_f, entV_l, entV_d, entV_s, entV_0, List.length_cons, List.length_nil, List.nil_append, List.cons_append, true_and, and_true, Nat.reduceAdd, Nat.reduceLT, Nat.reduceEqDiff, Nat.reduceLeDiff, Nat.reduceSub, Nat.zero_add, Classical.not_not, ex_i, ex_l, ex_d, ex_r, ex_rs, ex_rn, ex_sm, Nat.sub_zero, eq_self, wn_sI, wn_sL, wn_sP, wsh_sI, wsh_sL, wsh_sP, wI_sL, wI_sP, wL_sI, wL_sP, wP_sI, wP_sL, wI_sI, wL_sL, Int32.reduceLT, Int32.reduceLE, true_implies, not_true_eq_false, false_implies, not_false_eq_true, i_10]
      have := h0 q1 w1 T1 (fun k' hk' => by rw [p1, if_neg hk'])
      rw [if_pos (by rw [q]; rfl)] at this
      exact this (by show wP w1 (x + 35) kf = none; rw [p1, if_pos rfl]) (p2 _ (by omega))
    · have td1 : td = 1 := by omega
      have kd7 : kd ≤ 7 := by
        have : ¬ kd = 8 := fun z => by have := f6 z; omega
        omega
      have hd1 : d ≠ wn w1 := by omega
      have c1 : wsh (nw w1 7 0) d = (1, 0) := by rw [wsh_nwN hd1, p3]; exact hO.1
      have c2 : wI (nw w1 7 0) d 1 = nI kd := by rw [(nw_same hd1).2.1, p4]; exact o1
      have c3 : wI (nw w1 7 0) d 2 = nI cc := by rw [(nw_same hd1).2.1, p4]; exact o2
      simp (disch := omega) only [vX9_fillByDefault_24, vX9_fillByDefault_27, vX9_fillByDefault_28, vX9_fillByDefault_29, vX9_fillByDefault_32, vX9_fillByDefault_33, vX9_fillByDefault_36, pI_c, pL_c, pF_c, pD_c, pA_n, pA_c, pA_rf, pR_c, pR_rf, pV_i, pV_a, pV_n, pV_rf, ldI_c, ldL_c, ldF_c, ldD_c, ldA_c, ldA_n, ldA_rf, dup2_l, dup2_ia, dup2_ir, popA_0, popA_s, getL_z, getL_s, setL_z, setL_1, setL_s, setL2_z, setL2_1, setL2_s, drop2_i, drop2_a, drop2_0, drop2_n, drop2_l, drop2_d, drop2_r, cwd_0, cwd_i, cwd_a, cwd_n, cwd_l, cwd_d, cwd_f, cwd_r, rf_s, rf_n, swi_0, swi_s, zR_b0, zR_b1, zN_b0, zN_b1, entV_i, entV_a, entV_n, entV_r, entV_f, entV_l, entV_d, entV_s, entV_0, List.length_cons, List.length_nil, List.nil_append, List.cons_append, true_and, and_true, Nat.reduceAdd, Nat.reduceLT, Nat.reduceEqDiff, Nat.reduceLeDiff, Nat.reduceSub, Nat.zero_add, Classical.not_not, ex_i, ex_l, ex_d, ex_r, ex_rs, ex_rn, ex_sm, Nat.sub_zero, eq_self, wn_sI, wn_sL, wn_sP, wsh_sI, wsh_sL, wsh_sP, wI_sL, wI_sP, wL_sI, wL_sP, wP_sI, wP_sL, wI_sI, wL_sL, Int32.reduceLT, Int32.reduceLE, true_implies, not_true_eq_false, false_implies, not_false_eq_true, i_10, na_1, nb_1, nm_1, ns_1, nr_1, na_2, nb_2, nm_2, ns_2, nr_2, na_3, nb_3, nm_3, ns_3, nr_3, na_4, nb_4, nm_4, ns_4, nr_4, na_5, nb_5, nm_5, ns_5, nr_5, na_6, nb_6, nm_6, ns_6, nr_6, na_7, nb_7, nm_7, ns_7, nr_7, na_8, nb_8, nm_8, ns_8, nr_8, na_10, nb_10, nm_10, ns_10, nr_10, na_16, nb_16, nm_16, ns_16, nr_16, nl_m1, ni_add, ni_mul, ni_sub, ni_cl, ni_in, vp_0, vp_1, vp_2, vp_3, vp_4, vp_5, Int32.reduceToNatClampNeg, c1, c2, c3]
      refine X7_new_ok (kd := kd) (nn := cc) (Nat.le_trans hx.1 (by omega)) t2 hc (by omega) (by omega) fun w2 e1 e2 e3 e4 => ?_
      have hx2 : XS g x w2 := t3.sam fun o ho => e3 _ (by omega)
      have sd := e3 d (by omega)
      have d1 : wsh w2 d = (1, 0) := by rw [sd.1, p3]; exact hO.1
      have d2 : wI w2 d 1 = nI kd := by rw [sd.2.1, p4]; exact o1
      have d3 : wI w2 d 5 = s.1 12 fi := by rw [sd.2.1, p4]; exact o5
      simp (disch := omega) only [vX9_fillByDefault_39, vX9_fillByDefault_40, vX9_fillByDefault_41, vX9_fillByDefault_44, vX9_fillByDefault_45, vX9_fillByDefault_48, vX9_fillByDefault_49, pI_c, pL_c, pF_c, pD_c, pA_n, pA_c, pA_rf, pR_c, pR_rf, pV_i, pV_a, pV_n, pV_rf, ldI_c, ldL_c, ldF_c, ldD_c, ldA_c, ldA_n, ldA_rf, dup2_l, dup2_ia, dup2_ir, popA_0, popA_s, getL_z, getL_s, setL_z, setL_1, setL_s, setL2_z, setL2_1, setL2_s, drop2_i, drop2_a, drop2_0, drop2_n, drop2_l, drop2_d, drop2_r, cwd_0, cwd_i, cwd_a, cwd_n, cwd_l, cwd_d, cwd_f, cwd_r, rf_s, rf_n, swi_0, swi_s, zR_b0, zR_b1, zN_b0, zN_b1, entV_i, entV_a, entV_n, entV_r, entV_f, entV_l, entV_d, entV_s, entV_0, List.length_cons, List.length_nil, List.nil_append, List.cons_append, true_and, and_true, Nat.reduceAdd, Nat.reduceLT, Nat.reduceEqDiff, Nat.reduceLeDiff, Nat.reduceSub, Nat.zero_add, Classical.not_not, ex_i, ex_l, ex_d, ex_r, ex_rs, ex_rn, ex_sm, Nat.sub_zero, eq_self, wn_sI, wn_sL, wn_sP, wsh_sI, wsh_sL, wsh_sP, wI_sL, wI_sP, wL_sI, wL_sP, wP_sI, wP_sL, wI_sI, wL_sL, Int32.reduceLT, Int32.reduceLE, true_implies, not_true_eq_false, false_implies, not_false_eq_true, i_10, na_1, nb_1, nm_1, ns_1, nr_1, na_2, nb_2, nm_2, ns_2, nr_2, na_3, nb_3, nm_3, ns_3, nr_3, na_4, nb_4, nm_4, ns_4, nr_4, na_5, nb_5, nm_5, ns_5, nr_5, na_6, nb_6, nm_6, ns_6, nr_6, na_7, nb_7, nm_7, ns_7, nr_7, na_8, nb_8, nm_8, ns_8, nr_8, na_10, nb_10, nm_10, ns_10, nr_10, na_16, nb_16, nm_16, ns_16, nr_16, nl_m1, ni_add, ni_mul, ni_sub, ni_cl, ni_in, vp_0, vp_1, vp_2, vp_3, vp_4, vp_5, Int32.reduceToNatClampNeg, d1, d2, d3]
      refine X4_byLong_ok kd7 _ ?_
      simp (disch := omega) only [vX9_fillByDefault_52, vX9_fillByDefault_54, vX9_fillByDefault_55, pI_c, pL_c, pF_c, pD_c, pA_n, pA_c, pA_rf, pR_c, pR_rf, pV_i, pV_a, pV_n, pV_rf, ldI_c, ldL_c, ldF_c, ldD_c, ldA_c, ldA_n, ldA_rf, dup2_l, dup2_ia, dup2_ir, popA_0, popA_s, getL_z, getL_s, setL_z, setL_1, setL_s, setL2_z, setL2_1, setL2_s, drop2_i, drop2_a, drop2_0, drop2_n, drop2_l, drop2_d, drop2_r, cwd_0, cwd_i, cwd_a, cwd_n, cwd_l, cwd_d, cwd_f, cwd_r, rf_s, rf_n, swi_0, swi_s, zR_b0, zR_b1, zN_b0, zN_b1, entV_i, entV_a, entV_n, entV_r, entV_f, entV_l, entV_d, entV_s, entV_0, List.length_cons, List.length_nil, List.nil_append, List.cons_append, true_and, and_true, Nat.reduceAdd, Nat.reduceLT, Nat.reduceEqDiff, Nat.reduceLeDiff, Nat.reduceSub, Nat.zero_add, Classical.not_not, ex_i, ex_l, ex_d, ex_r, ex_rs, ex_rn, ex_sm, Nat.sub_zero, eq_self, wn_sI, wn_sL, wn_sP, wsh_sI, wsh_sL, wsh_sP, wI_sL, wI_sP, wL_sI, wL_sP, wP_sI, wP_sL, wI_sI, wL_sL, Int32.reduceLT, Int32.reduceLE, true_implies, not_true_eq_false, false_implies, not_false_eq_true, i_10, na_1, nb_1, nm_1, ns_1, nr_1, na_2, nb_2, nm_2, ns_2, nr_2, na_3, nb_3, nm_3, ns_3, nr_3, na_4, nb_4, nm_4, ns_4, nr_4, na_5, nb_5, nm_5, ns_5, nr_5, na_6, nb_6, nm_6, ns_6, nr_6, na_7, nb_7, nm_7, ns_7, nr_7, na_8, nb_8, nm_8, ns_8, nr_8, na_10, nb_10, nm_10, ns_10, nr_10, na_16, nb_16, nm_16, ns_16, nr_16, nl_m1, ni_add, ni_mul, ni_sub, ni_cl, ni_in, vp_0, vp_1, vp_2, vp_3, vp_4, vp_5, Int32.reduceToNatClampNeg]
      rw [show (0 : Int32) = nI 0 from rfl]
      have hwn : x + 81 ≤ wn w1 := by omega
      refine X9_def_loop hwn hc cc 0 w2 (by omega) hx2 e4.S (fun q hq => (e4.2.2.2.2.2.2 q hq).1) (fun q hq => absurd hq (by omega)) fun w3 f3 hv3 => ?_
      have hx3 := hx2.fr f3
      have r3 : RowS w3 (wn w1) kd cc := e4.S.fr f3 fun j => by omega
      simp (disch := omega) only [vX9_fillByDefault_81, vX9_fillByDefault_82, vX9_fillByDefault_85, vX9_fillByDefault_86, vX9_fillByDefault_87, vX9_fillByDefault_88, vX9_fillByDefault_89, xs_b hx3, xs_0 hx3, xs_obj hx3, xs_taker hx3, xp_x_7 hx3, xs_rows hx3, xp_taker_0 hx3, pI_c, pL_c, pF_c, pD_c, pA_n, pA_c, pA_rf, pR_c, pR_rf, pV_i, pV_a, pV_n, pV_rf, ldI_c, ldL_c, ldF_c, ldD_c, ldA_c, ldA_n, ldA_rf, dup2_l, dup2_ia, dup2_ir, popA_0, popA_s, getL_z, getL_s, setL_z, setL_1, setL_s, setL2_z, setL2_1, setL2_s, drop2_i, drop2_a, drop2_0, drop2_n, drop2_l, drop2_d, drop2_r, cwd_0, cwd_i, cwd_a, cwd_n, cwd_l, cwd_d, cwd_f, cwd_r, rf_s, rf_n, swi_0, swi_s, zR_b0, zR_b1, zN_b0, zN_b1, entV_i, entV_a, entV_n, entV_r, entV_f, entV_l, entV_d, entV_s, entV_0, List.length_cons, List.length_nil, List.nil_append, List.cons_append, true_and, and_true, Nat.reduceAdd, Nat.reduceLT, Nat.reduceEqDiff, Nat.reduceLeDiff, Nat.reduceSub, Nat.zero_add, Classical.not_not, ex_i, ex_l, ex_d, ex_r, ex_rs, ex_rn, ex_sm, Nat.sub_zero, eq_self, wn_sI, wn_sL, wn_sP, wsh_sI, wsh_sL, wsh_sP, wI_sL, wI_sP, wL_sI, wL_sP, wP_sI, wP_sL, wI_sI, wL_sL, Int32.reduceLT, Int32.reduceLE, true_implies, not_true_eq_false, false_implies, not_false_eq_true, i_10, na_1, nb_1, nm_1, ns_1, nr_1, na_2, nb_2, nm_2, ns_2, nr_2, na_3, nb_3, nm_3, ns_3, nr_3, na_4, nb_4, nm_4, ns_4, nr_4, na_5, nb_5, nm_5, ns_5, nr_5, na_6, nb_6, nm_6, ns_6, nr_6, na_7, nb_7, nm_7, ns_7, nr_7, na_8, nb_8, nm_8, ns_8, nr_8, na_10, nb_10, nm_10, ns_10, nr_10, na_16, nb_16, nm_16, ns_16, nr_16, nl_m1, ni_add, ni_mul, ni_sub, ni_cl, ni_in, vp_0, vp_1, vp_2, vp_3, vp_4, vp_5, Int32.reduceToNatClampNeg]
      have T3 : TkR g x w w3 := ⟨by rw [f3.n]; omega, f3.wfk e2, hx3, fun b hb h1 h2 => ((t4 b hb h1 h2).tr (e3 b (by omega))).tr (f3.same fun j => by omega)⟩
      have T4 := T3.put (kf := kf) (v := some (wn w1))
      have sr : ∀ k', wP w3 (x + 35) k' = wP w1 (x + 35) k' := fun k' => by rw [f3.P, (e3 (x + 35) (by omega)).2.2.2]
      have h0' := h0 q1 _ T4 (fun k' hk' => by rw [wP_at, if_neg hk', sr, p1, if_neg hk'])
      rw [if_neg (by rw [td1]; decide)] at h0'
      refine ⟨fun v ev => (by cases ev; rw [r3.1]; rfl), ?_⟩
      refine h0' ⟨wn w1, wP_at.trans (if_pos rfl), by omega, by rw [wn_sP, f3.n]; omega, by rw [List.length_replicate]; exact hc, ?_, fun i hi => ?_⟩ ?_
      · rw [List.length_replicate]
        obtain ⟨s1, s2, s3, s4, s5, s6⟩ := r3
        exact ⟨s1, s2, (wP_ne (by omega)).trans s3, (wP_ne (by omega)).trans s4, s5, s6⟩
      · rw [List.length_replicate] at hi
        rw [Nat.zero_add, List.getElem?_replicate, if_pos hi]
        have := hv3 i hi
        show some _ = some (wI w3 (wn w1 + 1) i, wL w3 (wn w1 + 2) i)
        rw [this.1, this.2]
      · exact funext fun j => by rw [wP_ne (by omega), f3.P, (e3 (x + 34) (by omega)).2.2.2, p2 _ (by omega)]
