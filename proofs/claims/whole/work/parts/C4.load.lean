/-! the class: load -/
theorem tkC_kd {to lx : Int32} (ht : ¬ to = 8) : ∀ {C : List (Int32 × Int64)} {i : Nat} {D : List (Int32 × Int64)}, tkC to lx C i = .inr D → ∀ x ∈ D, x.1 = to
  | [], i, D, h => by
    unfold tkC at h
    cases h
    intro x hx
    cases hx
  | (kd, v) :: C, i, D, h => by
    rw [tkC] at h
    split at h
    · split at h
      · cases h
      next D' hD =>
        cases h
        intro x hx
        rcases List.mem_cons.mp hx with z | z
        · rw [z]
        · exact tkC_kd ht hD x z
    · cases h
theorem tkF_kd {Fw F : Nat → Nat → Int32} {nw k : Nat} {lx : Int32} {L : List (Option (List (Int32 × Int64)))} {C : List (Int32 × Int64)} (ht : ¬ F 1 k = 8) (h : tkF Fw nw L lx F k = .inr (some C)) : ∀ x ∈ C, x.1 = F 1 k := by
  have hd : ∀ {C : List (Int32 × Int64)}, tkD F k = .inr (some C) → ∀ x ∈ C, x.1 = F 1 k := fun {C} h => by
    unfold tkD at h
    split at h
    · cases h
    · split at h
      · cases h
      · cases h
        intro x hx
        rw [(List.mem_replicate.mp hx).2]
  unfold tkF at h
  split at h
  · exact hd h
  · split at h
    · split at h
      · cases h
      · split at h
        · cases h
        next D hD =>
          cases h
          exact tkC_kd ht hD
    · exact hd h
theorem tk_kd {Fw F : Nat → Nat → Int32} {nw : Nat} {lx : Int32} {L : List (Option (List (Int32 × Int64)))} : ∀ {r k : Nat} {D : List (Option (List (Int32 × Int64)))}, tk Fw nw L lx F r k = .inr D → ∀ (j : Nat) (C : List (Int32 × Int64)), D[j]? = some (some C) → ¬ F 1 (k + j) = 8 → ∀ x ∈ C, x.1 = F 1 (k + j)
  | 0, k, D, h => by
    unfold tk at h
    cases h
    intro j C hj
    cases hj
  | r + 1, k, D, h => by
    rw [tk] at h
    split at h
    · cases h
    next y hy =>
      split at h
      · cases h
      next D' hD =>
        cases h
        intro j C hj ht
        cases j with
        | zero =>
          have : y = some C := Option.some.inj hj
          subst this
          exact tkF_kd ht hy
        | succ j =>
          have := tk_kd hD j C hj
          rw [show k + 1 + j = k + (j + 1) by omega] at this
          exact this ht
/-- the slots hold what was taken for the first i fields -/
def SltX (x : Nat) (w w' : Wd) (s : St) (v i : Nat) : Prop := ∀ t, t < 8 → (∃ k, k < i ∧ s.1 7 (8 * v + k) = nI t ∧ wP w' (x + 1) t = wP w (x + 35) k) ∨ ((∀ k, k < i → ¬ s.1 7 (8 * v + k) = nI t) ∧ wP w' (x + 1) t = wP w (x + 1) t)
def SlR (x : Nat) (w w' : Wd) : Prop := wn w' = wn w ∧ wsh w' = wsh w ∧ wI w' = wI w ∧ wL w' = wL w ∧ ∀ a, a ≠ x + 1 → wP w' a = wP w a
set_option maxRecDepth 100000 in
set_option maxHeartbeats 4000000 in
theorem X_load_loop {g : Ge} {x k0 n0 n1 A c v b : Nat} {y1 y2 y3 : Int32} {s : St} {D : List (Option (List (Int32 × Int64)))} {K : Option Value → Wd → Prop} {w : Wd} (hV : VerO (x + 81) w A c n1 v s) (hN : NewsX x b w v s D) (hD : D.length = n1) : ∀ (r i : Nat) (w1 : Wd), i + r = n1 → XS g x w1 → SlR x w w1 → SltX x w w1 s v i →
    (∀ w2 , XS g x w2 → SlR x w w2 → SltX x w w2 s v n1 → R g mX11_load K 201 [some (.ref x), some (.int y1), some (.int y2), some (.int y3), some (.ref A), some (.int (nI n1))] [] w2 k0 n0) →
    R g mX11_load K 159 [some (.ref x), some (.int y1), some (.int y2), some (.int y3), some (.ref A), some (.int (nI i))] [] w1 k0 n0 := by
  intro r
  obtain ⟨v1, v2, v3, v4, v5, v6, v7, v8, v9, v10⟩ := id hV
  have hn8 := hV.n8
  induction r with
  | zero =>
    intro i w1 hi hx hS hT hK
    obtain rfl : i = n1 := by omega
    have u5 : wsh w1 A = (10, 0) := by rw [hS.2.1]; exact v5
    have u6 : wI w1 A 1 = nI i := by rw [hS.2.2.1]; exact v6
    simp (disch := omega) only [vX11_load_159, vX11_load_161, vX11_load_163, vX11_load_166, pI_c, pL_c, pF_c, pD_c, pA_n, pA_c, pA_rf, pR_c, pR_rf, pV_i, pV_a, pV_n, pV_rf, ldI_c, ldL_c, ldF_c, ldD_c, ldA_c, ldA_n, ldA_rf, dup2_l, dup2_ia, dup2_ir, popA_0, popA_s, getL_z, getL_s, setL_z, setL_1, setL_s, setL2_z, setL2_1, setL2_s, drop2_i, drop2_a, drop2_0, drop2_n, drop2_l, drop2_d, drop2_r, cwd_0, cwd_i, cwd_a, cwd_n, cwd_l, cwd_d, cwd_f, cwd_r, rf_s, rf_n, swi_0, swi_s, zR_b0, zR_b1, zN_b0, zN_b1, entV_i, entV_a, entV_n, entV_r, entV_f, entV_l, entV_d, entV_s, entV_0, List.length_cons, List.length_nil, List.nil_append, List.cons_append, true_and, and_true, Nat.reduceAdd, Nat.reduceLT, Nat.reduceEqDiff, Nat.reduceLeDiff, Nat.reduceSub, Nat.zero_add, Classical.not_not, ex_i, ex_l, ex_d, ex_r, ex_rs, ex_rn, ex_sm, Nat.sub_zero, eq_self, wn_sI, wn_sL, wn_sP, wsh_sI, wsh_sL, wsh_sP, wI_sL, wI_sP, wL_sI, wL_sP, wP_sI, wP_sL, wI_sI, wL_sL, Int32.reduceLT, Int32.reduceLE, true_implies, not_true_eq_false, false_implies, not_false_eq_true, i_10, ni_le, ni_lt, ni_eq, ni_le1, ni_le0, ni_eq0, ni_eq1, ni_eq2, ni_eq8, ni_eq9, u5, u6, Nat.le_refl]
    exact hK w1 hx hS hT
  | succ r ih =>
    intro i w1 hi hx hS hT hK
    have hlt : ¬ n1 ≤ i := by omega
    have u5 : wsh w1 A = (10, 0) := by rw [hS.2.1]; exact v5
    have u6 : wI w1 A 1 = nI n1 := by rw [hS.2.2.1]; exact v6
    have u8 : wP w1 A 0 = some c := by rw [hS.2.2.2.2 A (by omega)]; exact v8
    have u9 : wsh w1 c = (106, 8) := by rw [hS.2.1]; exact v9
    obtain ⟨d, d1, d2, d3⟩ := v10 i (by omega)
    have hF : FldW (fun j => s.1 (7 + j) (8 * v + i)) := v3.2.1 i (by omega)
    obtain ⟨t, to, cc, nd, a1, a2, a3, a4, b1, b2, b3, b4, hFN⟩ := d3.N hF
    have u10 : wP w1 c i = some d := by rw [hS.2.2.2.2 c (by omega)]; exact d2
    have u11 : wsh w1 d = (1, 0) := by rw [hS.2.1]; exact hFN.1
    have u12 : wI w1 d 0 = nI t := by rw [hS.2.2.1]; exact hFN.2.1
    simp (disch := omega) only [vX11_load_159, vX11_load_161, vX11_load_163, vX11_load_166, pI_c, pL_c, pF_c, pD_c, pA_n, pA_c, pA_rf, pR_c, pR_rf, pV_i, pV_a, pV_n, pV_rf, ldI_c, ldL_c, ldF_c, ldD_c, ldA_c, ldA_n, ldA_rf, dup2_l, dup2_ia, dup2_ir, popA_0, popA_s, getL_z, getL_s, setL_z, setL_1, setL_s, setL2_z, setL2_1, setL2_s, drop2_i, drop2_a, drop2_0, drop2_n, drop2_l, drop2_d, drop2_r, cwd_0, cwd_i, cwd_a, cwd_n, cwd_l, cwd_d, cwd_f, cwd_r, rf_s, rf_n, swi_0, swi_s, zR_b0, zR_b1, zN_b0, zN_b1, entV_i, entV_a, entV_n, entV_r, entV_f, entV_l, entV_d, entV_s, entV_0, List.length_cons, List.length_nil, List.nil_append, List.cons_append, true_and, and_true, Nat.reduceAdd, Nat.reduceLT, Nat.reduceEqDiff, Nat.reduceLeDiff, Nat.reduceSub, Nat.zero_add, Classical.not_not, ex_i, ex_l, ex_d, ex_r, ex_rs, ex_rn, ex_sm, Nat.sub_zero, eq_self, wn_sI, wn_sL, wn_sP, wsh_sI, wsh_sL, wsh_sP, wI_sL, wI_sP, wL_sI, wL_sP, wP_sI, wP_sL, wI_sI, wL_sL, Int32.reduceLT, Int32.reduceLE, true_implies, not_true_eq_false, false_implies, not_false_eq_true, i_10, ni_le, ni_lt, ni_eq, ni_le1, ni_le0, ni_eq0, ni_eq1, ni_eq2, ni_eq8, ni_eq9, u5, u6, hlt]
    simp (disch := omega) only [vX11_load_169, vX11_load_170, vX11_load_173, vX11_load_175, vX11_load_178, vX11_load_180, vX11_load_181, vX11_load_184, vX11_load_185, vX11_load_188, vX11_load_191, vX11_load_193, vX11_load_194, xs_b hx, xs_0 hx, xs_obj hx, xs_slots hx, xp_x_0 hx, xs_taker hx, xp_x_7 hx, xs_rows hx, xp_taker_0 hx, pI_c, pL_c, pF_c, pD_c, pA_n, pA_c, pA_rf, pR_c, pR_rf, pV_i, pV_a, pV_n, pV_rf, ldI_c, ldL_c, ldF_c, ldD_c, ldA_c, ldA_n, ldA_rf, dup2_l, dup2_ia, dup2_ir, popA_0, popA_s, getL_z, getL_s, setL_z, setL_1, setL_s, setL2_z, setL2_1, setL2_s, drop2_i, drop2_a, drop2_0, drop2_n, drop2_l, drop2_d, drop2_r, cwd_0, cwd_i, cwd_a, cwd_n, cwd_l, cwd_d, cwd_f, cwd_r, rf_s, rf_n, swi_0, swi_s, zR_b0, zR_b1, zN_b0, zN_b1, entV_i, entV_a, entV_n, entV_r, entV_f, entV_l, entV_d, entV_s, entV_0, List.length_cons, List.length_nil, List.nil_append, List.cons_append, true_and, and_true, Nat.reduceAdd, Nat.reduceLT, Nat.reduceEqDiff, Nat.reduceLeDiff, Nat.reduceSub, Nat.zero_add, Classical.not_not, ex_i, ex_l, ex_d, ex_r, ex_rs, ex_rn, ex_sm, Nat.sub_zero, eq_self, wn_sI, wn_sL, wn_sP, wsh_sI, wsh_sL, wsh_sP, wI_sL, wI_sP, wL_sI, wL_sP, wP_sI, wP_sL, wI_sI, wL_sL, Int32.reduceLT, Int32.reduceLE, true_implies, not_true_eq_false, false_implies, not_false_eq_true, i_10, na_1, nb_1, nm_1, ns_1, nr_1, na_2, nb_2, nm_2, ns_2, nr_2, na_3, nb_3, nm_3, ns_3, nr_3, na_4, nb_4, nm_4, ns_4, nr_4, na_5, nb_5, nm_5, ns_5, nr_5, na_6, nb_6, nm_6, ns_6, nr_6, na_7, nb_7, nm_7, ns_7, nr_7, na_8, nb_8, nm_8, ns_8, nr_8, na_10, nb_10, nm_10, ns_10, nr_10, na_16, nb_16, nm_16, ns_16, nr_16, nl_m1, ni_add, ni_mul, ni_sub, ni_cl, ni_in, vp_0, vp_1, vp_2, vp_3, vp_4, vp_5, Int32.reduceToNatClampNeg, u5, u8, u9, u10, u11, u12]
    refine ⟨fun a ha => ?_, ?_⟩
    · rw [hS.2.2.2.2 _ (by omega)] at ha
      have hg := List.getElem?_eq_getElem (show i < D.length by omega)
      have hn := hN.1 i _ hg
      cases hC : D[i] with
      | none =>
        rw [hC] at hn
        have := hn.symm.trans ha
        cases this
      | some C =>
        rw [hC] at hn
        obtain ⟨A1, c1, c2, c3, c4, c5, c6⟩ := hn
        rw [c1] at ha
        obtain rfl := Option.some.inj ha
        rw [hS.2.1, c5.1]
        rfl
    · simp (disch := omega) only [vX11_load_195, vX11_load_198, pI_c, pL_c, pF_c, pD_c, pA_n, pA_c, pA_rf, pR_c, pR_rf, pV_i, pV_a, pV_n, pV_rf, ldI_c, ldL_c, ldF_c, ldD_c, ldA_c, ldA_n, ldA_rf, dup2_l, dup2_ia, dup2_ir, popA_0, popA_s, getL_z, getL_s, setL_z, setL_1, setL_s, setL2_z, setL2_1, setL2_s, drop2_i, drop2_a, drop2_0, drop2_n, drop2_l, drop2_d, drop2_r, cwd_0, cwd_i, cwd_a, cwd_n, cwd_l, cwd_d, cwd_f, cwd_r, rf_s, rf_n, swi_0, swi_s, zR_b0, zR_b1, zN_b0, zN_b1, entV_i, entV_a, entV_n, entV_r, entV_f, entV_l, entV_d, entV_s, entV_0, List.length_cons, List.length_nil, List.nil_append, List.cons_append, true_and, and_true, Nat.reduceAdd, Nat.reduceLT, Nat.reduceEqDiff, Nat.reduceLeDiff, Nat.reduceSub, Nat.zero_add, Classical.not_not, ex_i, ex_l, ex_d, ex_r, ex_rs, ex_rn, ex_sm, Nat.sub_zero, eq_self, wn_sI, wn_sL, wn_sP, wsh_sI, wsh_sL, wsh_sP, wI_sL, wI_sP, wL_sI, wL_sP, wP_sI, wP_sL, wI_sI, wL_sL, Int32.reduceLT, Int32.reduceLE, true_implies, not_true_eq_false, false_implies, not_false_eq_true, i_10, na_1, nb_1, nm_1, ns_1, nr_1, na_2, nb_2, nm_2, ns_2, nr_2, na_3, nb_3, nm_3, ns_3, nr_3, na_4, nb_4, nm_4, ns_4, nr_4, na_5, nb_5, nm_5, ns_5, nr_5, na_6, nb_6, nm_6, ns_6, nr_6, na_7, nb_7, nm_7, ns_7, nr_7, na_8, nb_8, nm_8, ns_8, nr_8, na_10, nb_10, nm_10, ns_10, nr_10, na_16, nb_16, nm_16, ns_16, nr_16, nl_m1, ni_add, ni_mul, ni_sub, ni_cl, ni_in, vp_0, vp_1, vp_2, vp_3, vp_4, vp_5, Int32.reduceToNatClampNeg]
      refine ih (i + 1) _ (by omega) (hx.sm (fun o _ => by rw [wsh_sP]) fun q hq => ?_) ⟨hS.1, hS.2.1, hS.2.2.1, hS.2.2.2.1, fun a ha => ?_⟩ (fun t' ht' => ?_) hK
      · have t1 : ∀ q ∈ xpT, q.1 ≤ 40 ∧ q.1 ≠ 1 := by decide
        have := t1 q hq
        rw [wP_ne (by omega)]
      · exact (funext fun j => wP_ne ha).trans (hS.2.2.2.2 a ha)
      · rw [wP_at]
        by_cases e : t' = t
        · subst e
          exact Or.inl ⟨i, by omega, b1, by rw [if_pos rfl, hS.2.2.2.2 _ (by omega)]⟩
        · rw [if_neg e]
          rcases hT t' ht' with ⟨k, z1, z2, z3⟩ | ⟨z1, z2⟩
          · exact Or.inl ⟨k, by omega, z2, z3⟩
          · refine Or.inr ⟨fun k hk z => ?_, z2⟩
            by_cases q : k = i
            · rw [q, b1, ni_eq (by omega) (by omega)] at z
              exact e z.symm
            · exact z1 k (by omega) z
/-- rows and tallies are others, the rest is as it was -/
theorem AbsX.rowsTo2 {x : Nat} {w w' : Wd} {s s' : St} {T : Nat → Nat → Prop} {ra ra' rb : Nat → Nat} (h2 : VersX (x + 81) w (wP w (x + 2)) (s.1 6) (fun j i => s.1 (7 + j) i) ∧ TapeR (wI w x 11) (wI w (x + 3)) (s.1 0 15) (s.1 14) ∧ WireR (wI w x 12) (wI w (x + 4)) (s.1 0 13) (s.1 13) ∧ PapR x w (wP w x 10) (s.1 0 17) (s.1 15) ∧ (wI w x 14 = s.1 0 19 ∧ wL w x 15 = s.2 0 20) ∧ LaxR (wI w x 13) (s.1 0 5) ∧ StopR (wI w (x + 36)) (s.1 0 21) (s.1 16) ∧ (∀ i, i < 6 → wI w (x + 5) i = s.1 17 i) ∧ ImgR x w ra rb s)
    (hk : Keep x w w') (hS : ∀ o, o ≤ 40 → (o = 0 ∨ o = 2 ∨ o = 3 ∨ o = 4 ∨ 36 ≤ o) → Same (x + o) w w') (hB : Bt T s s') (hT : ∀ o j, T o j → (1 ≤ o ∧ o ≤ 5) ∨ o = 17) (h1 : RowsX (x + 81) w' (wP w' (x + 1)) ra' (s'.1 1) (s'.1 2) (s'.1 3) (s'.1 4) (s'.2 5)) (ta : ∀ i, i < 6 → wI w' (x + 5) i = s'.1 17 i) (hne : s.1 0 24 = 1 → ∀ t u r q, t < 8 → u < 8 → r < 8 → q < 8 → s'.1 1 t = nI r → s.1 18 u = nI q → ra' r ≠ rb q) : AbsX x w' s' := by
  obtain ⟨h2, h3, h4, h5, h6, h7, h8, h9, h10⟩ := h2
  have b0 : ∀ j, j < 35 → s'.1 0 j = s.1 0 j ∧ s'.2 0 j = s.2 0 j := fun j hj => hB 0 j (Or.inl ⟨rfl, hj⟩) fun z => by have := hT _ _ z; omega
  have bo : ∀ o, 6 ≤ o → o ≤ 25 → o ≠ 17 → s'.1 o = s.1 o ∧ s'.2 o = s.2 o := fun o h1 h2 h3 => ⟨hB.A o (by omega) h2 fun j z => by have := hT _ _ z; omega, hB.B o (by omega) h2 fun j z => by have := hT _ _ z; omega⟩
  have c := fun o h1 h2 h3 => (bo o h1 h2 h3).1
  have S0 : Same x w w' := hS 0 (by decide) (by decide)
  refine ⟨ra', rb, h1, ?_, ?_, ?_, ?_, ?_, ?_, ?_, ta, ?_⟩
  · rw [(hS 2 (by decide) (by decide)).2.2.2]
    exact (h2.keep hk rfl).cg (fun v _ => by rw [c 6 (by decide) (by decide) (by decide)]) fun j i hj _ => by rw [c (7 + j) (by omega) (by omega) (by omega)]
  · rw [S0.2.1, (hS 3 (by decide) (by decide)).2.1, (b0 15 (by decide)).1, c 14 (by decide) (by decide) (by decide)]
    exact h3
  · rw [S0.2.1, (hS 4 (by decide) (by decide)).2.1, (b0 13 (by decide)).1, c 13 (by decide) (by decide) (by decide)]
    exact h4
  · rw [S0.2.2.2, (b0 17 (by decide)).1, c 15 (by decide) (by decide) (by decide)]
    exact h5.keep hk rfl
  · rw [S0.2.1, S0.2.2.1, (b0 19 (by decide)).1, (b0 20 (by decide)).2]
    exact h6
  · rw [S0.2.1, (b0 5 (by decide)).1]
    exact h7
  · rw [(hS 36 (by decide) (by decide)).2.1, (b0 21 (by decide)).1, c 16 (by decide) (by decide) (by decide)]
    exact h8
  · exact h10.keep hk (hS 38 (by decide) (by decide)).2.2.2 (hS 39 (by decide) (by decide)).2.2.2 (hS 37 (by decide) (by decide)).2.1 (hS 40 (by decide) (by decide)).2.1 (fun o h1 h2 => bo o (by omega) h2 (by omega)) (fun j h1 h2 => (b0 j (by omega)).1) hne
theorem cel_at {K : Nat → Int32} {V : Nat → Int64} {C : List (Int32 × Int64)} (h : celH K V 0 C) {i : Nat} (hi : i < C.length) : C[i]? = some (K i, V i) := by
  have := h i hi
  rwa [Nat.zero_add] at this
/-- the rows behind a load -/
theorem load_rows {x b v n1 : Nat} {w w2 w4 : Wd} {s s' : St} {ra : Nat → Nat} {D : List (Option (List (Int32 × Int64)))} (h : RowsX (x + 81) w (wP w (x + 1)) ra (s.1 1) (s.1 2) (s.1 3) (s.1 4) (s.2 5)) (hlt : ∀ t r, t < 8 → r < 8 → s.1 1 t = nI r → ra r < b) (hb : x + 81 ≤ b) (hk : Keep x w w4) (hV : VerW n1 (fun j k => s.1 (7 + j) (8 * v + k))) (hN : NewsX x b w2 v s D) (hD : D.length = n1) (hOK : LOK D) (hkd : ∀ (j : Nat) (C : List (Int32 × Int64)), D[j]? = some (some C) → ¬ s.1 8 (8 * v + j) = 8 → ∀ y ∈ C, y.1 = s.1 8 (8 * v + j)) (h24 : ∀ a, b ≤ a → Same a w2 w4) (hT : Tkn s s' v n1 D)
    (hP : ∀ t, t < 8 → (∃ k, k < n1 ∧ s.1 7 (8 * v + k) = nI t ∧ wP w4 (x + 1) t = wP w2 (x + 35) k) ∨ ((∀ k, k < n1 → ¬ s.1 7 (8 * v + k) = nI t) ∧ wP w4 (x + 1) t = wP w (x + 1) t)) :
    ∃ ra', RowsX (x + 81) w4 (wP w4 (x + 1)) ra' (s'.1 1) (s'.1 2) (s'.1 3) (s'.1 4) (s'.2 5) ∧ ∀ t r, t < 8 → r < 8 → s'.1 1 t = nI r → b ≤ ra' r ∨ (ra' r = ra r ∧ s.1 1 t = nI r) := by
  classical
  have ra' : ∃ ra' : Nat → Nat, ∀ r, (∃ t, t < 8 ∧ s'.1 1 t = nI r) → ∃ t, t < 8 ∧ s'.1 1 t = nI r ∧ ra' r = (wP w4 (x + 1) t).getD 0 := ⟨fun r => if q : ∃ t, t < 8 ∧ s'.1 1 t = nI r then (wP w4 (x + 1) q.choose).getD 0 else 0, fun r q => ⟨q.choose, q.choose_spec.1, q.choose_spec.2, dif_pos q⟩⟩
  obtain ⟨ra', hra⟩ := ra'
  -- a field's slot
  have fld : ∀ t k, t < 8 → k < n1 → s.1 7 (8 * v + k) = nI t → (wP w2 (x + 35) k = none ∧ s'.1 1 t = -1) ∨ ∃ r A C, r < 8 ∧ wP w2 (x + 35) k = some A ∧ s'.1 1 t = nI r ∧ (∀ t', t' < 8 → t' ≠ t → ¬ s'.1 1 t' = nI r) ∧ b ≤ A ∧ D[k]? = some (some C) ∧ s'.1 2 r = s.1 8 (8 * v + k) ∧ s'.1 3 r = nI C.length ∧ C.length ≤ 16 ∧ (∀ i, i < C.length → C[i]? = some (s'.1 4 (16 * r + i), s'.2 5 (16 * r + i))) ∧ RowS w2 A (knF s v k) C.length ∧ celH (wI w2 (A + 1)) (wL w2 (A + 2)) 0 C := fun t k ht hk' e => by
    obtain ⟨g1, g2⟩ := hT.2 k t hk' ht e
    have hg := List.getElem?_eq_getElem (show k < D.length by omega)
    have hn := hN.1 k _ hg
    cases hC : D[k] with
    | none =>
      rw [hC] at hn hg
      exact Or.inl ⟨hn, g1 hg⟩
    | some C =>
      rw [hC] at hn hg
      obtain ⟨r, y1, y2, y3, y4, y5, y6, y7⟩ := g2 C hg
      obtain ⟨A, c1, c2, c3, c4, c5, c6⟩ := hn
      exact Or.inr ⟨r, A, C, y1, c1, y2, y3, c2, hg, y4, y5, y6, y7, c5, c6⟩
  -- another slot
  have old : ∀ t, t < 8 → (∀ k, k < n1 → ¬ s.1 7 (8 * v + k) = nI t) → s'.1 1 t = s.1 1 t ∧ ∀ r, r < 8 → s.1 1 t = nI r → wP w (x + 1) t = some (ra r) ∧ s'.1 2 r = s.1 2 r ∧ s'.1 3 r = s.1 3 r ∧ ∀ i, i < 16 → s'.1 4 (16 * r + i) = s.1 4 (16 * r + i) ∧ s'.2 5 (16 * r + i) = s.2 5 (16 * r + i) := fun t ht hno => by
    obtain ⟨g1, g2⟩ := hT.1 t ht hno
    refine ⟨g1, fun r hr e => ⟨?_, g2 r hr e⟩⟩
    rcases h.1 t ht with ⟨z, -⟩ | ⟨z, -⟩ | ⟨q, q1, q2, q3, -⟩
    · exact absurd (e.symm.trans z) (ni_nem (by omega))
    · have := e.symm.trans z
      rw [show (9 : Int32) = nI 9 from rfl, ni_eq (by omega) (by omega)] at this
      omega
    · have := e.symm.trans q2
      rw [ni_eq (by omega) (by omega)] at this
      subst this
      exact q3
  have key : ∀ t r, t < 8 → r < 8 → s'.1 1 t = nI r → ra' r = (wP w4 (x + 1) t).getD 0 := fun t r ht hr e => by
    obtain ⟨t', ht', e', hh⟩ := hra r ⟨t, ht, e⟩
    by_cases et : t' = t
    · rw [hh, et]
    · rw [hh]
      rcases hP t ht with ⟨k, k1, k2, k3⟩ | ⟨k1, k2⟩
      · rcases fld t k ht k1 k2 with ⟨-, z⟩ | ⟨r2, A, C, z1, z2, z3, z4, -⟩
        · exact absurd (e.symm.trans z) (ni_nem (by omega))
        · have := e.symm.trans z3
          rw [ni_eq (by omega) (by omega)] at this
          subst this
          exact absurd e' (z4 t' ht' et)
      · rcases hP t' ht' with ⟨k', l1, l2, l3⟩ | ⟨l1, l2⟩
        · rcases fld t' k' ht' l1 l2 with ⟨-, z⟩ | ⟨r2, A, C, z1, z2, z3, z4, -⟩
          · exact absurd (e'.symm.trans z) (ni_nem (by omega))
          · have := e'.symm.trans z3
            rw [ni_eq (by omega) (by omega)] at this
            subst this
            exact absurd e (z4 t ht fun q => et q.symm)
        · obtain ⟨o1, o2⟩ := old t ht k1
          obtain ⟨p1, p2⟩ := old t' ht' l1
          rw [k2, l2, (o2 r hr (o1.symm.trans e)).1, (p2 r hr (p1.symm.trans e')).1]
  have cls : ∀ t r, t < 8 → r < 8 → s'.1 1 t = nI r → (∃ k A, k < n1 ∧ s.1 7 (8 * v + k) = nI t ∧ wP w2 (x + 35) k = some A ∧ b ≤ A ∧ ra' r = A) ∨ (s.1 1 t = nI r ∧ ra' r = ra r) := fun t r ht hr e => by
    have hkey := key t r ht hr e
    rcases hP t ht with ⟨k, k1, k2, k3⟩ | ⟨k1, k2⟩
    · rcases fld t k ht k1 k2 with ⟨-, z⟩ | ⟨r2, A, C, z1, z2, z3, z4, z5, -⟩
      · exact absurd (e.symm.trans z) (ni_nem (by omega))
      · refine Or.inl ⟨k, A, k1, k2, z2, z5, ?_⟩
        rw [hkey, k3, z2]
        rfl
    · obtain ⟨o1, o2⟩ := old t ht k1
      have e2 := o1.symm.trans e
      refine Or.inr ⟨e2, ?_⟩
      rw [hkey, k2, (o2 r hr e2).1]
      rfl
  refine ⟨ra', ⟨fun t ht => ?_, fun t u r q ht hu hr hq a1 a2 a3 => ?_⟩, fun t r ht hr e => (cls t r ht hr e).imp (fun ⟨k, A, _, _, _, h5, h6⟩ => by rw [h6]; exact h5) fun ⟨h1, h2⟩ => ⟨h2, h1⟩⟩
  · rcases hP t ht with ⟨k, k1, k2, k3⟩ | ⟨k1, k2⟩
    · rcases fld t k ht k1 k2 with ⟨y1, y2⟩ | ⟨r, A, C, z1, z2, z3, z4, z5, zD, z6, z7, z8, z9, z10, z11⟩
      · exact Or.inl ⟨y2, by rw [k3]; exact y1⟩
      · have er : ra' r = A := by
          rw [key t r ht z1 z3, k3, z2]
          rfl
        have hF : FldW (fun j => s.1 (7 + j) (8 * v + k)) := hV.2.1 k k1
        obtain ⟨sl, kd, cc, nd, td, _, hkd8, _, _, _, _, f1, -⟩ := hF
        have f1' : s.1 8 (8 * v + k) = nI kd := f1
        have ek : knF s v k = kd := by unfold knF; rw [f1', ni_cl (by omega)]
        rw [ek] at z10
        obtain ⟨q1, q2, q3, q4, q5, q6⟩ := z10
        have s0 := h24 A z5
        have s1 := h24 (A + 1) (by omega)
        have s2 := h24 (A + 2) (by omega)
        have cel : ∀ i, i < C.length → wI w2 (A + 1) i = s'.1 4 (16 * r + i) ∧ wL w2 (A + 2) i = s'.2 5 (16 * r + i) := fun i hi => by
          have c1 := z9 i hi
          have c2 := cel_at z11 hi
          rw [c1] at c2
          have := Option.some.inj c2
          exact ⟨(Prod.mk.inj this).1.symm, (Prod.mk.inj this).2.symm⟩
        refine Or.inr (Or.inr ⟨r, z1, z3, by rw [k3, z2, er], by omega, kd, C.length, z6.trans f1', z7, ⟨hkd8, z8, fun i hi => ?_⟩, ?_⟩)
        · have hm := List.mem_of_getElem? (z9 i hi)
          obtain ⟨⟨o, o8, eo⟩, hc⟩ := hOK k C zD _ hm
          have eo' : s'.1 4 (16 * r + i) = nI o := eo
          refine ⟨⟨o, o8, eo', fun hn8 => ?_⟩, hc⟩
          have := hkd k C zD (by rw [f1', ni_eq8 (by omega)]; exact hn8) _ hm
          have e2 : s'.1 4 (16 * r + i) = s.1 8 (8 * v + k) := this
          rw [eo', f1', ni_eq (by omega) (by omega)] at e2
          exact e2
        · rw [er]
          exact ⟨s0.1.trans q1, by rw [s0.2.1]; exact q2, by rw [s0.2.2.2]; exact q3, by rw [s0.2.2.2]; exact q4, s1.1.trans q5, s2.1.trans q6, fun i hi => ⟨by rw [s1.2.1]; exact (cel i hi).1, by rw [s2.2.2.1]; exact (cel i hi).2⟩⟩
    · obtain ⟨o1, o2⟩ := old t ht k1
      rw [k2]
      rcases h.1 t ht with ⟨z1, z2⟩ | ⟨z1, A, z2, z3, z4⟩ | ⟨r, z1, z2, z3, z4, a, m, z5, z6, z7, z8⟩
      · exact Or.inl ⟨o1.trans z1, z2⟩
      · exact Or.inr (Or.inl ⟨o1.trans z1, A, z2, z3, z4.keep hk z2⟩)
      · obtain ⟨-, p1, p2, p3⟩ := o2 r z1 z2
        have e' : s'.1 1 t = nI r := o1.trans z2
        have er : ra' r = ra r := by
          rw [key t r ht z1 e', k2, z3]
          rfl
        exact Or.inr (Or.inr ⟨r, z1, e', by rw [er]; exact z3, by rw [er]; exact z4, a, m, p1.trans z5, p2.trans z6, z7.cg p3, by rw [er]; exact (z8.keep hk z4).cg z7.2.1 p3⟩)
  · rcases cls t r ht hr a1 with ⟨k, A, k1, k2, k3, k4, k5⟩ | ⟨k1, k2⟩ <;> rcases cls u q hu hq a2 with ⟨l, B, l1, l2, l3, l4, l5⟩ | ⟨l1, l2⟩
    · have eAB : A = B := by rw [← k5, ← l5, a3]
      subst eAB
      have kl : k = l := by
        rcases Nat.lt_trichotomy k l with z | z | z
        · have := hN.2 k l _ _ z (by omega) k3 l3
          omega
        · exact z
        · have := hN.2 l k _ _ z (by omega) l3 k3
          omega
      subst kl
      have := k2.symm.trans l2
      rw [ni_eq (by omega) (by omega)] at this
      subst this
      have := a1.symm.trans a2
      rwa [ni_eq (by omega) (by omega)] at this
    · have := hlt u q hu hq l1
      omega
    · have := hlt t r ht hr k1
      omega
    · exact h.2 t u r q ht hu hr hq k1 l1 (by rw [← k2, ← l2, a3])
