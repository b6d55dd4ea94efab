/-! the class: takes -/
def knF (s : St) (v j : Nat) : Nat := (s.1 8 (8 * v + j)).toNatClampNeg
def NewsX (x b : Nat) (w : Wd) (v : Nat) (s : St) (P : List (Option (List (Int32 × Int64)))) : Prop := (∀ (j : Nat) (y : Option (List (Int32 × Int64))), P[j]? = some y → NewX x b w j (knF s v j) y) ∧ ∀ i j A A', i < j → j < P.length → wP w (x + 35) i = some A → wP w (x + 35) j = some A' → A + 3 ≤ A'
theorem NewX.mono {x b b' k to : Nat} {w : Wd} {y : Option (List (Int32 × Int64))} (h : NewX x b w k to y) (hb : b' ≤ b) : NewX x b' w k to y := by
  cases y with
  | none => exact h
  | some D =>
    obtain ⟨A, h1, h2, h3⟩ := h
    exact ⟨A, h1, Nat.le_trans hb h2, h3⟩
theorem NewsX.push {g : Ge} {x b v : Nat} {w w' : Wd} {s : St} {P : List (Option (List (Int32 × Int64)))} {y : Option (List (Int32 × Int64))} (h : NewsX x b w v s P) (hT : TkR g x w w') (hb : x + 81 ≤ b) (hbw : b ≤ wn w) (hp : ∀ k', k' ≠ P.length → wP w' (x + 35) k' = wP w (x + 35) k') (hy : NewX x (wn w) w' P.length (knF s v P.length) y) : NewsX x b w' v s (P ++ [y]) := by
  refine ⟨fun j z hz => ?_, fun i j A A' hij hj h1 h2 => ?_⟩
  · by_cases q : j < P.length
    · rw [List.getElem?_append_left q] at hz
      exact (h.1 j z hz).tk hT hb (hp j (by omega))
    · have hlt := (List.getElem?_eq_some_iff.mp hz).1
      rw [List.length_append, List.length_singleton] at hlt
      obtain rfl : j = P.length := by omega
      rw [List.getElem?_append_right (Nat.le_refl _), Nat.sub_self] at hz
      obtain rfl := Option.some.inj hz
      exact hy.mono hbw
  · rw [List.length_append, List.length_singleton] at hj
    rw [hp i (by omega)] at h1
    by_cases q : j < P.length
    · rw [hp j (by omega)] at h2
      exact h.2 i j A A' hij q h1 h2
    · obtain rfl : j = P.length := by omega
      have hi := List.getElem?_eq_getElem (l := P) (i := i) (by omega)
      have hn := h.1 i _ hi
      cases hP : P[i] with
      | none =>
        rw [hP] at hn
        have := hn.symm.trans h1
        cases this
      | some D =>
        rw [hP] at hn
        obtain ⟨A1, a1, a2, a3, -⟩ := hn
        rw [a1] at h1
        obtain rfl := Option.some.inj h1
        cases y with
        | none =>
          have : wP w' (x + 35) P.length = none := hy
          rw [this] at h2
          cases h2
        | some D' =>
          obtain ⟨A2, c1, c2, -⟩ := hy
          rw [c1] at h2
          obtain rfl := Option.some.inj h2
          omega
theorem NewsX.tk {g : Ge} {x b v : Nat} {w w' : Wd} {s : St} {P : List (Option (List (Int32 × Int64)))} (h : NewsX x b w v s P) (hT : TkR g x w w') (hb : x + 81 ≤ b) (hp : ∀ k', wP w' (x + 35) k' = wP w (x + 35) k') : NewsX x b w' v s P := ⟨fun j z hz => (h.1 j z hz).tk hT hb (hp j), fun i j A A' hij hj h1 h2 => h.2 i j A A' hij hj ((hp i).symm.trans h1) ((hp j).symm.trans h2)⟩
theorem tkD_def (s : St) (v k : Nat) : tkD (FV s v) k = if s.1 10 (8 * v + k) = 1 then .inl (0, -15) else .inr (defY s (8 * v + k)) := by
  unfold tkD defY FV
  by_cases q : s.1 10 (8 * v + k) = 1
  · have q' : s.1 (7 + 3) (8 * v + k) = 1 := q
    rw [if_pos q, if_pos q']
  · have q' : ¬ s.1 (7 + 3) (8 * v + k) = 1 := q
    rw [if_neg q, if_neg q']
    by_cases z : s.1 11 (8 * v + k) = 0
    · have z' : s.1 (7 + 4) (8 * v + k) = 0 := z
      rw [if_pos z, if_pos z']
    · have z' : ¬ s.1 (7 + 4) (8 * v + k) = 0 := z
      rw [if_neg z, if_neg z']
theorem tkC_nz {to lx : Int32} {c : Nat} {y : Int32} : ∀ {C : List (Int32 × Int64)} {i : Nat}, tkC to lx C i = .inl (c, y) → ¬ y = 0
  | [], i, h => by
    unfold tkC at h
    cases h
  | (kd, v) :: C, i, h => by
    rw [tkC] at h
    split at h
    · split at h
      next hx =>
        cases h
        exact tkC_nz hx
      · cases h
    next q =>
      cases h
      exact q
theorem flC_nz {cc to lx : Int32} {C : List (Int32 × Int64)} {c : Nat} {y : Int32} (h : flC cc to lx C = .inl (c, y)) : ¬ y = 0 := by
  unfold flC at h
  split at h
  · cases h
    decide
  · split at h
    next hx =>
      cases h
      exact tkC_nz hx
    · cases h
set_option maxRecDepth 100000 in
set_option maxHeartbeats 4000000 in
theorem X9_takes_loop {g : Ge} {x vw v nw n1 Aw cw Ar cr p : Nat} {lx : Int32} {s : St} {L : List (Option (List (Int32 × Int64)))} {K : Option Value → Wd → Prop} {b : Nat} (hb : x + 81 ≤ b) (hLl : L.length = nw) (hp : PresL p L) (hOK : LOK L) : ∀ (r kf : Nat) (w : Wd) (P : List (Option (List (Int32 × Int64)))) (o6 o7 : Option Value) (k0 n0 : Nat), kf + r = n1 → P.length = kf → XS g x w → Cn g w → WF w → b ≤ wn w → VerO (x + 81) w Aw cw nw vw s → VerO (x + 81) w Ar cr n1 v s → PrX x w p 8 → GotX x w L → NewsX x b w v s P → 3 * r ≤ k0 → 64 * r ≤ n0 → ((o6 = none ∧ o7 = none) ∨ ∃ a y, o6 = some (.ref a) ∧ o7 = some (.int y)) →
    (∀ f c y w', tk (FV s vw) nw L lx (FV s v) r kf = .inl (f, c, y) → TkR g x w w' → wI w' (x + 34) 1 = nI f → wI w' (x + 34) 2 = nI c → wI w' (x + 34) 3 = y → K (some (.int 0)) w') →
    (∀ D w', tk (FV s vw) nw L lx (FV s v) r kf = .inr D → TkR g x w w' → NewsX x b w' v s (P ++ D) → D.length = r → K (some (.int 1)) w') →
    R g mX9_takes K 3 [some (.ref (x + 34)), some (.ref (x + 12)), some (.ref Aw), some (.ref Ar), some (.int lx), some (.int (nI kf)), o6, o7] [] w k0 n0 := by
  intro r
  induction r with
  | zero =>
    intro kf w P o6 o7 k0 n0 hk hP hx hC hW hbw hVw hV hPr hG hN hk0 hn0 ho h1 h0
    obtain rfl : kf = n1 := by omega
    have hn8 := hV.n8
    obtain ⟨v1, v2, v3, v4, v5, v6, v7, v8, v9, v10⟩ := id hV
    simp (disch := omega) only [vX9_takes_3, vX9_takes_5, vX9_takes_6, vX9_takes_9, vX9_takes_105, vX9_takes_106, pI_c, pL_c, pF_c, pD_c, pA_n, pA_c, pA_rf, pR_c, pR_rf, pV_i, pV_a, pV_n, pV_rf, ldI_c, ldL_c, ldF_c, ldD_c, ldA_c, ldA_n, ldA_rf, dup2_l, dup2_ia, dup2_ir, popA_0, popA_s, getL_z, getL_s, setL_z, setL_1, setL_s, setL2_z, setL2_1, setL2_s, drop2_i, drop2_a, drop2_0, drop2_n, drop2_l, drop2_d, drop2_r, cwd_0, cwd_i, cwd_a, cwd_n, cwd_l, cwd_d, cwd_f, cwd_r, rf_s, rf_n, swi_0, swi_s, zR_b0, zR_b1, zN_b0, zN_b1, entV_i, entV_a, entV_n, entV_r, entV_f, entV_l, entV_d, entV_s, entV_0, List.length_cons, List.length_nil, List.nil_append, List.cons_append, true_and, and_true, Nat.reduceAdd, Nat.reduceLT, Nat.reduceEqDiff, Nat.reduceLeDiff, Nat.reduceSub, Nat.zero_add, Classical.not_not, ex_i, ex_l, ex_d, ex_r, ex_rs, ex_rn, ex_sm, Nat.sub_zero, eq_self, wn_sI, wn_sL, wn_sP, wsh_sI, wsh_sL, wsh_sP, wI_sL, wI_sP, wL_sI, wL_sP, wP_sI, wP_sL, wI_sI, wL_sL, Int32.reduceLT, Int32.reduceLE, true_implies, not_true_eq_false, false_implies, not_false_eq_true, i_10, ni_le, ni_lt, ni_eq, ni_le1, ni_le0, ni_eq0, ni_eq1, ni_eq2, ni_eq8, ni_eq9, v5, v6, Nat.le_refl]
    exact h0 [] w rfl (TkR.rf hx hW) (by rw [List.append_nil]; exact hN) rfl
  | succ r ih =>
    intro kf w P o6 o7 k0 n0 hk hP hx hC hW hbw hVw hV hPr hG hN hk0 hn0 ho h1 h0
    have hn8 := hV.n8
    have hw8 := hVw.n8
    have hlt : ¬ n1 ≤ kf := by omega
    have i1 : ¬ (1 : Int32) = 0 := by decide
    have hw : x + 81 ≤ wn w := by omega
    obtain ⟨v1, v2, v3, v4, v5, v6, v7, v8, v9, v10⟩ := id hV
    obtain ⟨d, d1, d2, d3⟩ := v10 kf (by omega)
    have hF : FldW (fun j => s.1 (7 + j) (8 * v + kf)) := v3.2.1 kf (by omega)
    obtain ⟨t, to, cc, nd, a1, a2, a3, a4, b1, b2, b3, b4, hFN⟩ := d3.N hF
    rw [tk] at h1 h0
    have F0 : FV s v 0 kf = nI t := b1
    have F1 : FV s v 1 kf = nI to := b2
    have F2 : FV s v 2 kf = nI cc := b3
    have eFw : FV s vw 0 = fun j => s.1 7 (8 * vw + j) := rfl
    have ekd : knF s v kf = to := by unfold knF; rw [b2, ni_cl (by omega)]
    have sx : ∀ (w1 : Wd) (y : Int32), TkR g x w w1 → TkR g x w (sI w1 (x + 34) 3 y) := fun w1 y hT => by
      have f : Fr (fun a j => a = x + 34 ∧ j = 3) w1 (sI w1 (x + 34) 3 y) := Fr.rf.i _ ⟨rfl, rfl⟩
      exact hT.tr ⟨Nat.le_of_eq f.n.symm, f.wfk hT.2.1, hT.2.2.1.fr f, fun b _ h2 _ => f.same fun j => by omega⟩
    -- behind a field's taking
    have nxt : ∀ (w2 : Wd) (y : Option (List (Int32 × Int64))) (fr : Int32), TkR g x w w2 → (∀ k', k' ≠ kf → wP w2 (x + 35) k' = wP w (x + 35) k') → NewX x (wn w) w2 kf to y → tkF (FV s vw) nw L lx (FV s v) kf = .inr y → R g mX9_takes K 90 [some (.ref (x + 34)), some (.ref (x + 12)), some (.ref Aw), some (.ref Ar), some (.int lx), some (.int (nI kf)), some (.ref d), some (.int fr)] [] (sI w2 (x + 34) 3 0) (k0 - 3) (n0 - 64) := by
      intro w2 y fr hT hpp hy hF
      simp only [hF] at h1 h0
      have hT3 := sx w2 0 hT
      have hx3 := hT3.2.2.1
      have z3 : wI (sI w2 (x + 34) 3 0) (x + 34) 3 = 0 := wI_at.trans (if_pos rfl)
      have hy3 : NewX x (wn w) (sI w2 (x + 34) 3 0) kf to y := by
        cases y with
        | none => exact hy
        | some D =>
          obtain ⟨A, y1, y2, y3, y4, ⟨r1, r2, r3, r4, r5, r6⟩, y6⟩ := hy
          refine ⟨A, y1, y2, y3, y4, ⟨r1, (wI_ne (by omega)).trans r2, r3, r4, r5, r6⟩, fun i hi => ?_⟩
          rw [wI_ne (by omega)]
          exact y6 i hi
      have pp3 : ∀ k', k' ≠ kf → wP (sI w2 (x + 34) 3 0) (x + 35) k' = wP w (x + 35) k' := hpp
      generalize sI w2 (x + 34) 3 0 = w3 at hT3 hx3 z3 hy3 pp3 ⊢
      simp (disch := omega) only [vX9_takes_90, vX9_takes_91, vX9_takes_94, vX9_takes_99, vX9_takes_102, xs_b hx3, xs_0 hx3, xs_obj hx3, xs_taker hx3, xp_x_7 hx3, pI_c, pL_c, pF_c, pD_c, pA_n, pA_c, pA_rf, pR_c, pR_rf, pV_i, pV_a, pV_n, pV_rf, ldI_c, ldL_c, ldF_c, ldD_c, ldA_c, ldA_n, ldA_rf, dup2_l, dup2_ia, dup2_ir, popA_0, popA_s, getL_z, getL_s, setL_z, setL_1, setL_s, setL2_z, setL2_1, setL2_s, drop2_i, drop2_a, drop2_0, drop2_n, drop2_l, drop2_d, drop2_r, cwd_0, cwd_i, cwd_a, cwd_n, cwd_l, cwd_d, cwd_f, cwd_r, rf_s, rf_n, swi_0, swi_s, zR_b0, zR_b1, zN_b0, zN_b1, entV_i, entV_a, entV_n, entV_r, entV_f, entV_l, entV_d, entV_s, entV_0, List.length_cons, List.length_nil, List.nil_append, List.cons_append, true_and, and_true, Nat.reduceAdd, Nat.reduceLT, Nat.reduceEqDiff, Nat.reduceLeDiff, Nat.reduceSub, Nat.zero_add, Classical.not_not, ex_i, ex_l, ex_d, ex_r, ex_rs, ex_rn, ex_sm, Nat.sub_zero, eq_self, wn_sI, wn_sL, wn_sP, wsh_sI, wsh_sL, wsh_sP, wI_sL, wI_sP, wL_sI, wL_sP, wP_sI, wP_sL, wI_sI, wL_sL, Int32.reduceLT, Int32.reduceLE, true_implies, not_true_eq_false, false_implies, not_false_eq_true, i_10, na_1, nb_1, nm_1, ns_1, nr_1, na_2, nb_2, nm_2, ns_2, nr_2, na_3, nb_3, nm_3, ns_3, nr_3, na_4, nb_4, nm_4, ns_4, nr_4, na_5, nb_5, nm_5, ns_5, nr_5, na_6, nb_6, nm_6, ns_6, nr_6, na_7, nb_7, nm_7, ns_7, nr_7, na_8, nb_8, nm_8, ns_8, nr_8, na_10, nb_10, nm_10, ns_10, nr_10, na_16, nb_16, nm_16, ns_16, nr_16, nl_m1, ni_add, ni_mul, ni_sub, ni_cl, ni_in, vp_0, vp_1, vp_2, vp_3, vp_4, vp_5, Int32.reduceToNatClampNeg, z3]
      have hN3 : NewsX x b w3 v s (P ++ [y]) := hN.push hT3 hb hbw (by rw [hP]; exact pp3) (by rw [hP, ekd]; exact hy3)
      refine ih (kf + 1) w3 (P ++ [y]) _ _ _ _ (by omega) (by rw [List.length_append, List.length_singleton, hP]) hx3 (hT3.cn hx hW hC) hT3.2.1 (Nat.le_trans hbw hT3.1) (hT3.ver hW hVw) (hT3.ver hW hV) (hT3.prs hw hPr) (hT3.got hw (by omega) hG) hN3 (by omega) (by omega) (Or.inr ⟨_, _, rfl, rfl⟩) (fun f c z w' q1 q2 q3 q4 q5 => h1 f c z w' (by rw [q1]) (hT3.tr q2) q3 q4 q5) (fun D w' q1 q2 q3 q4 => h0 (y :: D) w' (by rw [q1]) (hT3.tr q2) (by rwa [List.append_cons]) (by rw [List.length_cons, q4]))
    have bad : ∀ (w2 : Wd) (c : Nat) (y fr : Int32), TkR g x w w2 → wI w2 (x + 34) 1 = nI kf → wI w2 (x + 34) 2 = nI c → tkF (FV s vw) nw L lx (FV s v) kf = .inl (c, y) → ¬ y = 0 → R g mX9_takes K 90 [some (.ref (x + 34)), some (.ref (x + 12)), some (.ref Aw), some (.ref Ar), some (.int lx), some (.int (nI kf)), some (.ref d), some (.int fr)] [] (sI w2 (x + 34) 3 y) (k0 - 3) (n0 - 64) := by
      intro w2 c y fr hT q1 q2 hF hy
      simp only [hF] at h1
      have hT3 := sx w2 y hT
      have hx3 := hT3.2.2.1
      have z3 : wI (sI w2 (x + 34) 3 y) (x + 34) 3 = y := wI_at.trans (if_pos rfl)
      have z1 : wI (sI w2 (x + 34) 3 y) (x + 34) 1 = nI kf := (wI_at.trans (if_neg (by decide))).trans q1
      have z2 : wI (sI w2 (x + 34) 3 y) (x + 34) 2 = nI c := (wI_at.trans (if_neg (by decide))).trans q2
      generalize sI w2 (x + 34) 3 y = w3 at hT3 hx3 z3 z1 z2 ⊢
      simp (disch := omega) only [vX9_takes_90, vX9_takes_91, vX9_takes_94, vX9_takes_97, vX9_takes_98, xs_b hx3, xs_0 hx3, xs_obj hx3, xs_taker hx3, xp_x_7 hx3, pI_c, pL_c, pF_c, pD_c, pA_n, pA_c, pA_rf, pR_c, pR_rf, pV_i, pV_a, pV_n, pV_rf, ldI_c, ldL_c, ldF_c, ldD_c, ldA_c, ldA_n, ldA_rf, dup2_l, dup2_ia, dup2_ir, popA_0, popA_s, getL_z, getL_s, setL_z, setL_1, setL_s, setL2_z, setL2_1, setL2_s, drop2_i, drop2_a, drop2_0, drop2_n, drop2_l, drop2_d, drop2_r, cwd_0, cwd_i, cwd_a, cwd_n, cwd_l, cwd_d, cwd_f, cwd_r, rf_s, rf_n, swi_0, swi_s, zR_b0, zR_b1, zN_b0, zN_b1, entV_i, entV_a, entV_n, entV_r, entV_f, entV_l, entV_d, entV_s, entV_0, List.length_cons, List.length_nil, List.nil_append, List.cons_append, true_and, and_true, Nat.reduceAdd, Nat.reduceLT, Nat.reduceEqDiff, Nat.reduceLeDiff, Nat.reduceSub, Nat.zero_add, Classical.not_not, ex_i, ex_l, ex_d, ex_r, ex_rs, ex_rn, ex_sm, Nat.sub_zero, eq_self, wn_sI, wn_sL, wn_sP, wsh_sI, wsh_sL, wsh_sP, wI_sL, wI_sP, wL_sI, wL_sP, wP_sI, wP_sL, wI_sI, wL_sL, Int32.reduceLT, Int32.reduceLE, true_implies, not_true_eq_false, false_implies, not_false_eq_true, i_10, na_1, nb_1, nm_1, ns_1, nr_1, na_2, nb_2, nm_2, ns_2, nr_2, na_3, nb_3, nm_3, ns_3, nr_3, na_4, nb_4, nm_4, ns_4, nr_4, na_5, nb_5, nm_5, ns_5, nr_5, na_6, nb_6, nm_6, ns_6, nr_6, na_7, nb_7, nm_7, ns_7, nr_7, na_8, nb_8, nm_8, ns_8, nr_8, na_10, nb_10, nm_10, ns_10, nr_10, na_16, nb_16, nm_16, ns_16, nr_16, nl_m1, ni_add, ni_mul, ni_sub, ni_cl, ni_in, vp_0, vp_1, vp_2, vp_3, vp_4, vp_5, Int32.reduceToNatClampNeg, z3, hy]
      exact h1 kf c y w3 rfl hT3 z1 z2 z3
    have st : ∀ w1, TkR g x w w1 → wn w1 = wn w → wI w1 (x + 34) 1 = nI kf → wI w1 (x + 34) 2 = nI 0 → wP w1 = wP w → wsh w1 = wsh w → (∀ a, a ≠ x + 34 → wI w1 a = wI w a) → R g mX9_takes K 43 [some (.ref (x + 34)), some (.ref (x + 12)), some (.ref Aw), some (.ref Ar), some (.int lx), some (.int (nI kf)), some (.ref d), some (.int (ixI2 (fldIx (FV s vw 0) (nI t) nw 0)))] [] w1 k0 n0 := by
      intro w1 hT e1 e2 e3 e4 e5 e6
      have hW1 := hT.2.1
      have hx1 := hT.2.2.1
      have hC1 := hT.cn hx hW hC
      have hw1 : x + 81 ≤ wn w1 := by omega
      have hN1 : FldN w1 d t to cc nd := ⟨by rw [e5]; exact hFN.1, by rw [e6 d (by omega)]; exact hFN.2.1, by rw [e6 d (by omega)]; exact hFN.2.2.1, by rw [e6 d (by omega)]; exact hFN.2.2.2.1, by rw [e6 d (by omega)]; exact hFN.2.2.2.2⟩
      have hO1 : FldO w1 d s (8 * v + kf) := ⟨by rw [e5]; exact d3.1, fun j hj => by rw [e6 d (by omega)]; exact d3.2 j hj⟩
      have hPr1 := hT.prs hw hPr
      have hG1 := hT.got hw (by omega) hG
      have deflt : ∀ fr, tkF (FV s vw) nw L lx (FV s v) kf = tkD (FV s v) kf → R g mX9_takes K 78 [some (.ref (x + 34)), some (.ref (x + 12)), some (.ref Aw), some (.ref Ar), some (.int lx), some (.int (nI kf)), some (.ref d), some (.int fr)] [] w1 k0 n0 := by
        intro fr hF'
        rw [tkD_def] at hF'
        simp (disch := omega) only [vX9_takes_78, vX9_takes_79, vX9_takes_80, vX9_takes_82, vX9_takes_84, xs_b hx1, xs_0 hx1, xs_obj hx1, xs_taker hx1, xp_x_7 hx1, pI_c, pL_c, pF_c, pD_c, pA_n, pA_c, pA_rf, pR_c, pR_rf, pV_i, pV_a, pV_n, pV_rf, ldI_c, ldL_c, ldF_c, ldD_c, ldA_c, ldA_n, ldA_rf, dup2_l, dup2_ia, dup2_ir, popA_0, popA_s, getL_z, getL_s, setL_z, setL_1, setL_s, setL2_z, setL2_1, setL2_s, drop2_i, drop2_a, drop2_0, drop2_n, drop2_l, drop2_d, drop2_r, cwd_0, cwd_i, cwd_a, cwd_n, cwd_l, cwd_d, cwd_f, cwd_r, rf_s, rf_n, swi_0, swi_s, zR_b0, zR_b1, zN_b0, zN_b1, entV_i, entV_a, entV_n, entV_r, entV_f, entV_l, entV_d, entV_s, entV_0, List.length_cons, List.length_nil, List.nil_append, List.cons_append, true_and, and_true, Nat.reduceAdd, Nat.reduceLT, Nat.reduceEqDiff, Nat.reduceLeDiff, Nat.reduceSub, Nat.zero_add, Classical.not_not, ex_i, ex_l, ex_d, ex_r, ex_rs, ex_rn, ex_sm, Nat.sub_zero, eq_self, wn_sI, wn_sL, wn_sP, wsh_sI, wsh_sL, wsh_sP, wI_sL, wI_sP, wL_sI, wL_sP, wP_sI, wP_sL, wI_sI, wL_sL, Int32.reduceLT, Int32.reduceLE, true_implies, not_true_eq_false, false_implies, not_false_eq_true, i_10, na_1, nb_1, nm_1, ns_1, nr_1, na_2, nb_2, nm_2, ns_2, nr_2, na_3, nb_3, nm_3, ns_3, nr_3, na_4, nb_4, nm_4, ns_4, nr_4, na_5, nb_5, nm_5, ns_5, nr_5, na_6, nb_6, nm_6, ns_6, nr_6, na_7, nb_7, nm_7, ns_7, nr_7, na_8, nb_8, nm_8, ns_8, nr_8, na_10, nb_10, nm_10, ns_10, nr_10, na_16, nb_16, nm_16, ns_16, nr_16, nl_m1, ni_add, ni_mul, ni_sub, ni_cl, ni_in, vp_0, vp_1, vp_2, vp_3, vp_4, vp_5, Int32.reduceToNatClampNeg]
        refine X9_byDef_ok hx1 hW1 hw1 hO1 hF d1 (by omega) (by omega) (by omega) (fun q => ?_) (fun q w2 T2 p2 y2 u2 => ?_)
        · rw [if_pos q] at hF'
          simp (disch := omega) only [vX9_takes_87, xs_b hx1, xs_0 hx1, xs_obj hx1, xs_taker hx1, xp_x_7 hx1, pI_c, pL_c, pF_c, pD_c, pA_n, pA_c, pA_rf, pR_c, pR_rf, pV_i, pV_a, pV_n, pV_rf, ldI_c, ldL_c, ldF_c, ldD_c, ldA_c, ldA_n, ldA_rf, dup2_l, dup2_ia, dup2_ir, popA_0, popA_s, getL_z, getL_s, setL_z, setL_1, setL_s, setL2_z, setL2_1, setL2_s, drop2_i, drop2_a, drop2_0, drop2_n, drop2_l, drop2_d, drop2_r, cwd_0, cwd_i, cwd_a, cwd_n, cwd_l, cwd_d, cwd_f, cwd_r, rf_s, rf_n, swi_0, swi_s, zR_b0, zR_b1, zN_b0, zN_b1, entV_i, entV_a, entV_n, entV_r, entV_f, entV_l, entV_d, entV_s, entV_0, List.length_cons, List.length_nil, List.nil_append, List.cons_append, true_and, and_true, Nat.reduceAdd, Nat.reduceLT, Nat.reduceEqDiff, Nat.reduceLeDiff, Nat.reduceSub, Nat.zero_add, Classical.not_not, ex_i, ex_l, ex_d, ex_r, ex_rs, ex_rn, ex_sm, Nat.sub_zero, eq_self, wn_sI, wn_sL, wn_sP, wsh_sI, wsh_sL, wsh_sP, wI_sL, wI_sP, wL_sI, wL_sP, wP_sI, wP_sL, wI_sI, wL_sL, Int32.reduceLT, Int32.reduceLE, true_implies, not_true_eq_false, false_implies, not_false_eq_true, i_10, na_1, nb_1, nm_1, ns_1, nr_1, na_2, nb_2, nm_2, ns_2, nr_2, na_3, nb_3, nm_3, ns_3, nr_3, na_4, nb_4, nm_4, ns_4, nr_4, na_5, nb_5, nm_5, ns_5, nr_5, na_6, nb_6, nm_6, ns_6, nr_6, na_7, nb_7, nm_7, ns_7, nr_7, na_8, nb_8, nm_8, ns_8, nr_8, na_10, nb_10, nm_10, ns_10, nr_10, na_16, nb_16, nm_16, ns_16, nr_16, nl_m1, ni_add, ni_mul, ni_sub, ni_cl, ni_in, vp_0, vp_1, vp_2, vp_3, vp_4, vp_5, Int32.reduceToNatClampNeg]
          exact bad w1 0 (-15) fr hT e2 e3 hF' (by decide)
        · rw [if_neg q] at hF'
          have hx2 := T2.2.2.1
          simp (disch := omega) only [vX9_takes_87, xs_b hx2, xs_0 hx2, xs_obj hx2, xs_taker hx2, xp_x_7 hx2, pI_c, pL_c, pF_c, pD_c, pA_n, pA_c, pA_rf, pR_c, pR_rf, pV_i, pV_a, pV_n, pV_rf, ldI_c, ldL_c, ldF_c, ldD_c, ldA_c, ldA_n, ldA_rf, dup2_l, dup2_ia, dup2_ir, popA_0, popA_s, getL_z, getL_s, setL_z, setL_1, setL_s, setL2_z, setL2_1, setL2_s, drop2_i, drop2_a, drop2_0, drop2_n, drop2_l, drop2_d, drop2_r, cwd_0, cwd_i, cwd_a, cwd_n, cwd_l, cwd_d, cwd_f, cwd_r, rf_s, rf_n, swi_0, swi_s, zR_b0, zR_b1, zN_b0, zN_b1, entV_i, entV_a, entV_n, entV_r, entV_f, entV_l, entV_d, entV_s, entV_0, List.length_cons, List.length_nil, List.nil_append, List.cons_append, true_and, and_true, Nat.reduceAdd, Nat.reduceLT, Nat.reduceEqDiff, Nat.reduceLeDiff, Nat.reduceSub, Nat.zero_add, Classical.not_not, ex_i, ex_l, ex_d, ex_r, ex_rs, ex_rn, ex_sm, Nat.sub_zero, eq_self, wn_sI, wn_sL, wn_sP, wsh_sI, wsh_sL, wsh_sP, wI_sL, wI_sP, wL_sI, wL_sP, wP_sI, wP_sL, wI_sI, wL_sL, Int32.reduceLT, Int32.reduceLE, true_implies, not_true_eq_false, false_implies, not_false_eq_true, i_10, na_1, nb_1, nm_1, ns_1, nr_1, na_2, nb_2, nm_2, ns_2, nr_2, na_3, nb_3, nm_3, ns_3, nr_3, na_4, nb_4, nm_4, ns_4, nr_4, na_5, nb_5, nm_5, ns_5, nr_5, na_6, nb_6, nm_6, ns_6, nr_6, na_7, nb_7, nm_7, ns_7, nr_7, na_8, nb_8, nm_8, ns_8, nr_8, na_10, nb_10, nm_10, ns_10, nr_10, na_16, nb_16, nm_16, ns_16, nr_16, nl_m1, ni_add, ni_mul, ni_sub, ni_cl, ni_in, vp_0, vp_1, vp_2, vp_3, vp_4, vp_5, Int32.reduceToNatClampNeg]
          refine nxt w2 (defY s (8 * v + kf)) fr (hT.tr T2) (fun k' hk' => by rw [p2 k' hk', e4]) ?_ hF'
          rw [e1] at y2
          have : (s.1 8 (8 * v + kf)).toNatClampNeg = to := ekd
          rw [this] at y2
          exact y2
      cases hfi : fldIx (FV s vw 0) (nI t) nw 0 with
      | none =>
        have hneg : ¬ (0 : Int32) ≤ -1 := by decide
        simp (disch := omega) only [vX9_takes_43, vX9_takes_45, pI_c, pL_c, pF_c, pD_c, pA_n, pA_c, pA_rf, pR_c, pR_rf, pV_i, pV_a, pV_n, pV_rf, ldI_c, ldL_c, ldF_c, ldD_c, ldA_c, ldA_n, ldA_rf, dup2_l, dup2_ia, dup2_ir, popA_0, popA_s, getL_z, getL_s, setL_z, setL_1, setL_s, setL2_z, setL2_1, setL2_s, drop2_i, drop2_a, drop2_0, drop2_n, drop2_l, drop2_d, drop2_r, cwd_0, cwd_i, cwd_a, cwd_n, cwd_l, cwd_d, cwd_f, cwd_r, rf_s, rf_n, swi_0, swi_s, zR_b0, zR_b1, zN_b0, zN_b1, entV_i, entV_a, entV_n, entV_r, entV_f, entV_l, entV_d, entV_s, entV_0, List.length_cons, List.length_nil, List.nil_append, List.cons_append, true_and, and_true, Nat.reduceAdd, Nat.reduceLT, Nat.reduceEqDiff, Nat.reduceLeDiff, Nat.reduceSub, Nat.zero_add, Classical.not_not, ex_i, ex_l, ex_d, ex_r, ex_rs, ex_rn, ex_sm, Nat.sub_zero, eq_self, wn_sI, wn_sL, wn_sP, wsh_sI, wsh_sL, wsh_sP, wI_sL, wI_sP, wL_sI, wL_sP, wP_sI, wP_sL, wI_sI, wL_sL, Int32.reduceLT, Int32.reduceLE, true_implies, not_true_eq_false, false_implies, not_false_eq_true, i_10, ixI2, hneg]
        refine deflt (-1) ?_
        unfold tkF
        rw [F0, hfi]
      | some j =>
        obtain ⟨j1, j2, j3⟩ := fldIx_lt hfi
        rw [Nat.zero_add] at j2
        have hpos : (0 : Int32) ≤ nI j := by rw [show (0 : Int32) = nI 0 from rfl, ni_le (by omega) (by omega)]; omega
        have hbj := hPr1 j (by omega)
        have hb2 : p / 2 ^ j % 2 < 2 := Nat.mod_lt _ (by decide)
        have hpj := hp.2 j (by omega)
        have hpos' : ¬ nI j < 0 := Int32.not_lt.mpr hpos
        simp (disch := omega) only [vX9_takes_43, vX9_takes_45, vX9_takes_48, vX9_takes_49, vX9_takes_52, vX9_takes_54, vX9_takes_55, xs_b hx1, xs_0 hx1, xs_obj hx1, xs_seen hx1, xp_x_6 hx1, xs_present hx1, xp_seen_5 hx1, pI_c, pL_c, pF_c, pD_c, pA_n, pA_c, pA_rf, pR_c, pR_rf, pV_i, pV_a, pV_n, pV_rf, ldI_c, ldL_c, ldF_c, ldD_c, ldA_c, ldA_n, ldA_rf, dup2_l, dup2_ia, dup2_ir, popA_0, popA_s, getL_z, getL_s, setL_z, setL_1, setL_s, setL2_z, setL2_1, setL2_s, drop2_i, drop2_a, drop2_0, drop2_n, drop2_l, drop2_d, drop2_r, cwd_0, cwd_i, cwd_a, cwd_n, cwd_l, cwd_d, cwd_f, cwd_r, rf_s, rf_n, swi_0, swi_s, zR_b0, zR_b1, zN_b0, zN_b1, entV_i, entV_a, entV_n, entV_r, entV_f, entV_l, entV_d, entV_s, entV_0, List.length_cons, List.length_nil, List.nil_append, List.cons_append, true_and, and_true, Nat.reduceAdd, Nat.reduceLT, Nat.reduceEqDiff, Nat.reduceLeDiff, Nat.reduceSub, Nat.zero_add, Classical.not_not, ex_i, ex_l, ex_d, ex_r, ex_rs, ex_rn, ex_sm, Nat.sub_zero, eq_self, wn_sI, wn_sL, wn_sP, wsh_sI, wsh_sL, wsh_sP, wI_sL, wI_sP, wL_sI, wL_sP, wP_sI, wP_sL, wI_sI, wL_sL, Int32.reduceLT, Int32.reduceLE, true_implies, not_true_eq_false, false_implies, not_false_eq_true, i_10, na_1, nb_1, nm_1, ns_1, nr_1, na_2, nb_2, nm_2, ns_2, nr_2, na_3, nb_3, nm_3, ns_3, nr_3, na_4, nb_4, nm_4, ns_4, nr_4, na_5, nb_5, nm_5, ns_5, nr_5, na_6, nb_6, nm_6, ns_6, nr_6, na_7, nb_7, nm_7, ns_7, nr_7, na_8, nb_8, nm_8, ns_8, nr_8, na_10, nb_10, nm_10, ns_10, nr_10, na_16, nb_16, nm_16, ns_16, nr_16, nl_m1, ni_add, ni_mul, ni_sub, ni_cl, ni_in, vp_0, vp_1, vp_2, vp_3, vp_4, vp_5, Int32.reduceToNatClampNeg, ixI2, hpos', hbj, ni_eq0, true_or, or_false, false_and]
        refine ⟨fun q => deflt _ ?_, fun q => ?_⟩
        · unfold tkF
          rw [F0, hfi]
          simp only [hpj.mp q]
        · have hg := List.getElem?_eq_getElem (show j < L.length by omega)
          cases hC : L[j] with
          | none =>
            rw [hC] at hg
            exact absurd (hpj.mpr hg) q
          | some C =>
            rw [hC] at hg
            obtain ⟨g1, g2, g3⟩ := hG1 j C hg
            have hF' : tkF (FV s vw) nw L lx (FV s v) kf = flC (nI cc) (nI to) lx C := by
              unfold tkF
              rw [F0, hfi, F1, F2]
              simp only [hg]
              rfl
            simp (disch := omega) only [vX9_takes_58, vX9_takes_59, vX9_takes_60, vX9_takes_62, vX9_takes_64, vX9_takes_65, vX9_takes_67, vX9_takes_69, xs_b hx1, xs_0 hx1, xs_obj hx1, xs_taker hx1, xp_x_7 hx1, xs_seen hx1, xp_x_6 hx1, pI_c, pL_c, pF_c, pD_c, pA_n, pA_c, pA_rf, pR_c, pR_rf, pV_i, pV_a, pV_n, pV_rf, ldI_c, ldL_c, ldF_c, ldD_c, ldA_c, ldA_n, ldA_rf, dup2_l, dup2_ia, dup2_ir, popA_0, popA_s, getL_z, getL_s, setL_z, setL_1, setL_s, setL2_z, setL2_1, setL2_s, drop2_i, drop2_a, drop2_0, drop2_n, drop2_l, drop2_d, drop2_r, cwd_0, cwd_i, cwd_a, cwd_n, cwd_l, cwd_d, cwd_f, cwd_r, rf_s, rf_n, swi_0, swi_s, zR_b0, zR_b1, zN_b0, zN_b1, entV_i, entV_a, entV_n, entV_r, entV_f, entV_l, entV_d, entV_s, entV_0, List.length_cons, List.length_nil, List.nil_append, List.cons_append, true_and, and_true, Nat.reduceAdd, Nat.reduceLT, Nat.reduceEqDiff, Nat.reduceLeDiff, Nat.reduceSub, Nat.zero_add, Classical.not_not, ex_i, ex_l, ex_d, ex_r, ex_rs, ex_rn, ex_sm, Nat.sub_zero, eq_self, wn_sI, wn_sL, wn_sP, wsh_sI, wsh_sL, wsh_sP, wI_sL, wI_sP, wL_sI, wL_sP, wP_sI, wP_sL, wI_sI, wL_sL, Int32.reduceLT, Int32.reduceLE, true_implies, not_true_eq_false, false_implies, not_false_eq_true, i_10, na_1, nb_1, nm_1, ns_1, nr_1, na_2, nb_2, nm_2, ns_2, nr_2, na_3, nb_3, nm_3, ns_3, nr_3, na_4, nb_4, nm_4, ns_4, nr_4, na_5, nb_5, nm_5, ns_5, nr_5, na_6, nb_6, nm_6, ns_6, nr_6, na_7, nb_7, nm_7, ns_7, nr_7, na_8, nb_8, nm_8, ns_8, nr_8, na_10, nb_10, nm_10, ns_10, nr_10, na_16, nb_16, nm_16, ns_16, nr_16, nl_m1, ni_add, ni_mul, ni_sub, ni_cl, ni_in, vp_0, vp_1, vp_2, vp_3, vp_4, vp_5, Int32.reduceToNatClampNeg]
            refine X9_fill_ok (kf := kf) hx1 hC1 hW1 hw1 hN1 d1 a2 a3 (by omega) (by omega) g2 g3 g1 (hOK j C hg) (by omega) (by omega) (fun c y w2 q1 T2 t1 t2 t3 => ?_) (fun D w2 q1 T2 p2 y2 u2 => ?_)
            · have hx2 := T2.2.2.1
              simp (disch := omega) only [vX9_takes_72, vX9_takes_75, xs_b hx2, xs_0 hx2, xs_obj hx2, xs_taker hx2, xp_x_7 hx2, pI_c, pL_c, pF_c, pD_c, pA_n, pA_c, pA_rf, pR_c, pR_rf, pV_i, pV_a, pV_n, pV_rf, ldI_c, ldL_c, ldF_c, ldD_c, ldA_c, ldA_n, ldA_rf, dup2_l, dup2_ia, dup2_ir, popA_0, popA_s, getL_z, getL_s, setL_z, setL_1, setL_s, setL2_z, setL2_1, setL2_s, drop2_i, drop2_a, drop2_0, drop2_n, drop2_l, drop2_d, drop2_r, cwd_0, cwd_i, cwd_a, cwd_n, cwd_l, cwd_d, cwd_f, cwd_r, rf_s, rf_n, swi_0, swi_s, zR_b0, zR_b1, zN_b0, zN_b1, entV_i, entV_a, entV_n, entV_r, entV_f, entV_l, entV_d, entV_s, entV_0, List.length_cons, List.length_nil, List.nil_append, List.cons_append, true_and, and_true, Nat.reduceAdd, Nat.reduceLT, Nat.reduceEqDiff, Nat.reduceLeDiff, Nat.reduceSub, Nat.zero_add, Classical.not_not, ex_i, ex_l, ex_d, ex_r, ex_rs, ex_rn, ex_sm, Nat.sub_zero, eq_self, wn_sI, wn_sL, wn_sP, wsh_sI, wsh_sL, wsh_sP, wI_sL, wI_sP, wL_sI, wL_sP, wP_sI, wP_sL, wI_sI, wL_sL, Int32.reduceLT, Int32.reduceLE, true_implies, not_true_eq_false, false_implies, not_false_eq_true, i_10, na_1, nb_1, nm_1, ns_1, nr_1, na_2, nb_2, nm_2, ns_2, nr_2, na_3, nb_3, nm_3, ns_3, nr_3, na_4, nb_4, nm_4, ns_4, nr_4, na_5, nb_5, nm_5, ns_5, nr_5, na_6, nb_6, nm_6, ns_6, nr_6, na_7, nb_7, nm_7, ns_7, nr_7, na_8, nb_8, nm_8, ns_8, nr_8, na_10, nb_10, nm_10, ns_10, nr_10, na_16, nb_16, nm_16, ns_16, nr_16, nl_m1, ni_add, ni_mul, ni_sub, ni_cl, ni_in, vp_0, vp_1, vp_2, vp_3, vp_4, vp_5, Int32.reduceToNatClampNeg]
              exact bad w2 c y _ (hT.tr T2) (t1.trans e2) t2 (hF'.trans q1) (flC_nz q1)
            · have hx2 := T2.2.2.1
              simp (disch := omega) only [vX9_takes_72, vX9_takes_75, xs_b hx2, xs_0 hx2, xs_obj hx2, xs_taker hx2, xp_x_7 hx2, pI_c, pL_c, pF_c, pD_c, pA_n, pA_c, pA_rf, pR_c, pR_rf, pV_i, pV_a, pV_n, pV_rf, ldI_c, ldL_c, ldF_c, ldD_c, ldA_c, ldA_n, ldA_rf, dup2_l, dup2_ia, dup2_ir, popA_0, popA_s, getL_z, getL_s, setL_z, setL_1, setL_s, setL2_z, setL2_1, setL2_s, drop2_i, drop2_a, drop2_0, drop2_n, drop2_l, drop2_d, drop2_r, cwd_0, cwd_i, cwd_a, cwd_n, cwd_l, cwd_d, cwd_f, cwd_r, rf_s, rf_n, swi_0, swi_s, zR_b0, zR_b1, zN_b0, zN_b1, entV_i, entV_a, entV_n, entV_r, entV_f, entV_l, entV_d, entV_s, entV_0, List.length_cons, List.length_nil, List.nil_append, List.cons_append, true_and, and_true, Nat.reduceAdd, Nat.reduceLT, Nat.reduceEqDiff, Nat.reduceLeDiff, Nat.reduceSub, Nat.zero_add, Classical.not_not, ex_i, ex_l, ex_d, ex_r, ex_rs, ex_rn, ex_sm, Nat.sub_zero, eq_self, wn_sI, wn_sL, wn_sP, wsh_sI, wsh_sL, wsh_sP, wI_sL, wI_sP, wL_sI, wL_sP, wP_sI, wP_sL, wI_sI, wL_sL, Int32.reduceLT, Int32.reduceLE, true_implies, not_true_eq_false, false_implies, not_false_eq_true, i_10, na_1, nb_1, nm_1, ns_1, nr_1, na_2, nb_2, nm_2, ns_2, nr_2, na_3, nb_3, nm_3, ns_3, nr_3, na_4, nb_4, nm_4, ns_4, nr_4, na_5, nb_5, nm_5, ns_5, nr_5, na_6, nb_6, nm_6, ns_6, nr_6, na_7, nb_7, nm_7, ns_7, nr_7, na_8, nb_8, nm_8, ns_8, nr_8, na_10, nb_10, nm_10, ns_10, nr_10, na_16, nb_16, nm_16, ns_16, nr_16, nl_m1, ni_add, ni_mul, ni_sub, ni_cl, ni_in, vp_0, vp_1, vp_2, vp_3, vp_4, vp_5, Int32.reduceToNatClampNeg]
              refine nxt w2 (some D) _ (hT.tr T2) (fun k' hk' => by rw [p2 k' hk', e4]) ?_ (hF'.trans q1)
              rw [e1] at y2
              exact y2
    have go : ∀ o7, (o7 = none ∨ ∃ y, o7 = some (.int y)) → R g mX9_takes K 21 [some (.ref (x + 34)), some (.ref (x + 12)), some (.ref Aw), some (.ref Ar), some (.int lx), some (.int (nI kf)), some (.ref d), o7] [] w k0 n0 := by
      intro o7 ho7
      simp (disch := omega) only [vX9_takes_21, vX9_takes_22, vX9_takes_24, vX9_takes_27, pI_c, pL_c, pF_c, pD_c, pA_n, pA_c, pA_rf, pR_c, pR_rf, pV_i, pV_a, pV_n, pV_rf, ldI_c, ldL_c, ldF_c, ldD_c, ldA_c, ldA_n, ldA_rf, dup2_l, dup2_ia, dup2_ir, popA_0, popA_s, getL_z, getL_s, setL_z, setL_1, setL_s, setL2_z, setL2_1, setL2_s, drop2_i, drop2_a, drop2_0, drop2_n, drop2_l, drop2_d, drop2_r, cwd_0, cwd_i, cwd_a, cwd_n, cwd_l, cwd_d, cwd_f, cwd_r, rf_s, rf_n, swi_0, swi_s, zR_b0, zR_b1, zN_b0, zN_b1, entV_i, entV_a, entV_n, entV_r, entV_f, entV_l, entV_d, entV_s, entV_0, List.length_cons, List.length_nil, List.nil_append, List.cons_append, true_and, and_true, Nat.reduceAdd, Nat.reduceLT, Nat.reduceEqDiff, Nat.reduceLeDiff, Nat.reduceSub, Nat.zero_add, Classical.not_not, ex_i, ex_l, ex_d, ex_r, ex_rs, ex_rn, ex_sm, Nat.sub_zero, eq_self, wn_sI, wn_sL, wn_sP, wsh_sI, wsh_sL, wsh_sP, wI_sL, wI_sP, wL_sI, wL_sP, wP_sI, wP_sL, wI_sI, wL_sL, Int32.reduceLT, Int32.reduceLE, true_implies, not_true_eq_false, false_implies, not_false_eq_true, i_10, hVw.2.2.2.2.1, hFN.1, hFN.2.1]
      refine X10_placeOf_ok hVw _ ?_
      rw [← eFw]
      have f1 : Fr (fun a j => a = x + 34 ∧ (j = 1 ∨ j = 2)) w (sI (sI w (x + 34) 1 (nI kf)) (x + 34) 2 0) := (Fr.rf.i _ ⟨rfl, Or.inl rfl⟩).i _ ⟨rfl, Or.inr rfl⟩
      have := st (sI (sI w (x + 34) 1 (nI kf)) (x + 34) 2 0) ⟨Nat.le_refl _, f1.wfk hW, hx.fr f1, fun b _ h2 _ => f1.same fun j => by omega⟩ rfl (by simp only [wI_at, if_true, if_false, Nat.reduceEqDiff]) (wI_at.trans (if_pos rfl)) rfl rfl fun a ha => funext fun j => f1.I _ _ (by omega)
      rcases ho7 with rfl | ⟨y, rfl⟩
      · simp (disch := omega) only [vX9_takes_30, vX9_takes_32, vX9_takes_33, vX9_takes_35, vX9_takes_38, vX9_takes_39, vX9_takes_40, xs_b hx, xs_0 hx, xs_obj hx, xs_taker hx, xp_x_7 hx, pI_c, pL_c, pF_c, pD_c, pA_n, pA_c, pA_rf, pR_c, pR_rf, pV_i, pV_a, pV_n, pV_rf, ldI_c, ldL_c, ldF_c, ldD_c, ldA_c, ldA_n, ldA_rf, dup2_l, dup2_ia, dup2_ir, popA_0, popA_s, getL_z, getL_s, setL_z, setL_1, setL_s, setL2_z, setL2_1, setL2_s, drop2_i, drop2_a, drop2_0, drop2_n, drop2_l, drop2_d, drop2_r, cwd_0, cwd_i, cwd_a, cwd_n, cwd_l, cwd_d, cwd_f, cwd_r, rf_s, rf_n, swi_0, swi_s, zR_b0, zR_b1, zN_b0, zN_b1, entV_i, entV_a, entV_n, entV_r, entV_f, entV_l, entV_d, entV_s, entV_0, List.length_cons, List.length_nil, List.nil_append, List.cons_append, true_and, and_true, Nat.reduceAdd, Nat.reduceLT, Nat.reduceEqDiff, Nat.reduceLeDiff, Nat.reduceSub, Nat.zero_add, Classical.not_not, ex_i, ex_l, ex_d, ex_r, ex_rs, ex_rn, ex_sm, Nat.sub_zero, eq_self, wn_sI, wn_sL, wn_sP, wsh_sI, wsh_sL, wsh_sP, wI_sL, wI_sP, wL_sI, wL_sP, wP_sI, wP_sL, wI_sI, wL_sL, Int32.reduceLT, Int32.reduceLE, true_implies, not_true_eq_false, false_implies, not_false_eq_true, i_10, na_1, nb_1, nm_1, ns_1, nr_1, na_2, nb_2, nm_2, ns_2, nr_2, na_3, nb_3, nm_3, ns_3, nr_3, na_4, nb_4, nm_4, ns_4, nr_4, na_5, nb_5, nm_5, ns_5, nr_5, na_6, nb_6, nm_6, ns_6, nr_6, na_7, nb_7, nm_7, ns_7, nr_7, na_8, nb_8, nm_8, ns_8, nr_8, na_10, nb_10, nm_10, ns_10, nr_10, na_16, nb_16, nm_16, ns_16, nr_16, nl_m1, ni_add, ni_mul, ni_sub, ni_cl, ni_in, vp_0, vp_1, vp_2, vp_3, vp_4, vp_5, Int32.reduceToNatClampNeg]
        exact this
      · simp (disch := omega) only [vX9_takes_30, vX9_takes_32, vX9_takes_33, vX9_takes_35, vX9_takes_38, vX9_takes_39, vX9_takes_40, xs_b hx, xs_0 hx, xs_obj hx, xs_taker hx, xp_x_7 hx, pI_c, pL_c, pF_c, pD_c, pA_n, pA_c, pA_rf, pR_c, pR_rf, pV_i, pV_a, pV_n, pV_rf, ldI_c, ldL_c, ldF_c, ldD_c, ldA_c, ldA_n, ldA_rf, dup2_l, dup2_ia, dup2_ir, popA_0, popA_s, getL_z, getL_s, setL_z, setL_1, setL_s, setL2_z, setL2_1, setL2_s, drop2_i, drop2_a, drop2_0, drop2_n, drop2_l, drop2_d, drop2_r, cwd_0, cwd_i, cwd_a, cwd_n, cwd_l, cwd_d, cwd_f, cwd_r, rf_s, rf_n, swi_0, swi_s, zR_b0, zR_b1, zN_b0, zN_b1, entV_i, entV_a, entV_n, entV_r, entV_f, entV_l, entV_d, entV_s, entV_0, List.length_cons, List.length_nil, List.nil_append, List.cons_append, true_and, and_true, Nat.reduceAdd, Nat.reduceLT, Nat.reduceEqDiff, Nat.reduceLeDiff, Nat.reduceSub, Nat.zero_add, Classical.not_not, ex_i, ex_l, ex_d, ex_r, ex_rs, ex_rn, ex_sm, Nat.sub_zero, eq_self, wn_sI, wn_sL, wn_sP, wsh_sI, wsh_sL, wsh_sP, wI_sL, wI_sP, wL_sI, wL_sP, wP_sI, wP_sL, wI_sI, wL_sL, Int32.reduceLT, Int32.reduceLE, true_implies, not_true_eq_false, false_implies, not_false_eq_true, i_10, na_1, nb_1, nm_1, ns_1, nr_1, na_2, nb_2, nm_2, ns_2, nr_2, na_3, nb_3, nm_3, ns_3, nr_3, na_4, nb_4, nm_4, ns_4, nr_4, na_5, nb_5, nm_5, ns_5, nr_5, na_6, nb_6, nm_6, ns_6, nr_6, na_7, nb_7, nm_7, ns_7, nr_7, na_8, nb_8, nm_8, ns_8, nr_8, na_10, nb_10, nm_10, ns_10, nr_10, na_16, nb_16, nm_16, ns_16, nr_16, nl_m1, ni_add, ni_mul, ni_sub, ni_cl, ni_in, vp_0, vp_1, vp_2, vp_3, vp_4, vp_5, Int32.reduceToNatClampNeg]
        exact this
    simp (disch := omega) only [vX9_takes_3, vX9_takes_5, vX9_takes_6, vX9_takes_9, pI_c, pL_c, pF_c, pD_c, pA_n, pA_c, pA_rf, pR_c, pR_rf, pV_i, pV_a, pV_n, pV_rf, ldI_c, ldL_c, ldF_c, ldD_c, ldA_c, ldA_n, ldA_rf, dup2_l, dup2_ia, dup2_ir, popA_0, popA_s, getL_z, getL_s, setL_z, setL_1, setL_s, setL2_z, setL2_1, setL2_s, drop2_i, drop2_a, drop2_0, drop2_n, drop2_l, drop2_d, drop2_r, cwd_0, cwd_i, cwd_a, cwd_n, cwd_l, cwd_d, cwd_f, cwd_r, rf_s, rf_n, swi_0, swi_s, zR_b0, zR_b1, zN_b0, zN_b1, entV_i, entV_a, entV_n, entV_r, entV_f, entV_l, entV_d, entV_s, entV_0, List.length_cons, List.length_nil, List.nil_append, List.cons_append, true_and, and_true, Nat.reduceAdd, Nat.reduceLT, Nat.reduceEqDiff, Nat.reduceLeDiff, Nat.reduceSub, Nat.zero_add, Classical.not_not, ex_i, ex_l, ex_d, ex_r, ex_rs, ex_rn, ex_sm, Nat.sub_zero, eq_self, wn_sI, wn_sL, wn_sP, wsh_sI, wsh_sL, wsh_sP, wI_sL, wI_sP, wL_sI, wL_sP, wP_sI, wP_sL, wI_sI, wL_sL, Int32.reduceLT, Int32.reduceLE, true_implies, not_true_eq_false, false_implies, not_false_eq_true, i_10, ni_le, ni_lt, ni_eq, ni_le1, ni_le0, ni_eq0, ni_eq1, ni_eq2, ni_eq8, ni_eq9, v5, v6, hlt]
    rcases ho with ⟨rfl, rfl⟩ | ⟨aa, yy, rfl, rfl⟩
    · simp (disch := omega) only [vX9_takes_12, vX9_takes_13, vX9_takes_16, vX9_takes_18, vX9_takes_19, pI_c, pL_c, pF_c, pD_c, pA_n, pA_c, pA_rf, pR_c, pR_rf, pV_i, pV_a, pV_n, pV_rf, ldI_c, ldL_c, ldF_c, ldD_c, ldA_c, ldA_n, ldA_rf, dup2_l, dup2_ia, dup2_ir, popA_0, popA_s, getL_z, getL_s, setL_z, setL_1, setL_s, setL2_z, setL2_1, setL2_s, drop2_i, drop2_a, drop2_0, drop2_n, drop2_l, drop2_d, drop2_r, cwd_0, cwd_i, cwd_a, cwd_n, cwd_l, cwd_d, cwd_f, cwd_r, rf_s, rf_n, swi_0, swi_s, zR_b0, zR_b1, zN_b0, zN_b1, entV_i, entV_a, entV_n, entV_r, entV_f, entV_l, entV_d, entV_s, entV_0, List.length_cons, List.length_nil, List.nil_append, List.cons_append, true_and, and_true, Nat.reduceAdd, Nat.reduceLT, Nat.reduceEqDiff, Nat.reduceLeDiff, Nat.reduceSub, Nat.zero_add, Classical.not_not, ex_i, ex_l, ex_d, ex_r, ex_rs, ex_rn, ex_sm, Nat.sub_zero, eq_self, wn_sI, wn_sL, wn_sP, wsh_sI, wsh_sL, wsh_sP, wI_sL, wI_sP, wL_sI, wL_sP, wP_sI, wP_sL, wI_sI, wL_sL, Int32.reduceLT, Int32.reduceLE, true_implies, not_true_eq_false, false_implies, not_false_eq_true, i_10, na_1, nb_1, nm_1, ns_1, nr_1, na_2, nb_2, nm_2, ns_2, nr_2, na_3, nb_3, nm_3, ns_3, nr_3, na_4, nb_4, nm_4, ns_4, nr_4, na_5, nb_5, nm_5, ns_5, nr_5, na_6, nb_6, nm_6, ns_6, nr_6, na_7, nb_7, nm_7, ns_7, nr_7, na_8, nb_8, nm_8, ns_8, nr_8, na_10, nb_10, nm_10, ns_10, nr_10, na_16, nb_16, nm_16, ns_16, nr_16, nl_m1, ni_add, ni_mul, ni_sub, ni_cl, ni_in, vp_0, vp_1, vp_2, vp_3, vp_4, vp_5, Int32.reduceToNatClampNeg, v5, v8, v9, d2]
      exact go _ (Or.inl rfl)
    · simp (disch := omega) only [vX9_takes_12, vX9_takes_13, vX9_takes_16, vX9_takes_18, vX9_takes_19, pI_c, pL_c, pF_c, pD_c, pA_n, pA_c, pA_rf, pR_c, pR_rf, pV_i, pV_a, pV_n, pV_rf, ldI_c, ldL_c, ldF_c, ldD_c, ldA_c, ldA_n, ldA_rf, dup2_l, dup2_ia, dup2_ir, popA_0, popA_s, getL_z, getL_s, setL_z, setL_1, setL_s, setL2_z, setL2_1, setL2_s, drop2_i, drop2_a, drop2_0, drop2_n, drop2_l, drop2_d, drop2_r, cwd_0, cwd_i, cwd_a, cwd_n, cwd_l, cwd_d, cwd_f, cwd_r, rf_s, rf_n, swi_0, swi_s, zR_b0, zR_b1, zN_b0, zN_b1, entV_i, entV_a, entV_n, entV_r, entV_f, entV_l, entV_d, entV_s, entV_0, List.length_cons, List.length_nil, List.nil_append, List.cons_append, true_and, and_true, Nat.reduceAdd, Nat.reduceLT, Nat.reduceEqDiff, Nat.reduceLeDiff, Nat.reduceSub, Nat.zero_add, Classical.not_not, ex_i, ex_l, ex_d, ex_r, ex_rs, ex_rn, ex_sm, Nat.sub_zero, eq_self, wn_sI, wn_sL, wn_sP, wsh_sI, wsh_sL, wsh_sP, wI_sL, wI_sP, wL_sI, wL_sP, wP_sI, wP_sL, wI_sI, wL_sL, Int32.reduceLT, Int32.reduceLE, true_implies, not_true_eq_false, false_implies, not_false_eq_true, i_10, na_1, nb_1, nm_1, ns_1, nr_1, na_2, nb_2, nm_2, ns_2, nr_2, na_3, nb_3, nm_3, ns_3, nr_3, na_4, nb_4, nm_4, ns_4, nr_4, na_5, nb_5, nm_5, ns_5, nr_5, na_6, nb_6, nm_6, ns_6, nr_6, na_7, nb_7, nm_7, ns_7, nr_7, na_8, nb_8, nm_8, ns_8, nr_8, na_10, nb_10, nm_10, ns_10, nr_10, na_16, nb_16, nm_16, ns_16, nr_16, nl_m1, ni_add, ni_mul, ni_sub, ni_cl, ni_in, vp_0, vp_1, vp_2, vp_3, vp_4, vp_5, Int32.reduceToNatClampNeg, v5, v8, v9, d2]
      exact go _ (Or.inr ⟨_, rfl⟩)
set_option maxRecDepth 100000 in
set_option maxHeartbeats 4000000 in
theorem X9_takes_ok {g : Ge} {w : Wd} {k n : Nat} {K : Int32 → Wd → Nat → Nat → Prop} {x vw v nw n1 Aw cw Ar cr p : Nat} {lx : Int32} {s : St} {L : List (Option (List (Int32 × Int64)))} (hx : XS g x w) (hC : Cn g w) (hW : WF w) (hw : x + 81 ≤ wn w) (hVw : VerO (x + 81) w Aw cw nw vw s) (hV : VerO (x + 81) w Ar cr n1 v s) (hPr : PrX x w p 8) (hG : GotX x w L) (hLl : L.length = nw) (hp : PresL p L) (hOK : LOK L) (hk : 24 ≤ k) (hn : 512 ≤ n)
    (h1 : ∀ f c y w', tk (FV s vw) nw L lx (FV s v) n1 0 = .inl (f, c, y) → TkR g x w w' → wI w' (x + 34) 1 = nI f → wI w' (x + 34) 2 = nI c → wI w' (x + 34) 3 = y → K 0 w' (k - 24) (n - 512))
    (h0 : ∀ D w', tk (FV s vw) nw L lx (FV s v) n1 0 = .inr D → TkR g x w w' → NewsX x (wn w) w' v s D → D.length = n1 → K 1 w' (k - 24) (n - 512)) : cI g mX9_takes [.ref (x + 34), .ref (x + 12), .ref Aw, .ref Ar, .int lx] w k n K := by
  have s0 : (0 : Int32) = nI 0 := rfl
  have hn8 := hV.n8
  refine cI_of 8 24 512 rfl (by decide +kernel) rfl (Nat.le_of_ble_eq_true rfl) hk hn ?_
  simp (disch := omega) only [vX9_takes_0, vX9_takes_1, pI_c, pL_c, pF_c, pD_c, pA_n, pA_c, pA_rf, pR_c, pR_rf, pV_i, pV_a, pV_n, pV_rf, ldI_c, ldL_c, ldF_c, ldD_c, ldA_c, ldA_n, ldA_rf, dup2_l, dup2_ia, dup2_ir, popA_0, popA_s, getL_z, getL_s, setL_z, setL_1, setL_s, setL2_z, setL2_1, setL2_s, drop2_i, drop2_a, drop2_0, drop2_n, drop2_l, drop2_d, drop2_r, cwd_0, cwd_i, cwd_a, cwd_n, cwd_l, cwd_d, cwd_f, cwd_r, rf_s, rf_n, swi_0, swi_s, zR_b0, zR_b1, zN_b0, zN_b1, entV_i, entV_a, entV_n, entV_r, entV_f, entV_l, entV_d, entV_s, entV_0, List.length_cons, List.length_nil, List.nil_append, List.cons_append, true_and, and_true, Nat.reduceAdd, Nat.reduceLT, Nat.reduceEqDiff, Nat.reduceLeDiff, Nat.reduceSub, Nat.zero_add, Classical.not_not, ex_i, ex_l, ex_d, ex_r, ex_rs, ex_rn, ex_sm, Nat.sub_zero, eq_self, wn_sI, wn_sL, wn_sP, wsh_sI, wsh_sL, wsh_sP, wI_sL, wI_sP, wL_sI, wL_sP, wP_sI, wP_sL, wI_sI, wL_sL, Int32.reduceLT, Int32.reduceLE, true_implies, not_true_eq_false, false_implies, not_false_eq_true, i_10]
  rw [s0]
  exact X9_takes_loop hw hLl hp hOK n1 0 w [] none none 24 512 (by omega) rfl hx hC hW (Nat.le_refl _) hVw hV hPr hG ⟨fun j y h => (by cases h), fun i j A A' _ h => absurd h (Nat.not_lt_zero j)⟩ (by omega) (by omega) (Or.inl ⟨rfl, rfl⟩) (fun f c y w' q1 q2 q3 q4 q5 => ⟨_, rfl, h1 f c y w' q1 q2 q3 q4 q5⟩) (fun D w' q1 q2 q3 q4 => ⟨_, rfl, h0 D w' q1 q2 q3 q4⟩)
