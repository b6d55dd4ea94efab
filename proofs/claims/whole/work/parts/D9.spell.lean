/-! the class: spell -/
/-- a builder in the making: u and on is new, the rest as in w0; what may still be used -/
def SBQ (g : Ge) (u : Nat) (w0 w : Wd) (a b cap : Nat) (L : List Int32) (k n : Nat) : Prop := gB g ≤ u ∧ u ≤ a ∧ u ≤ b ∧ u ≤ wn w ∧ WF w ∧ (∀ c, c < u → Same c w0 w) ∧ SBX w a b cap L ∧ 16 ≤ cap ∧ 260 ≤ 16 * k + cap ∧ 960 ≤ n + 2 * cap
theorem SBQ.re {g : Ge} {u a b cap k n : Nat} {w0 w : Wd} {L : List Int32} (h : SBQ g u w0 w a b cap L k n) {k' n' : Nat} (hk : 17 ≤ k') (hn : 960 ≤ n') : SBQ g u w0 w a b cap L k' n' := by
  obtain ⟨h1, h2, h3, h4, h5, h6, h7, h8, -, -⟩ := h
  exact ⟨h1, h2, h3, h4, h5, h6, h7, h8, by omega, by omega⟩
theorem SBQ.grow {g : Ge} {u a b cap k n : Nat} {w0 w : Wd} {L : List Int32} (h : SBQ g u w0 w a b cap L k n) {need : Nat} (hn : need ≤ 240) : gK cap need ≤ k ∧ gN cap need ≤ n ∧ 16 ≤ ncp cap need ∧ 260 ≤ 16 * (k - gK cap need) + ncp cap need ∧ 960 ≤ (n - gN cap need) + 2 * ncp cap need := by
  obtain ⟨-, -, -, -, -, -, -, h8, h9, h10⟩ := h
  unfold gK gN ncp
  by_cases q : need ≤ cap
  · simp only [if_pos q]
    omega
  · simp only [if_neg q]
    rcases Nat.le_total (need - cap) (cap + 2) with z | z
    · rw [Nat.max_eq_right z]
      omega
    · rw [Nat.max_eq_left z]
      omega
theorem SBQ.ap {g : Ge} {u a b b' cap k n need : Nat} {w0 w w' : Wd} {L L' : List Int32} (h : SBQ g u w0 w a b cap L k n) (hn : need ≤ 240) (hA : ApX w w' a b b' (ncp cap need) L') : SBQ g u w0 w' a b' (ncp cap need) L' (k - gK cap need) (n - gN cap need) := by
  obtain ⟨g1, g2, g3, g4, g5⟩ := h.grow hn
  obtain ⟨h1, h2, h3, h4, h5, h6, h7, h8, -, -⟩ := h
  obtain ⟨a1, a2, a3, a4, a5⟩ := hA
  exact ⟨h1, h2, by omega, by omega, a2, fun c hc => (h6 c hc).tr (a3 c (by omega) (by omega) (by omega)), a4, g3, g4, g5⟩
set_option maxRecDepth 100000 in
set_option maxHeartbeats 4000000 in
theorem sb_C {g : Ge} {w w0 : Wd} {k n : Nat} {K : Option Nat → Wd → Nat → Nat → Prop} {u a b cap c : Nat} {L : List Int32} (hQ : SBQ g u w0 w a b cap L k n) (hl : L.length < 240) (hc : c ≤ 127) (h : ∀ w' b' cap' k' n', SBQ g u w0 w' a b' cap' (L ++ [nI c]) k' n' → K (some a) w' k' n') : cR g mJ4_append_cf468 [.ref a, .int (nI c)] w k n K := by
  obtain ⟨g1, g2, g3, g4, g5⟩ := hQ.grow (need := L.length + 1) (by omega)
  obtain ⟨h1, h2, h3, h4, h5, h6, h7, -⟩ := id hQ
  exact J4_appendC_ok h7 (by omega) (by omega) (by omega) h5 hl hc g1 g2 fun w' b' hA => h w' b' _ _ _ (hQ.ap (by omega) hA)
set_option maxRecDepth 100000 in
set_option maxHeartbeats 4000000 in
theorem sb_S {g : Ge} {w w0 : Wd} {k n : Nat} {K : Option Nat → Wd → Nat → Nat → Prop} {u a b cap t c : Nat} {L : List Int32} {M : List Nat} (hQ : SBQ g u w0 w a b cap L k n) (ht : TxtL w0 t M) (htu : t < u) (hc : wP w0 t 0 = some c) (hcu : c < u) (hM : ∀ i, i < M.length → M.getD i 0 ≤ 127) (hl : L.length + M.length ≤ 240) (h : ∀ w' b' cap' k' n', SBQ g u w0 w' a b' cap' (L ++ M.map nI) k' n' → K (some a) w' k' n') : cR g mJ4_append_15ec4 [.ref a, .ref t] w k n K := by
  obtain ⟨g1, g2, g3, g4, g5⟩ := hQ.grow hl
  obtain ⟨h1, h2, h3, h4, h5, h6, h7, -⟩ := id hQ
  exact J4_appendS_ok h7 (by omega) (by omega) (by omega) h5 (ht.sam (h6 t htu) fun c' hc' => by
    rw [hc] at hc'
    cases hc'
    exact h6 c hcu) (by rw [(h6 t htu).2.2.2]; exact hc) (by omega) hM hl g1 g2 fun w' b' hA => h w' b' _ _ _ (hQ.ap hl hA)
theorem SBQ.cn {g : Ge} {u a b cap k n : Nat} {w0 w : Wd} {L : List Int32} (h : SBQ g u w0 w a b cap L k n) (hC : Cn g w0) : Cn g w := hC.kept fun c hc _ => by
  have := h.2.2.2.2.2.1 c (by have := h.1; omega)
  exact ⟨this.1, this.2.1, this.2.2.2⟩
set_option maxRecDepth 100000 in
set_option maxHeartbeats 4000000 in
theorem sb_I {g : Ge} {w w0 : Wd} {k n : Nat} {K : Option Nat → Wd → Nat → Nat → Prop} {u a b cap : Nat} {v : Int32} {L : List Int32} (hC : Cn g w0) (hQ : SBQ g u w0 w a b cap L k n) (h1 : -999999 ≤ v.toInt) (h2 : v.toInt ≤ 999999) (hl : L.length + (numT v).length ≤ 240) (h : ∀ w' b' cap' k' n', SBQ g u w0 w' a b' cap' (L ++ numT v) k' n' → K (some a) w' k' n') : cR g mJ4_append_bf812 [.ref a, .int v] w k n K := by
  obtain ⟨g1, g2, g3, g4, g5⟩ := hQ.grow hl
  have hC1 := hQ.cn hC
  obtain ⟨q1, q2, q3, q4, q5, q6, q7, -⟩ := id hQ
  exact J4_appendI_ok hC1 q7 (by omega) (by omega) (by omega) q5 h1 h2 hl g1 g2 fun w' b' hA => h w' b' _ _ _ (hQ.ap hl hA)
theorem i2c_n : ∀ z, z < 128 → ((nI z).toUInt32 % 65536).toInt32 = nI z := by decide +kernel
theorem Cn.cst {g : Ge} {w : Wd} {o i : Nat} {L : List Nat} (h : Cn g w) (hq : (o, i, L) ∈ txT) : gA g o i < gB g ∧ ∃ c, c < gB g ∧ wP w (gA g o i) 0 = some c := by
  obtain ⟨d1, d2, d3, b, d4, d5, d6, d7⟩ := h.1 _ hq
  exact ⟨d1, b, d4, d5⟩
set_option maxRecDepth 100000 in
set_option maxHeartbeats 4000000 in
theorem X1_spellTo_ok {g : Ge} {w : Wd} {k n : Nat} {K : Wd → Nat → Nat → Prop} {u a b cap d f : Nat} {w0 : Wd} {s : St} {L : List Int32} (hC : Cn g w0) (hQ : SBQ g u w0 w a b cap L 17 960) (hd : d < u) (hO : FldO w0 d s f) (hF : FldW (fun j => s.1 (7 + j) f)) (hl : L.length ≤ 200) (hk : 17 ≤ k) (hn : 960 ≤ n) (h : ∀ w' b' cap', SBQ g u w0 w' a b' cap' (L ++ fldT s f) 17 960 → K w' (k - 17) (n - 960)) : cV g mX1_spellTo [.ref d, .ref a] w k n K := by
  have hlen := fldT_len hF
  obtain ⟨sl, kd, c, nd, td, hs8, hkd, hc, hnd, htd, f0, f1, f2, f3, f4, f5, f6, f7, f8⟩ := id hF
  have g7 : s.1 7 f = nI sl := f0
  have g8 : s.1 8 f = nI kd := f1
  have g9 : s.1 9 f = nI c := f2
  have g10 : s.1 10 f = nI nd := f3
  have g11 : s.1 11 f = nI td := f4
  have fd : ∀ {w1 b1 cap1 L1 k1 n1}, SBQ g u w0 w1 a b1 cap1 L1 k1 n1 → wsh w1 d = (1, 0) ∧ wI w1 d 0 = nI sl ∧ wI w1 d 1 = nI kd ∧ wI w1 d 2 = nI c ∧ wI w1 d 3 = nI nd ∧ wI w1 d 4 = nI td ∧ wI w1 d 5 = s.1 12 f ∧ wsh w1 a = (14, 0) := fun {w1 b1 cap1 L1 k1 n1} hq => by
    have sd := hq.2.2.2.2.2.1 d hd
    rw [sd.1, sd.2.1]
    exact ⟨hO.1, (hO.2 0 (by decide)).trans g7, (hO.2 1 (by decide)).trans g8, (hO.2 2 (by decide)).trans g9, (hO.2 3 (by decide)).trans g10, (hO.2 4 (by decide)).trans g11, hO.2 5 (by decide), hq.2.2.2.2.2.2.1.1⟩
  have hcel : (celT (s.1 9 f)).length ≤ 9 := by
    unfold celT
    have := numT_len (s.1 9 f)
    split
    · exact Nat.zero_le _
    · rw [List.length_cons, List.length_append, List.length_singleton]
      split
      · omega
      · rw [List.length_nil]; omega
  have htld : (tldT (s.1 11 f) (s.1 12 f)).length ≤ 8 := by
    unfold tldT
    have := numT_len (s.1 12 f)
    split
    · rw [List.length_cons]; omega
    · exact Nat.zero_le _
  have e00 : nI 0 = 0 := rfl
  have e11 : nI 1 = 1 := rfl
  refine cV_of 2 17 960 rfl (by decide +kernel) rfl (Nat.le_of_ble_eq_true rfl) hk hn ?_
  have go93 : ∀ {w1 b1 cap1 L1 k1 n1}, SBQ g u w0 w1 a b1 cap1 L1 k1 n1 → L1.length < 240 → (∀ w' b' cap', SBQ g u w0 w' a b' cap' (L1 ++ ndT (s.1 10 f)) 17 960 → K w' (k - 17) (n - 960)) → R g mX1_spellTo (fun r w' => r = none ∧ K w' (k - 17) (n - 960)) 93 [some (.ref d), some (.ref a)] [] w1 k1 n1 := fun {w1 b1 cap1 L1 k1 n1} hq hl1 hh => by
    obtain ⟨x0, x1, x2, x3, x4, x5, x6, xa⟩ := fd hq
    rw [g10] at hh
    unfold ndT at hh
    rcases (show nd = 0 ∨ nd = 1 by omega) with rfl | rfl
    · rw [if_neg (by decide), List.append_nil] at hh
      simp only [vX1_spellTo_93, vX1_spellTo_94, vX1_spellTo_97, vX1_spellTo_107, pI_c, pL_c, pF_c, pD_c, pA_n, pA_c, pA_rf, pR_c, pR_rf, pV_i, pV_a, pV_n, pV_rf, ldI_c, ldL_c, ldF_c, ldD_c, ldA_c, ldA_n, ldA_rf, dup2_l, dup2_ia, dup2_ir, popA_0, popA_s, getL_z, getL_s, setL_z, setL_1, setL_s, setL2_z, setL2_1, setL2_s, drop2_i, drop2_a, drop2_0, drop2_n, drop2_l, drop2_d, drop2_r, cwd_0, cwd_i, cwd_a, cwd_n, cwd_l, cwd_d, cwd_f, cwd_r, rf_s, rf_n, swi_0, swi_s, zR_b0, zR_b1, zN_b0, zN_b1, entV_i, entV_a, entV_n, entV_r, entV_f, entV_l, entV_d, entV_s, entV_0, List.length_cons, List.length_nil, List.nil_append, List.cons_append, true_and, and_true, Nat.reduceAdd, Nat.reduceLT, Nat.reduceEqDiff, Nat.reduceLeDiff, Nat.reduceSub, Nat.zero_add, Classical.not_not, ex_i, ex_l, ex_d, ex_r, ex_rs, ex_rn, ex_sm, Nat.sub_zero, eq_self, wn_sI, wn_sL, wn_sP, wsh_sI, wsh_sL, wsh_sP, wI_sL, wI_sP, wL_sI, wL_sP, wP_sI, wP_sL, wI_sI, wL_sL, Int32.reduceLT, Int32.reduceLE, true_implies, not_true_eq_false, false_implies, not_false_eq_true, i_10, x0, x4, e00]
      exact hh _ _ _ (hq.re (Nat.le_refl _) (Nat.le_refl _))
    · rw [if_pos (by decide)] at hh
      simp only [vX1_spellTo_93, vX1_spellTo_94, vX1_spellTo_97, vX1_spellTo_100, vX1_spellTo_101, vX1_spellTo_103, pI_c, pL_c, pF_c, pD_c, pA_n, pA_c, pA_rf, pR_c, pR_rf, pV_i, pV_a, pV_n, pV_rf, ldI_c, ldL_c, ldF_c, ldD_c, ldA_c, ldA_n, ldA_rf, dup2_l, dup2_ia, dup2_ir, popA_0, popA_s, getL_z, getL_s, setL_z, setL_1, setL_s, setL2_z, setL2_1, setL2_s, drop2_i, drop2_a, drop2_0, drop2_n, drop2_l, drop2_d, drop2_r, cwd_0, cwd_i, cwd_a, cwd_n, cwd_l, cwd_d, cwd_f, cwd_r, rf_s, rf_n, swi_0, swi_s, zR_b0, zR_b1, zN_b0, zN_b1, entV_i, entV_a, entV_n, entV_r, entV_f, entV_l, entV_d, entV_s, entV_0, List.length_cons, List.length_nil, List.nil_append, List.cons_append, true_and, and_true, Nat.reduceAdd, Nat.reduceLT, Nat.reduceEqDiff, Nat.reduceLeDiff, Nat.reduceSub, Nat.zero_add, Classical.not_not, ex_i, ex_l, ex_d, ex_r, ex_rs, ex_rn, ex_sm, Nat.sub_zero, eq_self, wn_sI, wn_sL, wn_sP, wsh_sI, wsh_sL, wsh_sP, wI_sL, wI_sP, wL_sI, wL_sP, wP_sI, wP_sL, wI_sI, wL_sL, Int32.reduceLT, Int32.reduceLE, true_implies, not_true_eq_false, false_implies, not_false_eq_true, i_10, x0, x4, xa, e11, i_10]
      refine sb_C (c := 33) hq hl1 (by decide) fun w' b' cap' k' n' hq' => ?_
      simp only [vX1_spellTo_106, vX1_spellTo_107, pI_c, pL_c, pF_c, pD_c, pA_n, pA_c, pA_rf, pR_c, pR_rf, pV_i, pV_a, pV_n, pV_rf, ldI_c, ldL_c, ldF_c, ldD_c, ldA_c, ldA_n, ldA_rf, dup2_l, dup2_ia, dup2_ir, popA_0, popA_s, getL_z, getL_s, setL_z, setL_1, setL_s, setL2_z, setL2_1, setL2_s, drop2_i, drop2_a, drop2_0, drop2_n, drop2_l, drop2_d, drop2_r, cwd_0, cwd_i, cwd_a, cwd_n, cwd_l, cwd_d, cwd_f, cwd_r, rf_s, rf_n, swi_0, swi_s, zR_b0, zR_b1, zN_b0, zN_b1, entV_i, entV_a, entV_n, entV_r, entV_f, entV_l, entV_d, entV_s, entV_0, List.length_cons, List.length_nil, List.nil_append, List.cons_append, true_and, and_true, Nat.reduceAdd, Nat.reduceLT, Nat.reduceEqDiff, Nat.reduceLeDiff, Nat.reduceSub, Nat.zero_add, Classical.not_not, ex_i, ex_l, ex_d, ex_r, ex_rs, ex_rn, ex_sm, Nat.sub_zero, eq_self, wn_sI, wn_sL, wn_sP, wsh_sI, wsh_sL, wsh_sP, wI_sL, wI_sP, wL_sI, wL_sP, wP_sI, wP_sL, wI_sI, wL_sL, Int32.reduceLT, Int32.reduceLE, true_implies, not_true_eq_false, false_implies, not_false_eq_true, i_10]
      exact hh _ _ _ (hq'.re (Nat.le_refl _) (Nat.le_refl _))
  have go72 : ∀ {w1 b1 cap1 L1 k1 n1}, SBQ g u w0 w1 a b1 cap1 L1 k1 n1 → L1.length ≤ 230 → (∀ w' b' cap', SBQ g u w0 w' a b' cap' (L1 ++ (tldT (s.1 11 f) (s.1 12 f) ++ ndT (s.1 10 f))) 17 960 → K w' (k - 17) (n - 960)) → R g mX1_spellTo (fun r w' => r = none ∧ K w' (k - 17) (n - 960)) 72 [some (.ref d), some (.ref a)] [] w1 k1 n1 := fun {w1 b1 cap1 L1 k1 n1} hq hl1 hh => by
    obtain ⟨x0, x1, x2, x3, x4, x5, x6, xa⟩ := fd hq
    rw [g11] at hh htld
    unfold tldT at hh htld
    rcases (show td = 0 ∨ td = 1 by omega) with rfl | rfl
    · rw [if_neg (by decide), List.nil_append] at hh
      simp only [vX1_spellTo_72, vX1_spellTo_73, vX1_spellTo_76, pI_c, pL_c, pF_c, pD_c, pA_n, pA_c, pA_rf, pR_c, pR_rf, pV_i, pV_a, pV_n, pV_rf, ldI_c, ldL_c, ldF_c, ldD_c, ldA_c, ldA_n, ldA_rf, dup2_l, dup2_ia, dup2_ir, popA_0, popA_s, getL_z, getL_s, setL_z, setL_1, setL_s, setL2_z, setL2_1, setL2_s, drop2_i, drop2_a, drop2_0, drop2_n, drop2_l, drop2_d, drop2_r, cwd_0, cwd_i, cwd_a, cwd_n, cwd_l, cwd_d, cwd_f, cwd_r, rf_s, rf_n, swi_0, swi_s, zR_b0, zR_b1, zN_b0, zN_b1, entV_i, entV_a, entV_n, entV_r, entV_f, entV_l, entV_d, entV_s, entV_0, List.length_cons, List.length_nil, List.nil_append, List.cons_append, true_and, and_true, Nat.reduceAdd, Nat.reduceLT, Nat.reduceEqDiff, Nat.reduceLeDiff, Nat.reduceSub, Nat.zero_add, Classical.not_not, ex_i, ex_l, ex_d, ex_r, ex_rs, ex_rn, ex_sm, Nat.sub_zero, eq_self, wn_sI, wn_sL, wn_sP, wsh_sI, wsh_sL, wsh_sP, wI_sL, wI_sP, wL_sI, wL_sP, wP_sI, wP_sL, wI_sI, wL_sL, Int32.reduceLT, Int32.reduceLE, true_implies, not_true_eq_false, false_implies, not_false_eq_true, i_10, x0, x5, e00]
      exact go93 hq (by omega) hh
    · rw [if_pos (by decide)] at hh htld
      rw [List.length_cons] at htld
      simp only [vX1_spellTo_72, vX1_spellTo_73, vX1_spellTo_76, vX1_spellTo_79, vX1_spellTo_80, vX1_spellTo_82, pI_c, pL_c, pF_c, pD_c, pA_n, pA_c, pA_rf, pR_c, pR_rf, pV_i, pV_a, pV_n, pV_rf, ldI_c, ldL_c, ldF_c, ldD_c, ldA_c, ldA_n, ldA_rf, dup2_l, dup2_ia, dup2_ir, popA_0, popA_s, getL_z, getL_s, setL_z, setL_1, setL_s, setL2_z, setL2_1, setL2_s, drop2_i, drop2_a, drop2_0, drop2_n, drop2_l, drop2_d, drop2_r, cwd_0, cwd_i, cwd_a, cwd_n, cwd_l, cwd_d, cwd_f, cwd_r, rf_s, rf_n, swi_0, swi_s, zR_b0, zR_b1, zN_b0, zN_b1, entV_i, entV_a, entV_n, entV_r, entV_f, entV_l, entV_d, entV_s, entV_0, List.length_cons, List.length_nil, List.nil_append, List.cons_append, true_and, and_true, Nat.reduceAdd, Nat.reduceLT, Nat.reduceEqDiff, Nat.reduceLeDiff, Nat.reduceSub, Nat.zero_add, Classical.not_not, ex_i, ex_l, ex_d, ex_r, ex_rs, ex_rn, ex_sm, Nat.sub_zero, eq_self, wn_sI, wn_sL, wn_sP, wsh_sI, wsh_sL, wsh_sP, wI_sL, wI_sP, wL_sI, wL_sP, wP_sI, wP_sL, wI_sI, wL_sL, Int32.reduceLT, Int32.reduceLE, true_implies, not_true_eq_false, false_implies, not_false_eq_true, i_10, x0, x5, xa, e11, i_10]
      refine sb_C (c := 61) hq (by omega) (by decide) fun w2 b2 cap2 k2 n2 hq2 => ?_
      obtain ⟨y0, y1, y2, y3, y4, y5, y6, ya⟩ := fd hq2
      simp only [vX1_spellTo_85, vX1_spellTo_86, vX1_spellTo_89, pI_c, pL_c, pF_c, pD_c, pA_n, pA_c, pA_rf, pR_c, pR_rf, pV_i, pV_a, pV_n, pV_rf, ldI_c, ldL_c, ldF_c, ldD_c, ldA_c, ldA_n, ldA_rf, dup2_l, dup2_ia, dup2_ir, popA_0, popA_s, getL_z, getL_s, setL_z, setL_1, setL_s, setL2_z, setL2_1, setL2_s, drop2_i, drop2_a, drop2_0, drop2_n, drop2_l, drop2_d, drop2_r, cwd_0, cwd_i, cwd_a, cwd_n, cwd_l, cwd_d, cwd_f, cwd_r, rf_s, rf_n, swi_0, swi_s, zR_b0, zR_b1, zN_b0, zN_b1, entV_i, entV_a, entV_n, entV_r, entV_f, entV_l, entV_d, entV_s, entV_0, List.length_cons, List.length_nil, List.nil_append, List.cons_append, true_and, and_true, Nat.reduceAdd, Nat.reduceLT, Nat.reduceEqDiff, Nat.reduceLeDiff, Nat.reduceSub, Nat.zero_add, Classical.not_not, ex_i, ex_l, ex_d, ex_r, ex_rs, ex_rn, ex_sm, Nat.sub_zero, eq_self, wn_sI, wn_sL, wn_sP, wsh_sI, wsh_sL, wsh_sP, wI_sL, wI_sP, wL_sI, wL_sP, wP_sI, wP_sL, wI_sI, wL_sL, Int32.reduceLT, Int32.reduceLE, true_implies, not_true_eq_false, false_implies, not_false_eq_true, i_10, y0, y6, ya]
      refine sb_I hC hq2 f7 f8 (by rw [List.length_append, List.length_singleton]; omega) fun w3 b3 cap3 k3 n3 hq3 => ?_
      simp only [vX1_spellTo_92, pI_c, pL_c, pF_c, pD_c, pA_n, pA_c, pA_rf, pR_c, pR_rf, pV_i, pV_a, pV_n, pV_rf, ldI_c, ldL_c, ldF_c, ldD_c, ldA_c, ldA_n, ldA_rf, dup2_l, dup2_ia, dup2_ir, popA_0, popA_s, getL_z, getL_s, setL_z, setL_1, setL_s, setL2_z, setL2_1, setL2_s, drop2_i, drop2_a, drop2_0, drop2_n, drop2_l, drop2_d, drop2_r, cwd_0, cwd_i, cwd_a, cwd_n, cwd_l, cwd_d, cwd_f, cwd_r, rf_s, rf_n, swi_0, swi_s, zR_b0, zR_b1, zN_b0, zN_b1, entV_i, entV_a, entV_n, entV_r, entV_f, entV_l, entV_d, entV_s, entV_0, List.length_cons, List.length_nil, List.nil_append, List.cons_append, true_and, and_true, Nat.reduceAdd, Nat.reduceLT, Nat.reduceEqDiff, Nat.reduceLeDiff, Nat.reduceSub, Nat.zero_add, Classical.not_not, ex_i, ex_l, ex_d, ex_r, ex_rs, ex_rn, ex_sm, Nat.sub_zero, eq_self, wn_sI, wn_sL, wn_sP, wsh_sI, wsh_sL, wsh_sP, wI_sL, wI_sP, wL_sI, wL_sP, wP_sI, wP_sL, wI_sI, wL_sL, Int32.reduceLT, Int32.reduceLE, true_implies, not_true_eq_false, false_implies, not_false_eq_true, i_10]
      refine go93 hq3 (by rw [List.length_append, List.length_append, List.length_singleton]; omega) fun w' b' cap' hq' => hh w' b' cap' ?_
      rw [List.append_assoc, List.append_assoc] at hq'
      exact hq'
  have go28 : ∀ {w1 b1 cap1 L1 k1 n1}, SBQ g u w0 w1 a b1 cap1 L1 k1 n1 → L1.length ≤ 220 → (∀ w' b' cap', SBQ g u w0 w' a b' cap' (L1 ++ (celT (s.1 9 f) ++ (tldT (s.1 11 f) (s.1 12 f) ++ ndT (s.1 10 f)))) 17 960 → K w' (k - 17) (n - 960)) → R g mX1_spellTo (fun r w' => r = none ∧ K w' (k - 17) (n - 960)) 28 [some (.ref d), some (.ref a)] [] w1 k1 n1 := fun {w1 b1 cap1 L1 k1 n1} hq hl1 hh => by
    obtain ⟨x0, x1, x2, x3, x4, x5, x6, xa⟩ := fd hq
    have fin : ∀ {w2 b2 cap2 k2 n2}, SBQ g u w0 w2 a b2 cap2 (L1 ++ celT (s.1 9 f)) k2 n2 → R g mX1_spellTo (fun r w' => r = none ∧ K w' (k - 17) (n - 960)) 72 [some (.ref d), some (.ref a)] [] w2 k2 n2 := fun {w2 b2 cap2 k2 n2} hq2 => go72 hq2 (by rw [List.length_append]; omega) fun w' b' cap' hq' => hh w' b' cap' (by
      rw [List.append_assoc] at hq'
      exact hq')
    rw [g9] at fin hcel
    unfold celT at fin hcel
    by_cases q0 : c = 0
    · subst q0
      obtain ⟨t1, tc, t2, t3⟩ := hC.cst (show (1, 57, [91, 93]) ∈ txT by decide)
      rw [if_neg (by decide), if_neg (by decide)] at fin
      simp only [vX1_spellTo_28, vX1_spellTo_29, vX1_spellTo_32, vX1_spellTo_35, vX1_spellTo_36, vX1_spellTo_38, pI_c, pL_c, pF_c, pD_c, pA_n, pA_c, pA_rf, pR_c, pR_rf, pV_i, pV_a, pV_n, pV_rf, ldI_c, ldL_c, ldF_c, ldD_c, ldA_c, ldA_n, ldA_rf, dup2_l, dup2_ia, dup2_ir, popA_0, popA_s, getL_z, getL_s, setL_z, setL_1, setL_s, setL2_z, setL2_1, setL2_s, drop2_i, drop2_a, drop2_0, drop2_n, drop2_l, drop2_d, drop2_r, cwd_0, cwd_i, cwd_a, cwd_n, cwd_l, cwd_d, cwd_f, cwd_r, rf_s, rf_n, swi_0, swi_s, zR_b0, zR_b1, zN_b0, zN_b1, entV_i, entV_a, entV_n, entV_r, entV_f, entV_l, entV_d, entV_s, entV_0, List.length_cons, List.length_nil, List.nil_append, List.cons_append, true_and, and_true, Nat.reduceAdd, Nat.reduceLT, Nat.reduceEqDiff, Nat.reduceLeDiff, Nat.reduceSub, Nat.zero_add, Classical.not_not, ex_i, ex_l, ex_d, ex_r, ex_rs, ex_rn, ex_sm, Nat.sub_zero, eq_self, wn_sI, wn_sL, wn_sP, wsh_sI, wsh_sL, wsh_sP, wI_sL, wI_sP, wL_sI, wL_sP, wP_sI, wP_sL, wI_sI, wL_sL, Int32.reduceLT, Int32.reduceLE, true_implies, not_true_eq_false, false_implies, not_false_eq_true, i_10, x0, x3, xa, e00]
      have hgu := hQ.1
      refine sb_S hq (hC.txt (show (1, 57, [91, 93]) ∈ txT by decide)) (by omega) t3 (by omega) (by decide) (by show L1.length + 2 ≤ 240; omega) fun w2 b2 cap2 k2 n2 hq2 => ?_
      simp only [vX1_spellTo_41, vX1_spellTo_42, pI_c, pL_c, pF_c, pD_c, pA_n, pA_c, pA_rf, pR_c, pR_rf, pV_i, pV_a, pV_n, pV_rf, ldI_c, ldL_c, ldF_c, ldD_c, ldA_c, ldA_n, ldA_rf, dup2_l, dup2_ia, dup2_ir, popA_0, popA_s, getL_z, getL_s, setL_z, setL_1, setL_s, setL2_z, setL2_1, setL2_s, drop2_i, drop2_a, drop2_0, drop2_n, drop2_l, drop2_d, drop2_r, cwd_0, cwd_i, cwd_a, cwd_n, cwd_l, cwd_d, cwd_f, cwd_r, rf_s, rf_n, swi_0, swi_s, zR_b0, zR_b1, zN_b0, zN_b1, entV_i, entV_a, entV_n, entV_r, entV_f, entV_l, entV_d, entV_s, entV_0, List.length_cons, List.length_nil, List.nil_append, List.cons_append, true_and, and_true, Nat.reduceAdd, Nat.reduceLT, Nat.reduceEqDiff, Nat.reduceLeDiff, Nat.reduceSub, Nat.zero_add, Classical.not_not, ex_i, ex_l, ex_d, ex_r, ex_rs, ex_rn, ex_sm, Nat.sub_zero, eq_self, wn_sI, wn_sL, wn_sP, wsh_sI, wsh_sL, wsh_sP, wI_sL, wI_sP, wL_sI, wL_sP, wP_sI, wP_sL, wI_sI, wL_sL, Int32.reduceLT, Int32.reduceLE, true_implies, not_true_eq_false, false_implies, not_false_eq_true, i_10]
      exact fin hq2
    · have m0 : ¬ nI c = 0 := fun z => q0 (nI_inj (by omega) (by decide) (z.trans e00.symm))
      by_cases q1 : c = 1
      · subst q1
        rw [if_pos (by decide)] at fin
        have m1 : nI 1 ≤ 1 := by decide
        simp only [vX1_spellTo_28, vX1_spellTo_29, vX1_spellTo_32, vX1_spellTo_45, vX1_spellTo_46, vX1_spellTo_49, vX1_spellTo_50, pI_c, pL_c, pF_c, pD_c, pA_n, pA_c, pA_rf, pR_c, pR_rf, pV_i, pV_a, pV_n, pV_rf, ldI_c, ldL_c, ldF_c, ldD_c, ldA_c, ldA_n, ldA_rf, dup2_l, dup2_ia, dup2_ir, popA_0, popA_s, getL_z, getL_s, setL_z, setL_1, setL_s, setL2_z, setL2_1, setL2_s, drop2_i, drop2_a, drop2_0, drop2_n, drop2_l, drop2_d, drop2_r, cwd_0, cwd_i, cwd_a, cwd_n, cwd_l, cwd_d, cwd_f, cwd_r, rf_s, rf_n, swi_0, swi_s, zR_b0, zR_b1, zN_b0, zN_b1, entV_i, entV_a, entV_n, entV_r, entV_f, entV_l, entV_d, entV_s, entV_0, List.length_cons, List.length_nil, List.nil_append, List.cons_append, true_and, and_true, Nat.reduceAdd, Nat.reduceLT, Nat.reduceEqDiff, Nat.reduceLeDiff, Nat.reduceSub, Nat.zero_add, Classical.not_not, ex_i, ex_l, ex_d, ex_r, ex_rs, ex_rn, ex_sm, Nat.sub_zero, eq_self, wn_sI, wn_sL, wn_sP, wsh_sI, wsh_sL, wsh_sP, wI_sL, wI_sP, wL_sI, wL_sP, wP_sI, wP_sL, wI_sI, wL_sL, Int32.reduceLT, Int32.reduceLE, true_implies, not_true_eq_false, false_implies, not_false_eq_true, i_10, x0, x3, m0, m1]
        simp only [List.append_nil] at fin
        exact fin hq
      · have m1 : ¬ nI c ≤ 1 := by rw [ni_lit 1, ni_le (by omega) (by decide)]; omega
        have m2 : ¬ nI c = 1 := fun z => q1 (nI_inj (by omega) (by decide) (z.trans e11.symm))
        have m3 : 0 < nI c := by rw [ni_lit 0, ni_lt (by decide) (by omega)]; omega
        rw [if_neg m2, if_pos m3] at fin hcel
        rw [List.length_cons, List.length_append, List.length_singleton] at hcel
        simp only [vX1_spellTo_28, vX1_spellTo_29, vX1_spellTo_32, vX1_spellTo_45, vX1_spellTo_46, vX1_spellTo_49, vX1_spellTo_50, vX1_spellTo_53, vX1_spellTo_54, vX1_spellTo_56, pI_c, pL_c, pF_c, pD_c, pA_n, pA_c, pA_rf, pR_c, pR_rf, pV_i, pV_a, pV_n, pV_rf, ldI_c, ldL_c, ldF_c, ldD_c, ldA_c, ldA_n, ldA_rf, dup2_l, dup2_ia, dup2_ir, popA_0, popA_s, getL_z, getL_s, setL_z, setL_1, setL_s, setL2_z, setL2_1, setL2_s, drop2_i, drop2_a, drop2_0, drop2_n, drop2_l, drop2_d, drop2_r, cwd_0, cwd_i, cwd_a, cwd_n, cwd_l, cwd_d, cwd_f, cwd_r, rf_s, rf_n, swi_0, swi_s, zR_b0, zR_b1, zN_b0, zN_b1, entV_i, entV_a, entV_n, entV_r, entV_f, entV_l, entV_d, entV_s, entV_0, List.length_cons, List.length_nil, List.nil_append, List.cons_append, true_and, and_true, Nat.reduceAdd, Nat.reduceLT, Nat.reduceEqDiff, Nat.reduceLeDiff, Nat.reduceSub, Nat.zero_add, Classical.not_not, ex_i, ex_l, ex_d, ex_r, ex_rs, ex_rn, ex_sm, Nat.sub_zero, eq_self, wn_sI, wn_sL, wn_sP, wsh_sI, wsh_sL, wsh_sP, wI_sL, wI_sP, wL_sI, wL_sP, wP_sI, wP_sL, wI_sI, wL_sL, Int32.reduceLT, Int32.reduceLE, true_implies, not_true_eq_false, false_implies, not_false_eq_true, i_10, x0, x3, xa, m0, m1]
        refine sb_C (c := 91) hq (by omega) (by decide) fun w2 b2 cap2 k2 n2 hq2 => ?_
        obtain ⟨y0, y1, y2, y3, y4, y5, y6, ya⟩ := fd hq2
        simp only [vX1_spellTo_59, vX1_spellTo_60, vX1_spellTo_63, pI_c, pL_c, pF_c, pD_c, pA_n, pA_c, pA_rf, pR_c, pR_rf, pV_i, pV_a, pV_n, pV_rf, ldI_c, ldL_c, ldF_c, ldD_c, ldA_c, ldA_n, ldA_rf, dup2_l, dup2_ia, dup2_ir, popA_0, popA_s, getL_z, getL_s, setL_z, setL_1, setL_s, setL2_z, setL2_1, setL2_s, drop2_i, drop2_a, drop2_0, drop2_n, drop2_l, drop2_d, drop2_r, cwd_0, cwd_i, cwd_a, cwd_n, cwd_l, cwd_d, cwd_f, cwd_r, rf_s, rf_n, swi_0, swi_s, zR_b0, zR_b1, zN_b0, zN_b1, entV_i, entV_a, entV_n, entV_r, entV_f, entV_l, entV_d, entV_s, entV_0, List.length_cons, List.length_nil, List.nil_append, List.cons_append, true_and, and_true, Nat.reduceAdd, Nat.reduceLT, Nat.reduceEqDiff, Nat.reduceLeDiff, Nat.reduceSub, Nat.zero_add, Classical.not_not, ex_i, ex_l, ex_d, ex_r, ex_rs, ex_rn, ex_sm, Nat.sub_zero, eq_self, wn_sI, wn_sL, wn_sP, wsh_sI, wsh_sL, wsh_sP, wI_sL, wI_sP, wL_sI, wL_sP, wP_sI, wP_sL, wI_sI, wL_sL, Int32.reduceLT, Int32.reduceLE, true_implies, not_true_eq_false, false_implies, not_false_eq_true, i_10, y0, y3, ya]
        refine sb_I hC hq2 (by rw [ni_ti (by omega)]; omega) (by rw [ni_ti (by omega)]; omega) (by rw [List.length_append, List.length_singleton]; omega) fun w3 b3 cap3 k3 n3 hq3 => ?_
        obtain ⟨z0, z1, z2, z3, z4, z5, z6, za⟩ := fd hq3
        simp only [vX1_spellTo_66, vX1_spellTo_68, pI_c, pL_c, pF_c, pD_c, pA_n, pA_c, pA_rf, pR_c, pR_rf, pV_i, pV_a, pV_n, pV_rf, ldI_c, ldL_c, ldF_c, ldD_c, ldA_c, ldA_n, ldA_rf, dup2_l, dup2_ia, dup2_ir, popA_0, popA_s, getL_z, getL_s, setL_z, setL_1, setL_s, setL2_z, setL2_1, setL2_s, drop2_i, drop2_a, drop2_0, drop2_n, drop2_l, drop2_d, drop2_r, cwd_0, cwd_i, cwd_a, cwd_n, cwd_l, cwd_d, cwd_f, cwd_r, rf_s, rf_n, swi_0, swi_s, zR_b0, zR_b1, zN_b0, zN_b1, entV_i, entV_a, entV_n, entV_r, entV_f, entV_l, entV_d, entV_s, entV_0, List.length_cons, List.length_nil, List.nil_append, List.cons_append, true_and, and_true, Nat.reduceAdd, Nat.reduceLT, Nat.reduceEqDiff, Nat.reduceLeDiff, Nat.reduceSub, Nat.zero_add, Classical.not_not, ex_i, ex_l, ex_d, ex_r, ex_rs, ex_rn, ex_sm, Nat.sub_zero, eq_self, wn_sI, wn_sL, wn_sP, wsh_sI, wsh_sL, wsh_sP, wI_sL, wI_sP, wL_sI, wL_sP, wP_sI, wP_sL, wI_sI, wL_sL, Int32.reduceLT, Int32.reduceLE, true_implies, not_true_eq_false, false_implies, not_false_eq_true, i_10, za]
        refine sb_C (c := 93) hq3 (by rw [List.length_append, List.length_append, List.length_singleton]; omega) (by decide) fun w4 b4 cap4 k4 n4 hq4 => ?_
        simp only [vX1_spellTo_71, pI_c, pL_c, pF_c, pD_c, pA_n, pA_c, pA_rf, pR_c, pR_rf, pV_i, pV_a, pV_n, pV_rf, ldI_c, ldL_c, ldF_c, ldD_c, ldA_c, ldA_n, ldA_rf, dup2_l, dup2_ia, dup2_ir, popA_0, popA_s, getL_z, getL_s, setL_z, setL_1, setL_s, setL2_z, setL2_1, setL2_s, drop2_i, drop2_a, drop2_0, drop2_n, drop2_l, drop2_d, drop2_r, cwd_0, cwd_i, cwd_a, cwd_n, cwd_l, cwd_d, cwd_f, cwd_r, rf_s, rf_n, swi_0, swi_s, zR_b0, zR_b1, zN_b0, zN_b1, entV_i, entV_a, entV_n, entV_r, entV_f, entV_l, entV_d, entV_s, entV_0, List.length_cons, List.length_nil, List.nil_append, List.cons_append, true_and, and_true, Nat.reduceAdd, Nat.reduceLT, Nat.reduceEqDiff, Nat.reduceLeDiff, Nat.reduceSub, Nat.zero_add, Classical.not_not, ex_i, ex_l, ex_d, ex_r, ex_rs, ex_rn, ex_sm, Nat.sub_zero, eq_self, wn_sI, wn_sL, wn_sP, wsh_sI, wsh_sL, wsh_sP, wI_sL, wI_sP, wL_sI, wL_sP, wP_sI, wP_sL, wI_sI, wL_sL, Int32.reduceLT, Int32.reduceLE, true_implies, not_true_eq_false, false_implies, not_false_eq_true, i_10]
        rw [List.append_assoc, List.append_assoc] at hq4
        exact fin hq4
  obtain ⟨x0, x1, x2, x3, x4, x5, x6, xa⟩ := fd hQ
  have e97 : (97 : Int32) + nI sl = nI (97 + sl) := ni_add 97 sl
  simp only [vX1_spellTo_0, vX1_spellTo_1, vX1_spellTo_3, vX1_spellTo_4, vX1_spellTo_7, vX1_spellTo_8, vX1_spellTo_9, pI_c, pL_c, pF_c, pD_c, pA_n, pA_c, pA_rf, pR_c, pR_rf, pV_i, pV_a, pV_n, pV_rf, ldI_c, ldL_c, ldF_c, ldD_c, ldA_c, ldA_n, ldA_rf, dup2_l, dup2_ia, dup2_ir, popA_0, popA_s, getL_z, getL_s, setL_z, setL_1, setL_s, setL2_z, setL2_1, setL2_s, drop2_i, drop2_a, drop2_0, drop2_n, drop2_l, drop2_d, drop2_r, cwd_0, cwd_i, cwd_a, cwd_n, cwd_l, cwd_d, cwd_f, cwd_r, rf_s, rf_n, swi_0, swi_s, zR_b0, zR_b1, zN_b0, zN_b1, entV_i, entV_a, entV_n, entV_r, entV_f, entV_l, entV_d, entV_s, entV_0, List.length_cons, List.length_nil, List.nil_append, List.cons_append, true_and, and_true, Nat.reduceAdd, Nat.reduceLT, Nat.reduceEqDiff, Nat.reduceLeDiff, Nat.reduceSub, Nat.zero_add, Classical.not_not, ex_i, ex_l, ex_d, ex_r, ex_rs, ex_rn, ex_sm, Nat.sub_zero, eq_self, wn_sI, wn_sL, wn_sP, wsh_sI, wsh_sL, wsh_sP, wI_sL, wI_sP, wL_sI, wL_sP, wP_sI, wP_sL, wI_sI, wL_sL, Int32.reduceLT, Int32.reduceLE, true_implies, not_true_eq_false, false_implies, not_false_eq_true, i_10, x0, x1, xa, e97, i2c_n (97 + sl) (by omega)]
  refine sb_C hQ (by omega) (by omega) fun w1 b1 cap1 k1 n1 hq1 => ?_
  obtain ⟨y0, y1, y2, y3, y4, y5, y6, ya⟩ := fd hq1
  simp only [vX1_spellTo_12, vX1_spellTo_14, pI_c, pL_c, pF_c, pD_c, pA_n, pA_c, pA_rf, pR_c, pR_rf, pV_i, pV_a, pV_n, pV_rf, ldI_c, ldL_c, ldF_c, ldD_c, ldA_c, ldA_n, ldA_rf, dup2_l, dup2_ia, dup2_ir, popA_0, popA_s, getL_z, getL_s, setL_z, setL_1, setL_s, setL2_z, setL2_1, setL2_s, drop2_i, drop2_a, drop2_0, drop2_n, drop2_l, drop2_d, drop2_r, cwd_0, cwd_i, cwd_a, cwd_n, cwd_l, cwd_d, cwd_f, cwd_r, rf_s, rf_n, swi_0, swi_s, zR_b0, zR_b1, zN_b0, zN_b1, entV_i, entV_a, entV_n, entV_r, entV_f, entV_l, entV_d, entV_s, entV_0, List.length_cons, List.length_nil, List.nil_append, List.cons_append, true_and, and_true, Nat.reduceAdd, Nat.reduceLT, Nat.reduceEqDiff, Nat.reduceLeDiff, Nat.reduceSub, Nat.zero_add, Classical.not_not, ex_i, ex_l, ex_d, ex_r, ex_rs, ex_rn, ex_sm, Nat.sub_zero, eq_self, wn_sI, wn_sL, wn_sP, wsh_sI, wsh_sL, wsh_sP, wI_sL, wI_sP, wL_sI, wL_sP, wP_sI, wP_sL, wI_sI, wL_sL, Int32.reduceLT, Int32.reduceLE, true_implies, not_true_eq_false, false_implies, not_false_eq_true, i_10, ya]
  refine sb_C (c := 58) hq1 (by rw [List.length_append, List.length_singleton]; omega) (by decide) fun w2 b2 cap2 k2 n2 hq2 => ?_
  obtain ⟨z0, z1, z2, z3, z4, z5, z6, za⟩ := fd hq2
  simp only [vX1_spellTo_17, vX1_spellTo_18, vX1_spellTo_21, pI_c, pL_c, pF_c, pD_c, pA_n, pA_c, pA_rf, pR_c, pR_rf, pV_i, pV_a, pV_n, pV_rf, ldI_c, ldL_c, ldF_c, ldD_c, ldA_c, ldA_n, ldA_rf, dup2_l, dup2_ia, dup2_ir, popA_0, popA_s, getL_z, getL_s, setL_z, setL_1, setL_s, setL2_z, setL2_1, setL2_s, drop2_i, drop2_a, drop2_0, drop2_n, drop2_l, drop2_d, drop2_r, cwd_0, cwd_i, cwd_a, cwd_n, cwd_l, cwd_d, cwd_f, cwd_r, rf_s, rf_n, swi_0, swi_s, zR_b0, zR_b1, zN_b0, zN_b1, entV_i, entV_a, entV_n, entV_r, entV_f, entV_l, entV_d, entV_s, entV_0, List.length_cons, List.length_nil, List.nil_append, List.cons_append, true_and, and_true, Nat.reduceAdd, Nat.reduceLT, Nat.reduceEqDiff, Nat.reduceLeDiff, Nat.reduceSub, Nat.zero_add, Classical.not_not, ex_i, ex_l, ex_d, ex_r, ex_rs, ex_rn, ex_sm, Nat.sub_zero, eq_self, wn_sI, wn_sL, wn_sP, wsh_sI, wsh_sL, wsh_sP, wI_sL, wI_sP, wL_sI, wL_sP, wP_sI, wP_sL, wI_sI, wL_sL, Int32.reduceLT, Int32.reduceLE, true_implies, not_true_eq_false, false_implies, not_false_eq_true, i_10, z0, z2]
  refine X10_word_ok hkd ?_
  simp only [vX1_spellTo_24, pI_c, pL_c, pF_c, pD_c, pA_n, pA_c, pA_rf, pR_c, pR_rf, pV_i, pV_a, pV_n, pV_rf, ldI_c, ldL_c, ldF_c, ldD_c, ldA_c, ldA_n, ldA_rf, dup2_l, dup2_ia, dup2_ir, popA_0, popA_s, getL_z, getL_s, setL_z, setL_1, setL_s, setL2_z, setL2_1, setL2_s, drop2_i, drop2_a, drop2_0, drop2_n, drop2_l, drop2_d, drop2_r, cwd_0, cwd_i, cwd_a, cwd_n, cwd_l, cwd_d, cwd_f, cwd_r, rf_s, rf_n, swi_0, swi_s, zR_b0, zR_b1, zN_b0, zN_b1, entV_i, entV_a, entV_n, entV_r, entV_f, entV_l, entV_d, entV_s, entV_0, List.length_cons, List.length_nil, List.nil_append, List.cons_append, true_and, and_true, Nat.reduceAdd, Nat.reduceLT, Nat.reduceEqDiff, Nat.reduceLeDiff, Nat.reduceSub, Nat.zero_add, Classical.not_not, ex_i, ex_l, ex_d, ex_r, ex_rs, ex_rn, ex_sm, Nat.sub_zero, eq_self, wn_sI, wn_sL, wn_sP, wsh_sI, wsh_sL, wsh_sP, wI_sL, wI_sP, wL_sI, wL_sP, wP_sI, wP_sL, wI_sI, wL_sL, Int32.reduceLT, Int32.reduceLE, true_implies, not_true_eq_false, false_implies, not_false_eq_true, i_10, za]
  obtain ⟨t1, tc, t2, t3⟩ := hC.cst (wiy_in kd hkd)
  have hgu := hQ.1
  have hw6 := wrd_len kd hkd
  refine sb_S hq2 (hC.w10 hkd) (by omega) t3 (by omega) (fun i hi => by have := wrd_ch kd hkd i hi; omega) (by rw [List.length_append, List.length_append, List.length_singleton, List.length_singleton]; omega) fun w3 b3 cap3 k3 n3 hq3 => ?_
  simp only [vX1_spellTo_27, pI_c, pL_c, pF_c, pD_c, pA_n, pA_c, pA_rf, pR_c, pR_rf, pV_i, pV_a, pV_n, pV_rf, ldI_c, ldL_c, ldF_c, ldD_c, ldA_c, ldA_n, ldA_rf, dup2_l, dup2_ia, dup2_ir, popA_0, popA_s, getL_z, getL_s, setL_z, setL_1, setL_s, setL2_z, setL2_1, setL2_s, drop2_i, drop2_a, drop2_0, drop2_n, drop2_l, drop2_d, drop2_r, cwd_0, cwd_i, cwd_a, cwd_n, cwd_l, cwd_d, cwd_f, cwd_r, rf_s, rf_n, swi_0, swi_s, zR_b0, zR_b1, zN_b0, zN_b1, entV_i, entV_a, entV_n, entV_r, entV_f, entV_l, entV_d, entV_s, entV_0, List.length_cons, List.length_nil, List.nil_append, List.cons_append, true_and, and_true, Nat.reduceAdd, Nat.reduceLT, Nat.reduceEqDiff, Nat.reduceLeDiff, Nat.reduceSub, Nat.zero_add, Classical.not_not, ex_i, ex_l, ex_d, ex_r, ex_rs, ex_rn, ex_sm, Nat.sub_zero, eq_self, wn_sI, wn_sL, wn_sP, wsh_sI, wsh_sL, wsh_sP, wI_sL, wI_sP, wL_sI, wL_sP, wP_sI, wP_sL, wI_sI, wL_sL, Int32.reduceLT, Int32.reduceLE, true_implies, not_true_eq_false, false_implies, not_false_eq_true, i_10]
  refine go28 hq3 (by rw [List.length_append, List.length_append, List.length_append, List.length_singleton, List.length_singleton, List.length_map]; omega) fun w' b' cap' hq' => h w' b' cap' ?_
  unfold fldT
  rw [g7, g8, ni_cl (show kd < 2147483648 by omega), e97]
  rw [List.append_assoc, List.append_assoc, List.append_assoc] at hq'
  exact hq'
