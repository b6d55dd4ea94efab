/-! the reference: load -/
/-- a state's frame at a place -/
def frmAt (s : St) (q : Nat) : Rs (Nat × Nat × List (Option (List (Int32 × Int64))) × Nat) := rdFrm (fun i => (s.1 13 i).toNatClampNeg) (s.1 0 13).toNatClampNeg (s.1 6) (fun v j k => s.1 (7 + j) (8 * v + k)) q
def tkAt (s : St) (vw : Nat) (L : List (Option (List (Int32 × Int64)))) (v : Nat) : Sum (Nat × Nat × Int32) (List (Option (List (Int32 × Int64)))) := tk (fun j k => s.1 (7 + j) (8 * vw + k)) (s.1 6 vw).toNatClampNeg L (s.1 0 5) (fun j k => s.1 (7 + j) (8 * v + k)) (s.1 6 v).toNatClampNeg 0
/-- the slots of a version's fields hold what D brings -/
def Tkn (s s' : St) (v n : Nat) (D : List (Option (List (Int32 × Int64)))) : Prop :=
  (∀ t, t < 8 → (∀ k, k < n → ¬ s.1 7 (8 * v + k) = nI t) → s'.1 1 t = s.1 1 t ∧ ∀ r, r < 8 → s.1 1 t = nI r → s'.1 2 r = s.1 2 r ∧ s'.1 3 r = s.1 3 r ∧ ∀ i, i < 16 → s'.1 4 (16 * r + i) = s.1 4 (16 * r + i) ∧ s'.2 5 (16 * r + i) = s.2 5 (16 * r + i)) ∧
  ∀ k t, k < n → t < 8 → s.1 7 (8 * v + k) = nI t → (D[k]? = some none → s'.1 1 t = -1) ∧ ∀ C, D[k]? = some (some C) → ∃ r, r < 8 ∧ s'.1 1 t = nI r ∧ (∀ t', t' < 8 → t' ≠ t → ¬ s'.1 1 t' = nI r) ∧ s'.1 2 r = s.1 8 (8 * v + k) ∧ s'.1 3 r = nI C.length ∧ C.length ≤ 16 ∧ ∀ i, i < C.length → C[i]? = some (s'.1 4 (16 * r + i), s'.2 5 (16 * r + i))
def SpLoad (s : St) (q v ans : Int32) (s' : St) : Prop := if ¬ ((0 ≤ q ∧ q ≤ s.1 0 13 - 1) ∧ 0 ≤ v ∧ v ≤ 5) then ans = -1 ∧ Bt none2 s s' else if s.1 6 v.toNatClampNeg = 0 then ans = -3 ∧ Bt none2 s s' else
  match frmAt s q.toNatClampNeg with
  | .inl (f, c) => ans = -21 ∧ Bt (fun o j => (o = 0 ∧ j = 21) ∨ (o = 16 ∧ j < 4) ∨ (o = 17 ∧ j = 2)) s s' ∧ s'.1 0 21 = 1 ∧ s'.1 16 0 = 3 ∧ s'.1 16 1 = nI f ∧ s'.1 16 2 = nI c ∧ s'.1 16 3 = 0 ∧ s'.1 17 2 = s.1 17 2 + 1
  | .inr (vw, _, L, c) => match tkAt s vw L v.toNatClampNeg with
    | .inl (f, e, y) => ans = -20 ∧ SpStop s 2 (nI f) (nI e) y s'
    | .inr D => ans = nI c ∧ Bt (fun o j => (1 ≤ o ∧ o ≤ 5) ∨ (o = 17 ∧ j = 1)) s s' ∧ s'.1 17 1 = s.1 17 1 + 1 ∧ Tkn s s' v.toNatClampNeg (s.1 6 v.toNatClampNeg).toNatClampNeg D
/-- what stays of the versions -/
def Sv (m : Nat) (w : Wd) (s : St) : Prop := ∀ o j, 6 ≤ o → o ≤ 12 → wI w (m + o) j = s.1 o j
theorem Sm.v {m : Nat} {w : Wd} {s : St} (h : Sm m w s) : Sv m w s := fun o j h1 h2 => (h o j (by omega) (by omega)).1
theorem Sv.fr {S : Nat → Nat → Prop} {m : Nat} {w w' : Wd} {s : St} (h : Sv m w s) (hf : Fr S w w') (hs : ∀ a j, m + 6 ≤ a → a ≤ m + 12 → ¬ S a j) : Sv m w' s := fun o j h1 h2 => (hf.I _ _ (hs _ _ (by omega) (by omega))).trans (h o j h1 h2)
/-- the slots of the first k fields are empty -/
def Clr (s s' : St) (v k : Nat) : Prop := ∀ t, t < 8 → ((∃ j, j < k ∧ s.1 7 (8 * v + j) = nI t) → s'.1 1 t = -1) ∧ ((∀ j, j < k → ¬ s.1 7 (8 * v + j) = nI t) → s'.1 1 t = s.1 1 t)
set_option maxRecDepth 100000 in
set_option maxHeartbeats 4000000 in
theorem X12_load_clr {g : Ge} {m k0 n0 v n : Nat} {s : St} {qv : Int32} {K : Option Value → Wd → Prop} (hv : v < 6) (hV : VerS s v n) : ∀ (d k : Nat) (w : Wd) (o4 o5 o6 : Option Value), k + d = n → MS g m w → Sv m w s → Clr s (mst m w) v k → (∀ w' o4 o5 o6, Fr (fun a _ => a = m + 1) w w' → Clr s (mst m w') v n → R g mX12_load K 129 [some (.ref m), some (.int qv), some (.int (nI v)), some (.int (nI n)), o4, o5, o6] [] w' k0 n0) → R g mX12_load K 96 [some (.ref m), some (.int qv), some (.int (nI v)), some (.int (nI k)), o4, o5, o6] [] w k0 n0 := by
  obtain ⟨hn8, hmany, hfld⟩ := id hV
  intro d
  induction d with
  | zero =>
    intro k w o4 o5 o6 hk hm hS hC hK
    obtain rfl : k = n := by omega
    have e6 : wI w (m + 6) v = nI k := by rw [hS 6 v (by decide) (by decide)]; exact hmany
    simp (disch := omega) only [vX12_load_96, vX12_load_97, vX12_load_98, vX12_load_101, vX12_load_102, vX12_load_103, ms_o hm, ms_b hm, ms_0 hm, mp_many hm, ms_many hm, pI_c, pL_c, pF_c, pD_c, pA_n, pA_c, pA_rf, pR_c, pR_rf, pV_i, pV_a, pV_n, pV_rf, ldI_c, ldL_c, ldF_c, ldD_c, ldA_c, ldA_n, ldA_rf, dup2_l, dup2_ia, dup2_ir, popA_0, popA_s, getL_z, getL_s, setL_z, setL_1, setL_s, setL2_z, setL2_1, setL2_s, drop2_i, drop2_a, drop2_0, drop2_n, drop2_l, drop2_d, drop2_r, cwd_0, cwd_i, cwd_a, cwd_n, cwd_l, cwd_d, cwd_f, cwd_r, rf_s, rf_n, swi_0, swi_s, zR_b0, zR_b1, zN_b0, zN_b1, entV_i, entV_a, entV_n, entV_r, entV_f, entV_l, entV_d, entV_s, entV_0, List.length_cons, List.length_nil, List.nil_append, List.cons_append, true_and, and_true, Nat.reduceAdd, Nat.reduceLT, Nat.reduceEqDiff, Nat.reduceLeDiff, Nat.reduceSub, Nat.zero_add, Classical.not_not, ex_i, ex_l, ex_d, ex_r, ex_rs, ex_rn, ex_sm, Nat.sub_zero, eq_self, wn_sI, wn_sL, wn_sP, wsh_sI, wsh_sL, wsh_sP, wI_sL, wI_sP, wL_sI, wL_sP, wP_sI, wP_sL, wI_sI, wL_sL, Int32.reduceLT, Int32.reduceLE, true_implies, not_true_eq_false, false_implies, not_false_eq_true, i_10, na_1, nb_1, nm_1, ns_1, nr_1, na_2, nb_2, nm_2, ns_2, nr_2, na_3, nb_3, nm_3, ns_3, nr_3, na_4, nb_4, nm_4, ns_4, nr_4, na_5, nb_5, nm_5, ns_5, nr_5, na_6, nb_6, nm_6, ns_6, nr_6, na_7, nb_7, nm_7, ns_7, nr_7, na_8, nb_8, nm_8, ns_8, nr_8, na_10, nb_10, nm_10, ns_10, nr_10, na_16, nb_16, nm_16, ns_16, nr_16, nl_m1, ni_add, ni_mul, ni_sub, ni_cl, ni_in, vp_0, vp_1, vp_2, vp_3, vp_4, vp_5, Int32.reduceToNatClampNeg, ni_le, ni_lt, ni_eq, ni_le1, ni_le0, ni_eq0, ni_eq1, ni_eq2, ni_eq8, ni_eq9, Nat.le_refl, e6]
    exact hK w _ _ _ Fr.rf hC
  | succ d ih =>
    intro k w o4 o5 o6 hk hm hS hC hK
    have hlt : ¬ n ≤ k := by omega
    have e6 : wI w (m + 6) v = nI n := by rw [hS 6 v (by decide) (by decide)]; exact hmany
    obtain ⟨sl, kd, c, nd, td, hs8, hkd, hc, hnd, htd, f0, -⟩ := hfld k (by omega)
    have g7 : s.1 7 (8 * v + k) = nI sl := f0
    have e7 : wI w (m + 7) (8 * v + k) = nI sl := by rw [hS 7 _ (by decide) (by decide)]; exact f0
    simp (disch := omega) only [vX12_load_96, vX12_load_97, vX12_load_98, vX12_load_101, vX12_load_102, vX12_load_103, ms_o hm, ms_b hm, ms_0 hm, mp_many hm, ms_many hm, pI_c, pL_c, pF_c, pD_c, pA_n, pA_c, pA_rf, pR_c, pR_rf, pV_i, pV_a, pV_n, pV_rf, ldI_c, ldL_c, ldF_c, ldD_c, ldA_c, ldA_n, ldA_rf, dup2_l, dup2_ia, dup2_ir, popA_0, popA_s, getL_z, getL_s, setL_z, setL_1, setL_s, setL2_z, setL2_1, setL2_s, drop2_i, drop2_a, drop2_0, drop2_n, drop2_l, drop2_d, drop2_r, cwd_0, cwd_i, cwd_a, cwd_n, cwd_l, cwd_d, cwd_f, cwd_r, rf_s, rf_n, swi_0, swi_s, zR_b0, zR_b1, zN_b0, zN_b1, entV_i, entV_a, entV_n, entV_r, entV_f, entV_l, entV_d, entV_s, entV_0, List.length_cons, List.length_nil, List.nil_append, List.cons_append, true_and, and_true, Nat.reduceAdd, Nat.reduceLT, Nat.reduceEqDiff, Nat.reduceLeDiff, Nat.reduceSub, Nat.zero_add, Classical.not_not, ex_i, ex_l, ex_d, ex_r, ex_rs, ex_rn, ex_sm, Nat.sub_zero, eq_self, wn_sI, wn_sL, wn_sP, wsh_sI, wsh_sL, wsh_sP, wI_sL, wI_sP, wL_sI, wL_sP, wP_sI, wP_sL, wI_sI, wL_sL, Int32.reduceLT, Int32.reduceLE, true_implies, not_true_eq_false, false_implies, not_false_eq_true, i_10, na_1, nb_1, nm_1, ns_1, nr_1, na_2, nb_2, nm_2, ns_2, nr_2, na_3, nb_3, nm_3, ns_3, nr_3, na_4, nb_4, nm_4, ns_4, nr_4, na_5, nb_5, nm_5, ns_5, nr_5, na_6, nb_6, nm_6, ns_6, nr_6, na_7, nb_7, nm_7, ns_7, nr_7, na_8, nb_8, nm_8, ns_8, nr_8, na_10, nb_10, nm_10, ns_10, nr_10, na_16, nb_16, nm_16, ns_16, nr_16, nl_m1, ni_add, ni_mul, ni_sub, ni_cl, ni_in, vp_0, vp_1, vp_2, vp_3, vp_4, vp_5, Int32.reduceToNatClampNeg, ni_le, ni_lt, ni_eq, ni_le1, ni_le0, ni_eq0, ni_eq1, ni_eq2, ni_eq8, ni_eq9, hlt, e6]
    simp (disch := omega) only [vX12_load_106, vX12_load_107, vX12_load_110, vX12_load_111, vX12_load_114, vX12_load_116, vX12_load_117, vX12_load_118, vX12_load_119, vX12_load_120, vX12_load_121, vX12_load_122, vX12_load_123, vX12_load_126, ms_o hm, ms_b hm, ms_0 hm, mp_slot hm, ms_slot hm, mp_slotOf hm, ms_slotOf hm, pI_c, pL_c, pF_c, pD_c, pA_n, pA_c, pA_rf, pR_c, pR_rf, pV_i, pV_a, pV_n, pV_rf, ldI_c, ldL_c, ldF_c, ldD_c, ldA_c, ldA_n, ldA_rf, dup2_l, dup2_ia, dup2_ir, popA_0, popA_s, getL_z, getL_s, setL_z, setL_1, setL_s, setL2_z, setL2_1, setL2_s, drop2_i, drop2_a, drop2_0, drop2_n, drop2_l, drop2_d, drop2_r, cwd_0, cwd_i, cwd_a, cwd_n, cwd_l, cwd_d, cwd_f, cwd_r, rf_s, rf_n, swi_0, swi_s, zR_b0, zR_b1, zN_b0, zN_b1, entV_i, entV_a, entV_n, entV_r, entV_f, entV_l, entV_d, entV_s, entV_0, List.length_cons, List.length_nil, List.nil_append, List.cons_append, true_and, and_true, Nat.reduceAdd, Nat.reduceLT, Nat.reduceEqDiff, Nat.reduceLeDiff, Nat.reduceSub, Nat.zero_add, Classical.not_not, ex_i, ex_l, ex_d, ex_r, ex_rs, ex_rn, ex_sm, Nat.sub_zero, eq_self, wn_sI, wn_sL, wn_sP, wsh_sI, wsh_sL, wsh_sP, wI_sL, wI_sP, wL_sI, wL_sP, wP_sI, wP_sL, wI_sI, wL_sL, Int32.reduceLT, Int32.reduceLE, true_implies, not_true_eq_false, false_implies, not_false_eq_true, i_10, na_1, nb_1, nm_1, ns_1, nr_1, na_2, nb_2, nm_2, ns_2, nr_2, na_3, nb_3, nm_3, ns_3, nr_3, na_4, nb_4, nm_4, ns_4, nr_4, na_5, nb_5, nm_5, ns_5, nr_5, na_6, nb_6, nm_6, ns_6, nr_6, na_7, nb_7, nm_7, ns_7, nr_7, na_8, nb_8, nm_8, ns_8, nr_8, na_10, nb_10, nm_10, ns_10, nr_10, na_16, nb_16, nm_16, ns_16, nr_16, nl_m1, ni_add, ni_mul, ni_sub, ni_cl, ni_in, vp_0, vp_1, vp_2, vp_3, vp_4, vp_5, Int32.reduceToNatClampNeg, e7]
    have hfr : Fr (fun a _ => a = m + 1) w (sI w (m + 1) sl (-1)) := Fr.rf.i _ rfl
    refine ih (k + 1) _ _ _ _ (by omega) (hm.fr hfr) (hS.fr hfr (by omega)) ?_ fun w' p4 p5 p6 h1 h2 => hK w' p4 p5 p6 (hfr.tr h1) h2
    intro t ht
    obtain ⟨c1, c2⟩ := hC t ht
    refine ⟨fun ⟨j, hj, ej⟩ => ?_, fun hall => ?_⟩
    · show wI (sI w (m + 1) sl (-1)) (m + 1) t = -1
      rw [wI_at]
      by_cases et : t = sl
      · rw [if_pos et]
      · rw [if_neg et]
        refine c1 ⟨j, ?_, ej⟩
        rcases Nat.lt_or_ge j k with h | h
        · exact h
        · obtain rfl : j = k := by omega
          rw [g7, ni_eq (by omega) (by omega)] at ej
          exact absurd ej.symm et
    · show wI (sI w (m + 1) sl (-1)) (m + 1) t = _
      have et : ¬ t = sl := fun q => hall k (by omega) (by rw [g7, q])
      rw [wI_at, if_neg et]
      exact c2 fun j hj => hall j (by omega)
/-- the first k fields' slots hold what D brings, the others' are empty -/
def TknK (s s' : St) (v n k : Nat) (D : List (Option (List (Int32 × Int64)))) : Prop :=
  (∀ t, t < 8 → (∀ j, j < n → ¬ s.1 7 (8 * v + j) = nI t) → s'.1 1 t = s.1 1 t ∧ ∀ r, r < 8 → s.1 1 t = nI r → s'.1 2 r = s.1 2 r ∧ s'.1 3 r = s.1 3 r ∧ ∀ i, i < 16 → s'.1 4 (16 * r + i) = s.1 4 (16 * r + i) ∧ s'.2 5 (16 * r + i) = s.2 5 (16 * r + i)) ∧
  ∀ j t, j < n → t < 8 → s.1 7 (8 * v + j) = nI t → (k ≤ j → s'.1 1 t = -1) ∧ (j < k → (D[j]? = some none → s'.1 1 t = -1) ∧ ∀ C, D[j]? = some (some C) → ∃ r, r < 8 ∧ s'.1 1 t = nI r ∧ (∀ t', t' < 8 → t' ≠ t → ¬ s'.1 1 t' = nI r) ∧ s'.1 2 r = s.1 8 (8 * v + j) ∧ s'.1 3 r = nI C.length ∧ C.length ≤ 16 ∧ ∀ i, i < C.length → C[i]? = some (s'.1 4 (16 * r + i), s'.2 5 (16 * r + i)))
theorem TknK.done {s s' : St} {v n : Nat} {D : List (Option (List (Int32 × Int64)))} (h : TknK s s' v n n D) : Tkn s s' v n D := ⟨h.1, fun k t h1 h2 h3 => (h.2 k t h1 h2 h3).2 h1⟩
set_option maxRecDepth 100000 in
set_option maxHeartbeats 4000000 in
theorem X12_load_cells {g : Ge} {m k0 n0 v k f r z : Nat} {qv : Int32} {C : List (Int32 × Int64)} {K : Option Value → Wd → Prop} (hk : k < 8) (hr : r < 8) (hz : C.length = z) (hz16 : z ≤ 16) : ∀ (d i : Nat) (w : Wd), i + d = z → MS g m w → wI w (m + 37) k = nI z → celH (wI w (m + 38)) (wL w (m + 39)) (16 * k) C → (∀ j, j < i → C[j]? = some (wI w (m + 4) (16 * r + j), wL w (m + 5) (16 * r + j))) →
    (∀ w' o6, Fr (fun a j => (a = m + 4 ∨ a = m + 5) ∧ 16 * r ≤ j ∧ j < 16 * r + 16) w w' → (∀ j, j < z → C[j]? = some (wI w' (m + 4) (16 * r + j), wL w' (m + 5) (16 * r + j))) → R g mX12_load K 279 [some (.ref m), some (.int qv), some (.int (nI v)), some (.int (nI k)), some (.int (nI f)), some (.int (nI r)), o6] [] w' k0 n0) → R g mX12_load K 212 [some (.ref m), some (.int qv), some (.int (nI v)), some (.int (nI k)), some (.int (nI f)), some (.int (nI r)), some (.int (nI i))] [] w k0 n0 := by
  intro d
  induction d with
  | zero =>
    intro i w hi hm e37 hC hD hK
    obtain rfl : i = z := by omega
    simp (disch := omega) only [vX12_load_212, vX12_load_214, vX12_load_215, vX12_load_218, vX12_load_219, vX12_load_220, ms_o hm, ms_b hm, ms_0 hm, mp_newSize hm, ms_newSize hm, pI_c, pL_c, pF_c, pD_c, pA_n, pA_c, pA_rf, pR_c, pR_rf, pV_i, pV_a, pV_n, pV_rf, ldI_c, ldL_c, ldF_c, ldD_c, ldA_c, ldA_n, ldA_rf, dup2_l, dup2_ia, dup2_ir, popA_0, popA_s, getL_z, getL_s, setL_z, setL_1, setL_s, setL2_z, setL2_1, setL2_s, drop2_i, drop2_a, drop2_0, drop2_n, drop2_l, drop2_d, drop2_r, cwd_0, cwd_i, cwd_a, cwd_n, cwd_l, cwd_d, cwd_f, cwd_r, rf_s, rf_n, swi_0, swi_s, zR_b0, zR_b1, zN_b0, zN_b1, entV_i, entV_a, entV_n, entV_r, entV_f, entV_l, entV_d, entV_s, entV_0, List.length_cons, List.length_nil, List.nil_append, List.cons_append, true_and, and_true, Nat.reduceAdd, Nat.reduceLT, Nat.reduceEqDiff, Nat.reduceLeDiff, Nat.reduceSub, Nat.zero_add, Classical.not_not, ex_i, ex_l, ex_d, ex_r, ex_rs, ex_rn, ex_sm, Nat.sub_zero, eq_self, wn_sI, wn_sL, wn_sP, wsh_sI, wsh_sL, wsh_sP, wI_sL, wI_sP, wL_sI, wL_sP, wP_sI, wP_sL, wI_sI, wL_sL, Int32.reduceLT, Int32.reduceLE, true_implies, not_true_eq_false, false_implies, not_false_eq_true, i_10, na_1, nb_1, nm_1, ns_1, nr_1, na_2, nb_2, nm_2, ns_2, nr_2, na_3, nb_3, nm_3, ns_3, nr_3, na_4, nb_4, nm_4, ns_4, nr_4, na_5, nb_5, nm_5, ns_5, nr_5, na_6, nb_6, nm_6, ns_6, nr_6, na_7, nb_7, nm_7, ns_7, nr_7, na_8, nb_8, nm_8, ns_8, nr_8, na_10, nb_10, nm_10, ns_10, nr_10, na_16, nb_16, nm_16, ns_16, nr_16, nl_m1, ni_add, ni_mul, ni_sub, ni_cl, ni_in, vp_0, vp_1, vp_2, vp_3, vp_4, vp_5, Int32.reduceToNatClampNeg, ni_le, ni_lt, ni_eq, ni_le1, ni_le0, ni_eq0, ni_eq1, ni_eq2, ni_eq8, ni_eq9, Nat.le_refl, e37]
    exact hK w _ Fr.rf hD
  | succ d ih =>
    intro i w hi hm e37 hC hD hK
    have hlt : ¬ z ≤ i := by omega
    have hci := hC i (by omega)
    simp (disch := omega) only [vX12_load_212, vX12_load_214, vX12_load_215, vX12_load_218, vX12_load_219, vX12_load_220, ms_o hm, ms_b hm, ms_0 hm, mp_newSize hm, ms_newSize hm, pI_c, pL_c, pF_c, pD_c, pA_n, pA_c, pA_rf, pR_c, pR_rf, pV_i, pV_a, pV_n, pV_rf, ldI_c, ldL_c, ldF_c, ldD_c, ldA_c, ldA_n, ldA_rf, dup2_l, dup2_ia, dup2_ir, popA_0, popA_s, getL_z, getL_s, setL_z, setL_1, setL_s, setL2_z, setL2_1, setL2_s, drop2_i, drop2_a, drop2_0, drop2_n, drop2_l, drop2_d, drop2_r, cwd_0, cwd_i, cwd_a, cwd_n, cwd_l, cwd_d, cwd_f, cwd_r, rf_s, rf_n, swi_0, swi_s, zR_b0, zR_b1, zN_b0, zN_b1, entV_i, entV_a, entV_n, entV_r, entV_f, entV_l, entV_d, entV_s, entV_0, List.length_cons, List.length_nil, List.nil_append, List.cons_append, true_and, and_true, Nat.reduceAdd, Nat.reduceLT, Nat.reduceEqDiff, Nat.reduceLeDiff, Nat.reduceSub, Nat.zero_add, Classical.not_not, ex_i, ex_l, ex_d, ex_r, ex_rs, ex_rn, ex_sm, Nat.sub_zero, eq_self, wn_sI, wn_sL, wn_sP, wsh_sI, wsh_sL, wsh_sP, wI_sL, wI_sP, wL_sI, wL_sP, wP_sI, wP_sL, wI_sI, wL_sL, Int32.reduceLT, Int32.reduceLE, true_implies, not_true_eq_false, false_implies, not_false_eq_true, i_10, na_1, nb_1, nm_1, ns_1, nr_1, na_2, nb_2, nm_2, ns_2, nr_2, na_3, nb_3, nm_3, ns_3, nr_3, na_4, nb_4, nm_4, ns_4, nr_4, na_5, nb_5, nm_5, ns_5, nr_5, na_6, nb_6, nm_6, ns_6, nr_6, na_7, nb_7, nm_7, ns_7, nr_7, na_8, nb_8, nm_8, ns_8, nr_8, na_10, nb_10, nm_10, ns_10, nr_10, na_16, nb_16, nm_16, ns_16, nr_16, nl_m1, ni_add, ni_mul, ni_sub, ni_cl, ni_in, vp_0, vp_1, vp_2, vp_3, vp_4, vp_5, Int32.reduceToNatClampNeg, ni_le, ni_lt, ni_eq, ni_le1, ni_le0, ni_eq0, ni_eq1, ni_eq2, ni_eq8, ni_eq9, hlt, e37]
    simp (disch := omega) only [vX12_load_223, vX12_load_224, vX12_load_227, vX12_load_229, vX12_load_231, vX12_load_232, vX12_load_234, vX12_load_235, vX12_load_236, vX12_load_239, vX12_load_241, vX12_load_242, vX12_load_243, vX12_load_245, vX12_load_246, vX12_load_247, vX12_load_248, vX12_load_249, vX12_load_252, vX12_load_254, vX12_load_256, vX12_load_257, vX12_load_259, vX12_load_260, vX12_load_261, vX12_load_264, vX12_load_266, vX12_load_267, vX12_load_268, vX12_load_270, vX12_load_271, vX12_load_272, vX12_load_273, vX12_load_276, ms_o hm, ms_b hm, ms_0 hm, mp_kinds hm, ms_kinds hm, mp_values hm, ms_values hm, mp_newKind hm, ms_newKind hm, mp_newValue hm, ms_newValue hm, pI_c, pL_c, pF_c, pD_c, pA_n, pA_c, pA_rf, pR_c, pR_rf, pV_i, pV_a, pV_n, pV_rf, ldI_c, ldL_c, ldF_c, ldD_c, ldA_c, ldA_n, ldA_rf, dup2_l, dup2_ia, dup2_ir, popA_0, popA_s, getL_z, getL_s, setL_z, setL_1, setL_s, setL2_z, setL2_1, setL2_s, drop2_i, drop2_a, drop2_0, drop2_n, drop2_l, drop2_d, drop2_r, cwd_0, cwd_i, cwd_a, cwd_n, cwd_l, cwd_d, cwd_f, cwd_r, rf_s, rf_n, swi_0, swi_s, zR_b0, zR_b1, zN_b0, zN_b1, entV_i, entV_a, entV_n, entV_r, entV_f, entV_l, entV_d, entV_s, entV_0, List.length_cons, List.length_nil, List.nil_append, List.cons_append, true_and, and_true, Nat.reduceAdd, Nat.reduceLT, Nat.reduceEqDiff, Nat.reduceLeDiff, Nat.reduceSub, Nat.zero_add, Classical.not_not, ex_i, ex_l, ex_d, ex_r, ex_rs, ex_rn, ex_sm, Nat.sub_zero, eq_self, wn_sI, wn_sL, wn_sP, wsh_sI, wsh_sL, wsh_sP, wI_sL, wI_sP, wL_sI, wL_sP, wP_sI, wP_sL, wI_sI, wL_sL, Int32.reduceLT, Int32.reduceLE, true_implies, not_true_eq_false, false_implies, not_false_eq_true, i_10, na_1, nb_1, nm_1, ns_1, nr_1, na_2, nb_2, nm_2, ns_2, nr_2, na_3, nb_3, nm_3, ns_3, nr_3, na_4, nb_4, nm_4, ns_4, nr_4, na_5, nb_5, nm_5, ns_5, nr_5, na_6, nb_6, nm_6, ns_6, nr_6, na_7, nb_7, nm_7, ns_7, nr_7, na_8, nb_8, nm_8, ns_8, nr_8, na_10, nb_10, nm_10, ns_10, nr_10, na_16, nb_16, nm_16, ns_16, nr_16, nl_m1, ni_add, ni_mul, ni_sub, ni_cl, ni_in, vp_0, vp_1, vp_2, vp_3, vp_4, vp_5, Int32.reduceToNatClampNeg, up2_n1, up2_at, if_true, if_false, Nat.reduceEqDiff, eq_self]
    have hfr : Fr (fun a j => (a = m + 4 ∨ a = m + 5) ∧ 16 * r ≤ j ∧ j < 16 * r + 16) w (sL (sI w (m + 4) (16 * r + i) (wI w (m + 38) (16 * k + i))) (m + 5) (16 * r + i) (wL w (m + 39) (16 * k + i))) := (Fr.rf.i _ ⟨Or.inl rfl, by omega, by omega⟩).l _ ⟨Or.inr rfl, by omega, by omega⟩
    refine ih (i + 1) _ (by omega) (hm.fr hfr) ((hfr.I _ _ (by omega)).trans e37) (fun j hj => ?_) (fun j hj => ?_) fun w' o6 h1 h2 => hK w' o6 (hfr.tr h1) h2
    · rw [hfr.I _ _ (by omega), hfr.L _ _ (by omega)]
      exact hC j hj
    · by_cases ej : j = i
      · subst ej
        rw [hci, wL_at, if_pos rfl]
        show _ = some (wI (sI w (m + 4) (16 * r + j) (wI w (m + 38) (16 * k + j))) (m + 4) (16 * r + j), _)
        rw [wI_at, if_pos rfl]
      · rw [hD j (by omega), wL_at, if_neg (by omega)]
        show _ = some (wI (sI w (m + 4) (16 * r + i) (wI w (m + 38) (16 * k + i))) (m + 4) (16 * r + j), _)
        rw [wI_at, if_neg (by omega)]
        rfl
