/-! the reference: what is told of a frame -/
def pop8 (p : Nat) : Nat := p % 2 + p / 2 % 2 + p / 4 % 2 + p / 8 % 2 + p / 16 % 2 + p / 32 % 2 + p / 64 % 2 + p / 128 % 2
def usr32 (x k : Int32) : Int32 := (x.toUInt32 >>> (Int32.toUInt32 k &&& Int32.toUInt32 31)).toInt32
def bc1 (x : Int32) : Int32 := x - (usr32 x 1 &&& 1431655765)
def bc2 (x : Int32) : Int32 := (x &&& 858993459) + (usr32 x 2 &&& 858993459)
def bc3 (x : Int32) : Int32 := (x + usr32 x 4) &&& 252645135
def bc4 (x : Int32) : Int32 := x + usr32 x 8
def bc5 (x : Int32) : Int32 := (x + usr32 x 16) &&& 63
theorem bcT : ∀ p, p < 256 → bc5 (bc4 (bc3 (bc2 (bc1 (nI p))))) = nI (pop8 p) := by decide +kernel
set_option maxRecDepth 100000 in
set_option maxHeartbeats 4000000 in
theorem J6_bitCount_ok {g : Ge} {w : Wd} {k n : Nat} {K : Int32 → Wd → Nat → Nat → Prop} (p : Nat) (hp : p < 256) (h : K (nI (pop8 p)) w k n) : cI g mJ6_bitCount_0f7a4 [.int (nI p)] w k n K := by
  refine cI_of 1 0 0 rfl (by decide +kernel) rfl (Nat.le_of_ble_eq_true rfl) (Nat.zero_le _) (Nat.zero_le _) ?_
  simp only [vJ6_bitCount_0f7a4_0, vJ6_bitCount_0f7a4_1, vJ6_bitCount_0f7a4_2, vJ6_bitCount_0f7a4_3, vJ6_bitCount_0f7a4_4, vJ6_bitCount_0f7a4_7, vJ6_bitCount_0f7a4_8, vJ6_bitCount_0f7a4_9, vJ6_bitCount_0f7a4_10, vJ6_bitCount_0f7a4_11, vJ6_bitCount_0f7a4_14, vJ6_bitCount_0f7a4_15, vJ6_bitCount_0f7a4_16, vJ6_bitCount_0f7a4_17, vJ6_bitCount_0f7a4_18, vJ6_bitCount_0f7a4_21, vJ6_bitCount_0f7a4_22, vJ6_bitCount_0f7a4_23, vJ6_bitCount_0f7a4_24, vJ6_bitCount_0f7a4_25, vJ6_bitCount_0f7a4_26, vJ6_bitCount_0f7a4_27, vJ6_bitCount_0f7a4_28, vJ6_bitCount_0f7a4_29, vJ6_bitCount_0f7a4_32, vJ6_bitCount_0f7a4_33, vJ6_bitCount_0f7a4_34, vJ6_bitCount_0f7a4_35, vJ6_bitCount_0f7a4_36, vJ6_bitCount_0f7a4_38, vJ6_bitCount_0f7a4_39, vJ6_bitCount_0f7a4_40, vJ6_bitCount_0f7a4_41, vJ6_bitCount_0f7a4_42, vJ6_bitCount_0f7a4_43, vJ6_bitCount_0f7a4_45, vJ6_bitCount_0f7a4_46, vJ6_bitCount_0f7a4_47, vJ6_bitCount_0f7a4_48, vJ6_bitCount_0f7a4_49, vJ6_bitCount_0f7a4_51, vJ6_bitCount_0f7a4_52, pI_c, pL_c, pF_c, pD_c, pA_n, pA_c, pA_rf, pR_c, pR_rf, pV_i, pV_a, pV_n, pV_rf, ldI_c, ldL_c, ldF_c, ldD_c, ldA_c, ldA_n, ldA_rf, dup2_l, dup2_ia, dup2_ir, popA_0, popA_s, getL_z, getL_s, setL_z, setL_1, setL_s, setL2_z, setL2_1, setL2_s, drop2_i, drop2_a, drop2_0, drop2_n, drop2_l, drop2_d, drop2_r, cwd_0, cwd_i, cwd_a, cwd_n, cwd_l, cwd_d, cwd_f, cwd_r, rf_s, rf_n, swi_0, swi_s, zR_b0, zR_b1, zN_b0, zN_b1, entV_i, entV_a, entV_n, entV_r, entV_f, entV_l, entV_d, entV_s, entV_0, List.length_cons, List.length_nil, List.nil_append, List.cons_append, true_and, and_true, Nat.reduceAdd, Nat.reduceLT, Nat.reduceEqDiff, Nat.reduceLeDiff, Nat.reduceSub, Nat.zero_add, Classical.not_not, ex_i, ex_l, ex_d, ex_r, ex_rs, ex_rn, ex_sm, Nat.sub_zero, eq_self, wn_sI, wn_sL, wn_sP, wsh_sI, wsh_sL, wsh_sP, wI_sL, wI_sP, wL_sI, wL_sP, wP_sI, wP_sL, wI_sI, wL_sL, Int32.reduceLT, Int32.reduceLE, true_implies, not_true_eq_false, false_implies, not_false_eq_true, i_10]
  show K (bc5 (bc4 (bc3 (bc2 (bc1 (nI p)))))) w k n
  rw [bcT p hp]
  exact h
/-- the sizes together -/
def lenL : List (Option (List (Int32 × Int64))) → Nat
  | [] => 0
  | none :: L => lenL L
  | some C :: L => C.length + lenL L
set_option maxRecDepth 100000 in
set_option maxHeartbeats 4000000 in
theorem X12_isNoFrameA_ok {g : Ge} {w : Wd} {k n : Nat} {K : Int32 → Wd → Nat → Nat → Prop} {m u q : Nat} {s : St} (hm : MS g m w) (hS : Sm m w s) (hV : VW s) (hW : WW s) (hu : wI w m 13 = nI u) (hus : s.1 0 13 = nI u) (hu5 : u ≤ 500) (hq : q < u)
    (h1 : ∀ f c w', frmAt s q = .inl (f, c) → Fr (frmS m) w w' → wI w' m 52 = nI f → wI w' m 53 = nI c → K 1 w' k n)
    (h0 : ∀ v p L c nw w', frmAt s q = .inr (v, p, L, c) → v < 6 → VerS s v nw → LOK L → L.length = nw → PresL p L → c ≤ u → c = q + 4 + (s.1 13 (q + 1)).toNatClampNeg → Fr (frmS m) w w' → wI w' m 52 = 0 → wI w' m 55 = nI (c - 2) → wI w' m 57 = nI p → wI w' m 56 = nI v → GotR m w' L → K 0 w' k n) : cI g mX12_isNoFrame [.ref m, .int (nI q)] w k n K := by
  obtain ⟨u', hu5', hu', hby⟩ := hW
  obtain rfl : u' = u := by rw [hu', ni_eq (by omega) (by omega)] at hus; exact hus
  have e13 : wI w (m + 13) = s.1 13 := hS.A 13 (by decide) (by decide)
  have hWr : Wr m w (fun i => (wI w (m + 13) i).toNatClampNeg) u' := WW.Wr hu hu5' (by rw [e13]; exact hby)
  have hFA : frmAt s q = rdFrm (fun i => (wI w (m + 13) i).toNatClampNeg) u' (s.1 6) (fun v j k => s.1 (7 + j) (8 * v + k)) q := by
    unfold frmAt
    rw [hus, ni_cl (by omega), e13]
  rw [hFA] at h1 h0
  refine X12_isNoFrame_ok hm hS hV hWr hu hq (fun x w1 i1 hf1 hl => ?_) (fun vw p L c w1 i1 hvw hcu hcq hf1 r52 r55 r57 r56 hG => ?_)
  · exact h1 x.1 x.2 w1 i1 hf1 hl.1 hl.2
  · obtain ⟨nw, hnw0, hnw, hVWw⟩ : ∃ n, 0 < n ∧ s.1 6 vw = nI n ∧ VerW n (fun j k => s.1 (7 + j) (8 * vw + k)) := by
      rcases hV vw hvw with e | e
      · exact absurd e (rdFrm_inr i1).2.1
      · exact e
    have hnw8 := hVWw.1
    have hbody : rdBody (fun i => (wI w (m + 13) i).toNatClampNeg) (q + 2 + (wI w (m + 13) (q + 1)).toNatClampNeg) (fun j k => s.1 (7 + j) (8 * vw + k)) nw (q + 2) = .inr (p, L) := by
      have := (rdFrm_inr i1).2.2.2.2
      rw [hnw, ni_cl (by omega)] at this
      exact this
    have hcq' : c = q + 4 + (wI w (m + 13) (q + 1)).toNatClampNeg := hcq
    obtain ⟨o1, o2, o3⟩ := rdBody_ok hVWw.2.1 (fun i hi => (hWr.2 i (by omega)).2) hbody
    exact h0 vw p L c nw w1 i1 hvw (hVWw.S hnw) o1 o2 o3 hcu (by rw [← e13]; exact hcq') hf1 r52 (by rw [r55, hcq', show q + 2 + (wI w (m + 13) (q + 1)).toNatClampNeg = q + 4 + (wI w (m + 13) (q + 1)).toNatClampNeg - 2 by omega]) r57 r56 hG

theorem lenL_app : ∀ (A B : List (Option (List (Int32 × Int64)))), lenL (A ++ B) = lenL A + lenL B
  | [], B => by simp only [List.nil_append, lenL, Nat.zero_add]
  | none :: A, B => by simp only [List.cons_append, lenL, lenL_app A B]
  | some C :: A, B => by simp only [List.cons_append, lenL, lenL_app A B, Nat.add_assoc]
theorem lenL_le : ∀ (L : List (Option (List (Int32 × Int64)))), (∀ (k : Nat) (C : List (Int32 × Int64)), L[k]? = some (some C) → C.length ≤ 16) → lenL L ≤ 16 * L.length
  | [], _ => by simp only [lenL, Nat.zero_le]
  | none :: A, h => by
    have := lenL_le A fun k C hk => h (k + 1) C hk
    simp only [lenL, List.length_cons]
    omega
  | some C :: A, h => by
    have := lenL_le A fun k C hk => h (k + 1) C hk
    have h0 := h 0 C rfl
    simp only [lenL, List.length_cons]
    omega
set_option maxRecDepth 100000 in
set_option maxHeartbeats 4000000 in
theorem X12_frame_loop {g : Ge} {m k0 n0 p nw : Nat} {qv av o3 : Int32} {w : Wd} {L : List (Option (List (Int32 × Int64)))} {K : Option Value → Wd → Prop} (hm : MS g m w) (h57 : wI w m 57 = nI p) {v : Nat} (hv : v < 6) (h56 : wI w m 56 = nI v) (h6 : wI w (m + 6) v = nI nw) (hG : GotR m w L) (hp : PresL p L) (hL : L.length = nw) (hnw : nw ≤ 8) (h16 : ∀ (k : Nat) (C : List (Int32 × Int64)), L[k]? = some (some C) → C.length ≤ 16) (hK : K (some (.int (nI (lenL L)))) w) : ∀ (d j a : Nat), j + d = nw → a = lenL (L.take j) → R g mX12_frame K 126 [some (.ref m), some (.int qv), some (.int av), some (.int o3), some (.int (nI a)), some (.int (nI j))] [] w k0 n0 := by
  intro d
  induction d with
  | zero =>
    intro j a hj ha
    obtain rfl : j = nw := by omega
    rw [List.take_of_length_le (by omega)] at ha
    subst ha
    simp (disch := omega) only [vX12_frame_126, vX12_frame_128, vX12_frame_129, vX12_frame_132, vX12_frame_133, vX12_frame_136, vX12_frame_137, vX12_frame_171, vX12_frame_173, ms_o hm, ms_b hm, ms_0 hm, mp_many hm, ms_many hm, pI_c, pL_c, pF_c, pD_c, pA_n, pA_c, pA_rf, pR_c, pR_rf, pV_i, pV_a, pV_n, pV_rf, ldI_c, ldL_c, ldF_c, ldD_c, ldA_c, ldA_n, ldA_rf, dup2_l, dup2_ia, dup2_ir, popA_0, popA_s, getL_z, getL_s, setL_z, setL_1, setL_s, setL2_z, setL2_1, setL2_s, drop2_i, drop2_a, drop2_0, drop2_n, drop2_l, drop2_d, drop2_r, cwd_0, cwd_i, cwd_a, cwd_n, cwd_l, cwd_d, cwd_f, cwd_r, rf_s, rf_n, swi_0, swi_s, zR_b0, zR_b1, zN_b0, zN_b1, entV_i, entV_a, entV_n, entV_r, entV_f, entV_l, entV_d, entV_s, entV_0, List.length_cons, List.length_nil, List.nil_append, List.cons_append, true_and, and_true, Nat.reduceAdd, Nat.reduceLT, Nat.reduceEqDiff, Nat.reduceLeDiff, Nat.reduceSub, Nat.zero_add, Classical.not_not, ex_i, ex_l, ex_d, ex_r, ex_rs, ex_rn, ex_sm, Nat.sub_zero, eq_self, wn_sI, wn_sL, wn_sP, wsh_sI, wsh_sL, wsh_sP, wI_sL, wI_sP, wL_sI, wL_sP, wP_sI, wP_sL, wI_sI, wL_sL, Int32.reduceLT, Int32.reduceLE, true_implies, not_true_eq_false, false_implies, not_false_eq_true, i_10, na_1, nb_1, nm_1, ns_1, nr_1, na_2, nb_2, nm_2, ns_2, nr_2, na_3, nb_3, nm_3, ns_3, nr_3, na_4, nb_4, nm_4, ns_4, nr_4, na_5, nb_5, nm_5, ns_5, nr_5, na_6, nb_6, nm_6, ns_6, nr_6, na_7, nb_7, nm_7, ns_7, nr_7, na_8, nb_8, nm_8, ns_8, nr_8, na_10, nb_10, nm_10, ns_10, nr_10, na_16, nb_16, nm_16, ns_16, nr_16, nl_m1, ni_add, ni_mul, ni_sub, ni_cl, ni_in, vp_0, vp_1, vp_2, vp_3, vp_4, vp_5, Int32.reduceToNatClampNeg, ni_le, ni_lt, ni_eq, ni_le1, ni_le0, ni_eq0, ni_eq1, ni_eq2, ni_eq8, ni_eq9, h56, h6, Nat.le_refl]
    exact hK
  | succ d ih =>
    intro j a hj ha
    have hlt : ¬ nw ≤ j := by omega
    have ht : L.take (j + 1) = L.take j ++ [L[j]'(by omega)] := List.take_succ_eq_append_getElem (by omega)
    have ha16 : a ≤ 16 * j := by
      rw [ha]
      refine Nat.le_trans (lenL_le _ fun k C hk => h16 k C ?_) (by rw [List.length_take]; omega)
      rw [List.getElem?_take] at hk
      split at hk
      · exact hk
      · cases hk
    simp (disch := omega) only [vX12_frame_126, vX12_frame_128, vX12_frame_129, vX12_frame_132, vX12_frame_133, vX12_frame_136, vX12_frame_137, ms_o hm, ms_b hm, ms_0 hm, mp_many hm, ms_many hm, pI_c, pL_c, pF_c, pD_c, pA_n, pA_c, pA_rf, pR_c, pR_rf, pV_i, pV_a, pV_n, pV_rf, ldI_c, ldL_c, ldF_c, ldD_c, ldA_c, ldA_n, ldA_rf, dup2_l, dup2_ia, dup2_ir, popA_0, popA_s, getL_z, getL_s, setL_z, setL_1, setL_s, setL2_z, setL2_1, setL2_s, drop2_i, drop2_a, drop2_0, drop2_n, drop2_l, drop2_d, drop2_r, cwd_0, cwd_i, cwd_a, cwd_n, cwd_l, cwd_d, cwd_f, cwd_r, rf_s, rf_n, swi_0, swi_s, zR_b0, zR_b1, zN_b0, zN_b1, entV_i, entV_a, entV_n, entV_r, entV_f, entV_l, entV_d, entV_s, entV_0, List.length_cons, List.length_nil, List.nil_append, List.cons_append, true_and, and_true, Nat.reduceAdd, Nat.reduceLT, Nat.reduceEqDiff, Nat.reduceLeDiff, Nat.reduceSub, Nat.zero_add, Classical.not_not, ex_i, ex_l, ex_d, ex_r, ex_rs, ex_rn, ex_sm, Nat.sub_zero, eq_self, wn_sI, wn_sL, wn_sP, wsh_sI, wsh_sL, wsh_sP, wI_sL, wI_sP, wL_sI, wL_sP, wP_sI, wP_sL, wI_sI, wL_sL, Int32.reduceLT, Int32.reduceLE, true_implies, not_true_eq_false, false_implies, not_false_eq_true, i_10, na_1, nb_1, nm_1, ns_1, nr_1, na_2, nb_2, nm_2, ns_2, nr_2, na_3, nb_3, nm_3, ns_3, nr_3, na_4, nb_4, nm_4, ns_4, nr_4, na_5, nb_5, nm_5, ns_5, nr_5, na_6, nb_6, nm_6, ns_6, nr_6, na_7, nb_7, nm_7, ns_7, nr_7, na_8, nb_8, nm_8, ns_8, nr_8, na_10, nb_10, nm_10, ns_10, nr_10, na_16, nb_16, nm_16, ns_16, nr_16, nl_m1, ni_add, ni_mul, ni_sub, ni_cl, ni_in, vp_0, vp_1, vp_2, vp_3, vp_4, vp_5, Int32.reduceToNatClampNeg, ni_le, ni_lt, ni_eq, ni_le1, ni_le0, ni_eq0, ni_eq1, ni_eq2, ni_eq8, ni_eq9, h56, h6, hlt]
    have hb := hp.2 j (by omega)
    have hbt := bitT p hp.1 j (by omega)
    have hg := List.getElem?_eq_getElem (show j < L.length by omega)
    simp (disch := omega) only [vX12_frame_140, vX12_frame_141, vX12_frame_144, vX12_frame_146, vX12_frame_147, vX12_frame_148, vX12_frame_149, vX12_frame_150, ms_o hm, ms_b hm, ms_0 hm, pI_c, pL_c, pF_c, pD_c, pA_n, pA_c, pA_rf, pR_c, pR_rf, pV_i, pV_a, pV_n, pV_rf, ldI_c, ldL_c, ldF_c, ldD_c, ldA_c, ldA_n, ldA_rf, dup2_l, dup2_ia, dup2_ir, popA_0, popA_s, getL_z, getL_s, setL_z, setL_1, setL_s, setL2_z, setL2_1, setL2_s, drop2_i, drop2_a, drop2_0, drop2_n, drop2_l, drop2_d, drop2_r, cwd_0, cwd_i, cwd_a, cwd_n, cwd_l, cwd_d, cwd_f, cwd_r, rf_s, rf_n, swi_0, swi_s, zR_b0, zR_b1, zN_b0, zN_b1, entV_i, entV_a, entV_n, entV_r, entV_f, entV_l, entV_d, entV_s, entV_0, List.length_cons, List.length_nil, List.nil_append, List.cons_append, true_and, and_true, Nat.reduceAdd, Nat.reduceLT, Nat.reduceEqDiff, Nat.reduceLeDiff, Nat.reduceSub, Nat.zero_add, Classical.not_not, ex_i, ex_l, ex_d, ex_r, ex_rs, ex_rn, ex_sm, Nat.sub_zero, eq_self, wn_sI, wn_sL, wn_sP, wsh_sI, wsh_sL, wsh_sP, wI_sL, wI_sP, wL_sI, wL_sP, wP_sI, wP_sL, wI_sI, wL_sL, Int32.reduceLT, Int32.reduceLE, true_implies, not_true_eq_false, false_implies, not_false_eq_true, i_10, na_1, nb_1, nm_1, ns_1, nr_1, na_2, nb_2, nm_2, ns_2, nr_2, na_3, nb_3, nm_3, ns_3, nr_3, na_4, nb_4, nm_4, ns_4, nr_4, na_5, nb_5, nm_5, ns_5, nr_5, na_6, nb_6, nm_6, ns_6, nr_6, na_7, nb_7, nm_7, ns_7, nr_7, na_8, nb_8, nm_8, ns_8, nr_8, na_10, nb_10, nm_10, ns_10, nr_10, na_16, nb_16, nm_16, ns_16, nr_16, nl_m1, ni_add, ni_mul, ni_sub, ni_cl, ni_in, vp_0, vp_1, vp_2, vp_3, vp_4, vp_5, Int32.reduceToNatClampNeg, h57, hbt]
    cases hC : L[j] with
    | none =>
      rw [hC] at hg ht
      have e0 := hb.mpr hg
      simp only [e0]
      refine ⟨fun _ => ?_, fun z => absurd z (by decide)⟩
      simp (disch := omega) only [vX12_frame_165, vX12_frame_168, pI_c, pL_c, pF_c, pD_c, pA_n, pA_c, pA_rf, pR_c, pR_rf, pV_i, pV_a, pV_n, pV_rf, ldI_c, ldL_c, ldF_c, ldD_c, ldA_c, ldA_n, ldA_rf, dup2_l, dup2_ia, dup2_ir, popA_0, popA_s, getL_z, getL_s, setL_z, setL_1, setL_s, setL2_z, setL2_1, setL2_s, drop2_i, drop2_a, drop2_0, drop2_n, drop2_l, drop2_d, drop2_r, cwd_0, cwd_i, cwd_a, cwd_n, cwd_l, cwd_d, cwd_f, cwd_r, rf_s, rf_n, swi_0, swi_s, zR_b0, zR_b1, zN_b0, zN_b1, entV_i, entV_a, entV_n, entV_r, entV_f, entV_l, entV_d, entV_s, entV_0, List.length_cons, List.length_nil, List.nil_append, List.cons_append, true_and, and_true, Nat.reduceAdd, Nat.reduceLT, Nat.reduceEqDiff, Nat.reduceLeDiff, Nat.reduceSub, Nat.zero_add, Classical.not_not, ex_i, ex_l, ex_d, ex_r, ex_rs, ex_rn, ex_sm, Nat.sub_zero, eq_self, wn_sI, wn_sL, wn_sP, wsh_sI, wsh_sL, wsh_sP, wI_sL, wI_sP, wL_sI, wL_sP, wP_sI, wP_sL, wI_sI, wL_sL, Int32.reduceLT, Int32.reduceLE, true_implies, not_true_eq_false, false_implies, not_false_eq_true, i_10, na_1, nb_1, nm_1, ns_1, nr_1, na_2, nb_2, nm_2, ns_2, nr_2, na_3, nb_3, nm_3, ns_3, nr_3, na_4, nb_4, nm_4, ns_4, nr_4, na_5, nb_5, nm_5, ns_5, nr_5, na_6, nb_6, nm_6, ns_6, nr_6, na_7, nb_7, nm_7, ns_7, nr_7, na_8, nb_8, nm_8, ns_8, nr_8, na_10, nb_10, nm_10, ns_10, nr_10, na_16, nb_16, nm_16, ns_16, nr_16, nl_m1, ni_add, ni_mul, ni_sub, ni_cl, ni_in, vp_0, vp_1, vp_2, vp_3, vp_4, vp_5, Int32.reduceToNatClampNeg]
      refine ih (j + 1) a (by omega) ?_
      rw [ht, lenL_app, ← ha]
      simp only [lenL, Nat.add_zero]
    | some C =>
      rw [hC] at hg ht
      have e1 : p / 2 ^ j % 2 = 1 := by
        have : ¬ p / 2 ^ j % 2 = 0 := fun z => by rw [hb.mp z] at hg; cases hg
        omega
      obtain ⟨c1, c2, c3⟩ := hG j C hg
      simp only [e1]
      refine ⟨fun z => absurd z (by decide), fun _ => ?_⟩
      simp (disch := omega) only [vX12_frame_153, vX12_frame_155, vX12_frame_156, vX12_frame_159, vX12_frame_161, vX12_frame_162, vX12_frame_163, vX12_frame_165, vX12_frame_168, ms_o hm, ms_b hm, ms_0 hm, mp_gotSize hm, ms_gotSize hm, pI_c, pL_c, pF_c, pD_c, pA_n, pA_c, pA_rf, pR_c, pR_rf, pV_i, pV_a, pV_n, pV_rf, ldI_c, ldL_c, ldF_c, ldD_c, ldA_c, ldA_n, ldA_rf, dup2_l, dup2_ia, dup2_ir, popA_0, popA_s, getL_z, getL_s, setL_z, setL_1, setL_s, setL2_z, setL2_1, setL2_s, drop2_i, drop2_a, drop2_0, drop2_n, drop2_l, drop2_d, drop2_r, cwd_0, cwd_i, cwd_a, cwd_n, cwd_l, cwd_d, cwd_f, cwd_r, rf_s, rf_n, swi_0, swi_s, zR_b0, zR_b1, zN_b0, zN_b1, entV_i, entV_a, entV_n, entV_r, entV_f, entV_l, entV_d, entV_s, entV_0, List.length_cons, List.length_nil, List.nil_append, List.cons_append, true_and, and_true, Nat.reduceAdd, Nat.reduceLT, Nat.reduceEqDiff, Nat.reduceLeDiff, Nat.reduceSub, Nat.zero_add, Classical.not_not, ex_i, ex_l, ex_d, ex_r, ex_rs, ex_rn, ex_sm, Nat.sub_zero, eq_self, wn_sI, wn_sL, wn_sP, wsh_sI, wsh_sL, wsh_sP, wI_sL, wI_sP, wL_sI, wL_sP, wP_sI, wP_sL, wI_sI, wL_sL, Int32.reduceLT, Int32.reduceLE, true_implies, not_true_eq_false, false_implies, not_false_eq_true, i_10, na_1, nb_1, nm_1, ns_1, nr_1, na_2, nb_2, nm_2, ns_2, nr_2, na_3, nb_3, nm_3, ns_3, nr_3, na_4, nb_4, nm_4, ns_4, nr_4, na_5, nb_5, nm_5, ns_5, nr_5, na_6, nb_6, nm_6, ns_6, nr_6, na_7, nb_7, nm_7, ns_7, nr_7, na_8, nb_8, nm_8, ns_8, nr_8, na_10, nb_10, nm_10, ns_10, nr_10, na_16, nb_16, nm_16, ns_16, nr_16, nl_m1, ni_add, ni_mul, ni_sub, ni_cl, ni_in, vp_0, vp_1, vp_2, vp_3, vp_4, vp_5, Int32.reduceToNatClampNeg, c2]
      refine ih (j + 1) (a + C.length) (by omega) ?_
      rw [ht, lenL_app, ← ha]
      simp only [lenL, Nat.add_zero]
def SpFrame (s : St) (q what ans : Int32) (s' : St) : Prop := ans = (if ¬ ((0 ≤ q ∧ q ≤ s.1 0 13 - 1) ∧ 0 ≤ what ∧ what ≤ 6) then -1 else match frmAt s q.toNatClampNeg with
  | .inl (f, c) => if what = 0 then nI f else if what = 1 then nI c else -5
  | .inr (v, p, L, c) => if what = 0 then 0 else if what = 1 then -5 else if what = 2 then nI v else if what = 3 then s.1 13 (q.toNatClampNeg + 1) else if what = 4 then nI (pop8 p) else if what = 5 then nI (lenL L) else nI c) ∧ Bt none2 s s'
set_option maxRecDepth 100000 in
set_option maxHeartbeats 4000000 in
theorem M_frame {g : Ge} {w : Wd} {k n : Nat} {K : Int32 → Wd → Nat → Nat → Prop} {m : Nat} (hm : MS g m w) (hV : VW (mst m w)) (hW : WW (mst m w)) (q what : Int32) (h : ∀ ans w', Fr (mS m) w w' → SpFrame (mst m w) q what ans (mst m w') → K ans w' k n) : cI g mX12_frame [.ref m, .int q, .int what] w k n K := by
  obtain ⟨u, hu5, hu, hby⟩ := id hW
  change wI w m 13 = nI u at hu
  have h' : ∀ ans w', Fr (frmS m) w w' → ans = (if ¬ ((0 ≤ q ∧ q ≤ nI u - 1) ∧ 0 ≤ what ∧ what ≤ 6) then -1 else match frmAt (mst m w) q.toNatClampNeg with
    | .inl (f, c) => if what = 0 then nI f else if what = 1 then nI c else -5
    | .inr (v, p, L, c) => if what = 0 then 0 else if what = 1 then -5 else if what = 2 then nI v else if what = 3 then wI w (m + 13) (q.toNatClampNeg + 1) else if what = 4 then nI (pop8 p) else if what = 5 then nI (lenL L) else nI c) → K ans w' k n := fun ans w' hf e => h ans w' (hf.mo fun p j z => by unfold frmS at z; unfold mS; omega) ⟨by rw [show (mst m w).1 0 13 = nI u from hu]; exact e, Bt.of hf fun o j hp hn => by unfold pers at hp; unfold frmS; omega⟩
  clear h
  refine cI_of 6 0 0 rfl (by decide +kernel) rfl (Nat.le_of_ble_eq_true rfl) (Nat.zero_le _) (Nat.zero_le _) ?_
  simp only [vX12_frame_0, vX12_frame_1, vX12_frame_2, vX12_frame_3, vX12_frame_6, vX12_frame_7, vX12_frame_8, ms_o hm, ms_b hm, ms_0 hm, pI_c, pL_c, pF_c, pD_c, pA_n, pA_c, pA_rf, pR_c, pR_rf, pV_i, pV_a, pV_n, pV_rf, ldI_c, ldL_c, ldF_c, ldD_c, ldA_c, ldA_n, ldA_rf, dup2_l, dup2_ia, dup2_ir, popA_0, popA_s, getL_z, getL_s, setL_z, setL_1, setL_s, setL2_z, setL2_1, setL2_s, drop2_i, drop2_a, drop2_0, drop2_n, drop2_l, drop2_d, drop2_r, cwd_0, cwd_i, cwd_a, cwd_n, cwd_l, cwd_d, cwd_f, cwd_r, rf_s, rf_n, swi_0, swi_s, zR_b0, zR_b1, zN_b0, zN_b1, entV_i, entV_a, entV_n, entV_r, entV_f, entV_l, entV_d, entV_s, entV_0, List.length_cons, List.length_nil, List.nil_append, List.cons_append, true_and, and_true, Nat.reduceAdd, Nat.reduceLT, Nat.reduceEqDiff, Nat.reduceLeDiff, Nat.reduceSub, Nat.zero_add, Classical.not_not, ex_i, ex_l, ex_d, ex_r, ex_rs, ex_rn, ex_sm, Nat.sub_zero, eq_self, wn_sI, wn_sL, wn_sP, wsh_sI, wsh_sL, wsh_sP, wI_sL, wI_sP, wL_sI, wL_sP, wP_sI, wP_sL, wI_sI, wL_sL, Int32.reduceLT, Int32.reduceLE, true_implies, not_true_eq_false, false_implies, not_false_eq_true, i_10, hu]
  refine X12_within_ok _ _ _ ?_
  by_cases hq : 0 ≤ q ∧ q ≤ nI u - 1
  · simp only [b2i_t hq, vX12_frame_11, vX12_frame_14, vX12_frame_15, vX12_frame_16, vX12_frame_18, pI_c, pL_c, pF_c, pD_c, pA_n, pA_c, pA_rf, pR_c, pR_rf, pV_i, pV_a, pV_n, pV_rf, ldI_c, ldL_c, ldF_c, ldD_c, ldA_c, ldA_n, ldA_rf, dup2_l, dup2_ia, dup2_ir, popA_0, popA_s, getL_z, getL_s, setL_z, setL_1, setL_s, setL2_z, setL2_1, setL2_s, drop2_i, drop2_a, drop2_0, drop2_n, drop2_l, drop2_d, drop2_r, cwd_0, cwd_i, cwd_a, cwd_n, cwd_l, cwd_d, cwd_f, cwd_r, rf_s, rf_n, swi_0, swi_s, zR_b0, zR_b1, zN_b0, zN_b1, entV_i, entV_a, entV_n, entV_r, entV_f, entV_l, entV_d, entV_s, entV_0, List.length_cons, List.length_nil, List.nil_append, List.cons_append, true_and, and_true, Nat.reduceAdd, Nat.reduceLT, Nat.reduceEqDiff, Nat.reduceLeDiff, Nat.reduceSub, Nat.zero_add, Classical.not_not, ex_i, ex_l, ex_d, ex_r, ex_rs, ex_rn, ex_sm, Nat.sub_zero, eq_self, wn_sI, wn_sL, wn_sP, wsh_sI, wsh_sL, wsh_sP, wI_sL, wI_sP, wL_sI, wL_sP, wP_sI, wP_sL, wI_sI, wL_sL, Int32.reduceLT, Int32.reduceLE, true_implies, not_true_eq_false, false_implies, not_false_eq_true, i_10]
    refine X12_within_ok _ _ _ ?_
    by_cases hw6 : 0 ≤ what ∧ what ≤ 6
    · obtain ⟨j, hj, rfl⟩ := i_ltN (by omega) hq.1 hq.2
      obtain ⟨y, hy, rfl⟩ := i_nat (c := 6) (by decide) hw6.1 hw6.2
      simp only [if_neg (not_not_intro (And.intro hq hw6)), ni_cl (show j < 2147483648 by omega)] at h'
      simp (disch := omega) only [b2i_t hw6, vX12_frame_21, vX12_frame_24, vX12_frame_25, vX12_frame_26, vX12_frame_27, vX12_frame_28, ms_o hm, ms_b hm, ms_0 hm, pI_c, pL_c, pF_c, pD_c, pA_n, pA_c, pA_rf, pR_c, pR_rf, pV_i, pV_a, pV_n, pV_rf, ldI_c, ldL_c, ldF_c, ldD_c, ldA_c, ldA_n, ldA_rf, dup2_l, dup2_ia, dup2_ir, popA_0, popA_s, getL_z, getL_s, setL_z, setL_1, setL_s, setL2_z, setL2_1, setL2_s, drop2_i, drop2_a, drop2_0, drop2_n, drop2_l, drop2_d, drop2_r, cwd_0, cwd_i, cwd_a, cwd_n, cwd_l, cwd_d, cwd_f, cwd_r, rf_s, rf_n, swi_0, swi_s, zR_b0, zR_b1, zN_b0, zN_b1, entV_i, entV_a, entV_n, entV_r, entV_f, entV_l, entV_d, entV_s, entV_0, List.length_cons, List.length_nil, List.nil_append, List.cons_append, true_and, and_true, Nat.reduceAdd, Nat.reduceLT, Nat.reduceEqDiff, Nat.reduceLeDiff, Nat.reduceSub, Nat.zero_add, Classical.not_not, ex_i, ex_l, ex_d, ex_r, ex_rs, ex_rn, ex_sm, Nat.sub_zero, eq_self, wn_sI, wn_sL, wn_sP, wsh_sI, wsh_sL, wsh_sP, wI_sL, wI_sP, wL_sI, wL_sP, wP_sI, wP_sL, wI_sI, wL_sL, Int32.reduceLT, Int32.reduceLE, true_implies, not_true_eq_false, false_implies, not_false_eq_true, i_10, na_1, nb_1, nm_1, ns_1, nr_1, na_2, nb_2, nm_2, ns_2, nr_2, na_3, nb_3, nm_3, ns_3, nr_3, na_4, nb_4, nm_4, ns_4, nr_4, na_5, nb_5, nm_5, ns_5, nr_5, na_6, nb_6, nm_6, ns_6, nr_6, na_7, nb_7, nm_7, ns_7, nr_7, na_8, nb_8, nm_8, ns_8, nr_8, na_10, nb_10, nm_10, ns_10, nr_10, na_16, nb_16, nm_16, ns_16, nr_16, nl_m1, ni_add, ni_mul, ni_sub, ni_cl, ni_in, vp_0, vp_1, vp_2, vp_3, vp_4, vp_5, Int32.reduceToNatClampNeg]
      refine X12_isNoFrameA_ok hm (Sm.self m w) hV hW hu hu hu5 hj (fun f c w1 i1 hf1 l1 l2 => ?_) (fun vw p L c nw w1 i1 hvw hVw o1 o2 o3 hcu hcq hf1 r52 r55 r57 r56 hG => ?_)
      · have hm1 := hm.fr hf1
        simp only [i1] at h'
        have h1 := h' _ w1 hf1 rfl
        clear h'
        simp (disch := omega) only [vX12_frame_31, vX12_frame_32, vX12_frame_33, vX12_frame_36, vX12_frame_37, vX12_frame_40, vX12_frame_41, vX12_frame_42, vX12_frame_43, vX12_frame_44, vX12_frame_47, vX12_frame_48, vX12_frame_51, vX12_frame_52, vX12_frame_55, vX12_frame_57, vX12_frame_58, vX12_frame_59, vX12_frame_61, vX12_frame_62, vX12_frame_96, vX12_frame_97, vX12_frame_100, ms_o hm1, ms_b hm1, ms_0 hm1, pI_c, pL_c, pF_c, pD_c, pA_n, pA_c, pA_rf, pR_c, pR_rf, pV_i, pV_a, pV_n, pV_rf, ldI_c, ldL_c, ldF_c, ldD_c, ldA_c, ldA_n, ldA_rf, dup2_l, dup2_ia, dup2_ir, popA_0, popA_s, getL_z, getL_s, setL_z, setL_1, setL_s, setL2_z, setL2_1, setL2_s, drop2_i, drop2_a, drop2_0, drop2_n, drop2_l, drop2_d, drop2_r, cwd_0, cwd_i, cwd_a, cwd_n, cwd_l, cwd_d, cwd_f, cwd_r, rf_s, rf_n, swi_0, swi_s, zR_b0, zR_b1, zN_b0, zN_b1, entV_i, entV_a, entV_n, entV_r, entV_f, entV_l, entV_d, entV_s, entV_0, List.length_cons, List.length_nil, List.nil_append, List.cons_append, true_and, and_true, Nat.reduceAdd, Nat.reduceLT, Nat.reduceEqDiff, Nat.reduceLeDiff, Nat.reduceSub, Nat.zero_add, Classical.not_not, ex_i, ex_l, ex_d, ex_r, ex_rs, ex_rn, ex_sm, Nat.sub_zero, eq_self, wn_sI, wn_sL, wn_sP, wsh_sI, wsh_sL, wsh_sP, wI_sL, wI_sP, wL_sI, wL_sP, wP_sI, wP_sL, wI_sI, wL_sL, Int32.reduceLT, Int32.reduceLE, true_implies, not_true_eq_false, false_implies, not_false_eq_true, i_10, na_1, nb_1, nm_1, ns_1, nr_1, na_2, nb_2, nm_2, ns_2, nr_2, na_3, nb_3, nm_3, ns_3, nr_3, na_4, nb_4, nm_4, ns_4, nr_4, na_5, nb_5, nm_5, ns_5, nr_5, na_6, nb_6, nm_6, ns_6, nr_6, na_7, nb_7, nm_7, ns_7, nr_7, na_8, nb_8, nm_8, ns_8, nr_8, na_10, nb_10, nm_10, ns_10, nr_10, na_16, nb_16, nm_16, ns_16, nr_16, nl_m1, ni_add, ni_mul, ni_sub, ni_cl, ni_in, vp_0, vp_1, vp_2, vp_3, vp_4, vp_5, Int32.reduceToNatClampNeg, up2_n1, up2_at, if_true, if_false, Nat.reduceEqDiff, eq_self, l1, l2]
        refine ⟨fun z => ⟨fun z1 => ?_, fun z1 => ⟨fun _ => ?_, fun q => absurd z1 q⟩⟩, fun z => ?_⟩
        · rw [if_neg z, if_neg z1] at h1; exact h1
        · rw [if_neg z, if_pos z1] at h1; exact h1
        · rw [if_pos z] at h1; exact h1
      · have hm1 := hm.fr hf1
        have e01 : ¬ (0 : Int32) = 1 := by decide
        simp only [i1] at h'
        have h1 := h' _ w1 hf1 rfl
        clear h'
        simp (disch := omega) only [vX12_frame_31, vX12_frame_32, vX12_frame_33, vX12_frame_36, vX12_frame_37, vX12_frame_40, vX12_frame_41, vX12_frame_42, vX12_frame_43, vX12_frame_44, vX12_frame_47, vX12_frame_48, vX12_frame_51, vX12_frame_52, vX12_frame_55, vX12_frame_57, vX12_frame_58, vX12_frame_59, vX12_frame_61, vX12_frame_62, vX12_frame_96, vX12_frame_97, vX12_frame_100, vX12_frame_101, vX12_frame_102, vX12_frame_105, vX12_frame_106, vX12_frame_107, vX12_frame_110, vX12_frame_111, vX12_frame_112, vX12_frame_113, vX12_frame_114, vX12_frame_115, vX12_frame_116, vX12_frame_119, vX12_frame_122, vX12_frame_123, vX12_frame_174, vX12_frame_175, vX12_frame_178, vX12_frame_179, vX12_frame_180, ms_o hm1, ms_b hm1, ms_0 hm1, mp_wire hm1, ms_wire hm1, pI_c, pL_c, pF_c, pD_c, pA_n, pA_c, pA_rf, pR_c, pR_rf, pV_i, pV_a, pV_n, pV_rf, ldI_c, ldL_c, ldF_c, ldD_c, ldA_c, ldA_n, ldA_rf, dup2_l, dup2_ia, dup2_ir, popA_0, popA_s, getL_z, getL_s, setL_z, setL_1, setL_s, setL2_z, setL2_1, setL2_s, drop2_i, drop2_a, drop2_0, drop2_n, drop2_l, drop2_d, drop2_r, cwd_0, cwd_i, cwd_a, cwd_n, cwd_l, cwd_d, cwd_f, cwd_r, rf_s, rf_n, swi_0, swi_s, zR_b0, zR_b1, zN_b0, zN_b1, entV_i, entV_a, entV_n, entV_r, entV_f, entV_l, entV_d, entV_s, entV_0, List.length_cons, List.length_nil, List.nil_append, List.cons_append, true_and, and_true, Nat.reduceAdd, Nat.reduceLT, Nat.reduceEqDiff, Nat.reduceLeDiff, Nat.reduceSub, Nat.zero_add, Classical.not_not, ex_i, ex_l, ex_d, ex_r, ex_rs, ex_rn, ex_sm, Nat.sub_zero, eq_self, wn_sI, wn_sL, wn_sP, wsh_sI, wsh_sL, wsh_sP, wI_sL, wI_sP, wL_sI, wL_sP, wP_sI, wP_sL, wI_sI, wL_sL, Int32.reduceLT, Int32.reduceLE, true_implies, not_true_eq_false, false_implies, not_false_eq_true, i_10, na_1, nb_1, nm_1, ns_1, nr_1, na_2, nb_2, nm_2, ns_2, nr_2, na_3, nb_3, nm_3, ns_3, nr_3, na_4, nb_4, nm_4, ns_4, nr_4, na_5, nb_5, nm_5, ns_5, nr_5, na_6, nb_6, nm_6, ns_6, nr_6, na_7, nb_7, nm_7, ns_7, nr_7, na_8, nb_8, nm_8, ns_8, nr_8, na_10, nb_10, nm_10, ns_10, nr_10, na_16, nb_16, nm_16, ns_16, nr_16, nl_m1, ni_add, ni_mul, ni_sub, ni_cl, ni_in, vp_0, vp_1, vp_2, vp_3, vp_4, vp_5, Int32.reduceToNatClampNeg, up2_n1, up2_at, if_true, if_false, Nat.reduceEqDiff, eq_self, r52, r55, r56, e01]
        refine ⟨fun z => ⟨fun z1 => ⟨fun q => absurd q z1, fun _ => ⟨fun z2 => ?_, fun z2 => ⟨fun z3 => ?_, fun z3 => ⟨fun z4 => ?_, fun z4 => ⟨fun z5 => ?_, fun z5 => ?_⟩⟩⟩⟩⟩, fun z1 => ?_⟩, fun z => ?_⟩
        · rw [if_neg z, if_neg z1, if_pos z2] at h1; exact h1
        · rw [if_neg z, if_neg z1, if_neg z2, if_pos z3] at h1
          rw [hf1.I _ _ (by unfold frmS; omega)]
          exact h1
        · rw [if_neg z, if_neg z1, if_neg z2, if_neg z3, if_pos z4] at h1
          rw [r57]
          exact J6_bitCount_ok p o3.1 h1
        · rw [if_neg z, if_neg z1, if_neg z2, if_neg z3, if_neg z4, if_pos z5] at h1
          have e6 : wI w1 (m + 6) vw = nI nw := (hf1.I _ _ (by unfold frmS; omega)).trans hVw.2.1
          simp (disch := omega) only [vX12_frame_124, pI_c, pL_c, pF_c, pD_c, pA_n, pA_c, pA_rf, pR_c, pR_rf, pV_i, pV_a, pV_n, pV_rf, ldI_c, ldL_c, ldF_c, ldD_c, ldA_c, ldA_n, ldA_rf, dup2_l, dup2_ia, dup2_ir, popA_0, popA_s, getL_z, getL_s, setL_z, setL_1, setL_s, setL2_z, setL2_1, setL2_s, drop2_i, drop2_a, drop2_0, drop2_n, drop2_l, drop2_d, drop2_r, cwd_0, cwd_i, cwd_a, cwd_n, cwd_l, cwd_d, cwd_f, cwd_r, rf_s, rf_n, swi_0, swi_s, zR_b0, zR_b1, zN_b0, zN_b1, entV_i, entV_a, entV_n, entV_r, entV_f, entV_l, entV_d, entV_s, entV_0, List.length_cons, List.length_nil, List.nil_append, List.cons_append, true_and, and_true, Nat.reduceAdd, Nat.reduceLT, Nat.reduceEqDiff, Nat.reduceLeDiff, Nat.reduceSub, Nat.zero_add, Classical.not_not, ex_i, ex_l, ex_d, ex_r, ex_rs, ex_rn, ex_sm, Nat.sub_zero, eq_self, wn_sI, wn_sL, wn_sP, wsh_sI, wsh_sL, wsh_sP, wI_sL, wI_sP, wL_sI, wL_sP, wP_sI, wP_sL, wI_sI, wL_sL, Int32.reduceLT, Int32.reduceLE, true_implies, not_true_eq_false, false_implies, not_false_eq_true, i_10, na_1, nb_1, nm_1, ns_1, nr_1, na_2, nb_2, nm_2, ns_2, nr_2, na_3, nb_3, nm_3, ns_3, nr_3, na_4, nb_4, nm_4, ns_4, nr_4, na_5, nb_5, nm_5, ns_5, nr_5, na_6, nb_6, nm_6, ns_6, nr_6, na_7, nb_7, nm_7, ns_7, nr_7, na_8, nb_8, nm_8, ns_8, nr_8, na_10, nb_10, nm_10, ns_10, nr_10, na_16, nb_16, nm_16, ns_16, nr_16, nl_m1, ni_add, ni_mul, ni_sub, ni_cl, ni_in, vp_0, vp_1, vp_2, vp_3, vp_4, vp_5, Int32.reduceToNatClampNeg]
          exact X12_frame_loop hm1 r57 hvw r56 e6 hG o3 o2 hVw.1 (fun k C hk => (hG k C hk).1) ⟨_, rfl, h1⟩ nw 0 0 (by omega) rfl
        · rw [if_neg z, if_neg z1, if_neg z2, if_neg z3, if_neg z4, if_neg z5] at h1
          rw [show c - 2 + 2 = c by omega]
          exact h1
        · rw [if_neg z, if_pos z1] at h1; exact h1
        · rw [if_pos z] at h1; exact h1
    · simp only [b2i_f hw6, vX12_frame_21, vX12_frame_24, vX12_frame_25, pI_c, pL_c, pF_c, pD_c, pA_n, pA_c, pA_rf, pR_c, pR_rf, pV_i, pV_a, pV_n, pV_rf, ldI_c, ldL_c, ldF_c, ldD_c, ldA_c, ldA_n, ldA_rf, dup2_l, dup2_ia, dup2_ir, popA_0, popA_s, getL_z, getL_s, setL_z, setL_1, setL_s, setL2_z, setL2_1, setL2_s, drop2_i, drop2_a, drop2_0, drop2_n, drop2_l, drop2_d, drop2_r, cwd_0, cwd_i, cwd_a, cwd_n, cwd_l, cwd_d, cwd_f, cwd_r, rf_s, rf_n, swi_0, swi_s, zR_b0, zR_b1, zN_b0, zN_b1, entV_i, entV_a, entV_n, entV_r, entV_f, entV_l, entV_d, entV_s, entV_0, List.length_cons, List.length_nil, List.nil_append, List.cons_append, true_and, and_true, Nat.reduceAdd, Nat.reduceLT, Nat.reduceEqDiff, Nat.reduceLeDiff, Nat.reduceSub, Nat.zero_add, Classical.not_not, ex_i, ex_l, ex_d, ex_r, ex_rs, ex_rn, ex_sm, Nat.sub_zero, eq_self, wn_sI, wn_sL, wn_sP, wsh_sI, wsh_sL, wsh_sP, wI_sL, wI_sP, wL_sI, wL_sP, wP_sI, wP_sL, wI_sI, wL_sL, Int32.reduceLT, Int32.reduceLE, true_implies, not_true_eq_false, false_implies, not_false_eq_true, i_10]
      exact h' _ _ Fr.rf (by rw [if_pos fun z => hw6 z.2])
  · simp only [b2i_f hq, vX12_frame_11, vX12_frame_14, vX12_frame_15, vX12_frame_16, vX12_frame_18, vX12_frame_21, vX12_frame_24, vX12_frame_25, pI_c, pL_c, pF_c, pD_c, pA_n, pA_c, pA_rf, pR_c, pR_rf, pV_i, pV_a, pV_n, pV_rf, ldI_c, ldL_c, ldF_c, ldD_c, ldA_c, ldA_n, ldA_rf, dup2_l, dup2_ia, dup2_ir, popA_0, popA_s, getL_z, getL_s, setL_z, setL_1, setL_s, setL2_z, setL2_1, setL2_s, drop2_i, drop2_a, drop2_0, drop2_n, drop2_l, drop2_d, drop2_r, cwd_0, cwd_i, cwd_a, cwd_n, cwd_l, cwd_d, cwd_f, cwd_r, rf_s, rf_n, swi_0, swi_s, zR_b0, zR_b1, zN_b0, zN_b1, entV_i, entV_a, entV_n, entV_r, entV_f, entV_l, entV_d, entV_s, entV_0, List.length_cons, List.length_nil, List.nil_append, List.cons_append, true_and, and_true, Nat.reduceAdd, Nat.reduceLT, Nat.reduceEqDiff, Nat.reduceLeDiff, Nat.reduceSub, Nat.zero_add, Classical.not_not, ex_i, ex_l, ex_d, ex_r, ex_rs, ex_rn, ex_sm, Nat.sub_zero, eq_self, wn_sI, wn_sL, wn_sP, wsh_sI, wsh_sL, wsh_sP, wI_sL, wI_sP, wL_sI, wL_sP, wP_sI, wP_sL, wI_sI, wL_sL, Int32.reduceLT, Int32.reduceLE, true_implies, not_true_eq_false, false_implies, not_false_eq_true, i_10]
    exact h' _ _ Fr.rf (by rw [if_pos fun z => hq z.1])
