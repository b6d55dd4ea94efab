/-! packing: the loop over the fields -/
def VerS (s : St) (v n : Nat) : Prop := n ≤ 8 ∧ s.1 6 v = nI n ∧ ∀ k, k < n → FldW (fun j => s.1 (7 + j) (8 * v + k))
theorem rdCode_c (sl rk rs c v : Int32) : rdCode sl rk rs c v = 0 ∨ rdCode sl rk rs c v = -12 ∨ rdCode sl rk rs c v = -16 := by
  unfold rdCode
  split
  · exact Or.inr (Or.inl rfl)
  split
  · exact Or.inr (Or.inr rfl)
  split
  · exact Or.inr (Or.inl rfl)
  · exact Or.inl rfl
theorem fbyt_len (s : St) (f : Nat) (h : fnn s f ≤ 16) : (fbyt s f).length ≤ 147 := by
  have hb := boxL_len (fKd s f) (fVl s f) (fnn s f)
  have hn : (numsL (fVl s f) (fnn s f)).length ≤ 146 := by
    unfold numsL
    have h1 := ruS_len (f := fVl s f) (n := fnn s f) (pW_le (fVl s f) (fnn s f)) (fnn s f - 1) 0
    have h2 := bpL_len (f := fVl s f) (md := pMd (fVl s f) (fnn s f)) (pW_le (fVl s f) (fnn s f)) (smx_le (fVl s f) (fnn s f)) (fnn s f)
    rw [List.length_cons, List.length_append]
    split <;> split <;> simp only [List.length_cons, List.length_nil] <;> omega
  unfold fbyt
  rw [List.length_append]
  split <;> split <;> (try split) <;> simp only [List.length_cons, List.length_nil] <;> omega
def pkK (m k : Nat) (a j : Nat) : Prop := (a = m ∧ 42 ≤ j) ∨ a = m + 32 ∨ a = m + 33 ∨ (a = m + 34 ∧ j = k) ∨ ((a = m + 35 ∨ a = m + 36) ∧ 16 * k ≤ j ∧ j < 16 * k + 16)
set_option maxRecDepth 100000 in
set_option maxHeartbeats 4000000 in
theorem X12_packs_loop {g : Ge} {m k0 n0 v n : Nat} {K : Option Value → Wd → Prop} {s : St} (hv : v < 6) (hR : RW s) (hV : VerS s v n) : ∀ (d k : Nat) (w : Wd) (p : Int32) (L : List Int32) (o3 o4 o5 o6 o7 o8 o9 : Option Value), k + d = n → MS g m w → Sm m w s → OutM m w L → L.length ≤ 147 * k → wI w m 56 = nI v → wI w m 57 = p → GotM m w s v k → pk s v k = .inr (p, L) →
    (∀ w' e, Fr (pkS m) w w' → pk s v n = .inl e → wI w' m 42 = e.1 → wI w' m 43 = e.2.1 → wI w' m 44 = e.2.2 → K (some (.int (-20))) w') →
    (∀ w' p L, Fr (pkS m) w w' → pk s v n = .inr (p, L) → L.length ≤ 1176 → wI w' m 45 = nI (1 + L.length) → bufH (wI w' (m + 32)) 0 (p :: L) → wI w' m 56 = nI v → wI w' m 57 = p → GotM m w' s v n → K (some (.int 0)) w') →
    R g mX12_packs K 17 [some (.ref m), some (.int (nI v)), some (.int (nI k)), o3, o4, o5, o6, o7, o8, o9] [] w k0 n0 := by
  intro d
  obtain ⟨hn8, hmany, hfld⟩ := hV
  induction d with
  | zero =>
    intro k w p L o3 o4 o5 o6 o7 o8 o9 hk hm hS hL hl hg hp hG hpk hE hK
    obtain rfl : k = n := by omega
    have e6 : wI w (m + 6) v = nI k := by rw [(hS 6 v (by decide) (by decide)).1]; exact hmany
    simp (disch := omega) only [vX12_packs_17, vX12_packs_18, vX12_packs_19, vX12_packs_22, vX12_packs_23, vX12_packs_24, vX12_packs_360, vX12_packs_361, vX12_packs_364, vX12_packs_365, vX12_packs_366, vX12_packs_369, vX12_packs_370, vX12_packs_371, ms_o hm, ms_b hm, ms_0 hm, mp_many hm, ms_many hm, mp_out hm, ms_out hm, pI_c, pL_c, pF_c, pD_c, pA_n, pA_c, pA_rf, pR_c, pR_rf, pV_i, pV_a, pV_n, pV_rf, ldI_c, ldL_c, ldF_c, ldD_c, ldA_c, ldA_n, ldA_rf, dup2_l, dup2_ia, dup2_ir, popA_0, popA_s, getL_z, getL_s, setL_z, setL_1, setL_s, setL2_z, setL2_1, setL2_s, drop2_i, drop2_a, drop2_0, drop2_n, drop2_l, drop2_d, drop2_r, cwd_0, cwd_i, cwd_a, cwd_n, cwd_l, cwd_d, cwd_f, cwd_r, rf_s, rf_n, swi_0, swi_s, zR_b0, zR_b1, zN_b0, zN_b1, entV_i, entV_a, entV_n, entV_r, entV_f, entV_l, entV_d, entV_s, entV_0, List.length_cons, List.length_nil, List.nil_append, List.cons_append, true_and, and_true, Nat.reduceAdd, Nat.reduceLT, Nat.reduceEqDiff, Nat.reduceLeDiff, Nat.reduceSub, Nat.zero_add, Classical.not_not, ex_i, ex_l, ex_d, ex_r, ex_rs, ex_rn, ex_sm, Nat.sub_zero, eq_self, wn_sI, wn_sL, wn_sP, wsh_sI, wsh_sL, wsh_sP, wI_sL, wI_sP, wL_sI, wL_sP, wP_sI, wP_sL, wI_sI, wL_sL, Int32.reduceLT, Int32.reduceLE, true_implies, not_true_eq_false, false_implies, not_false_eq_true, i_10, na_1, nb_1, nm_1, ns_1, nr_1, na_2, nb_2, nm_2, ns_2, nr_2, na_3, nb_3, nm_3, ns_3, nr_3, na_4, nb_4, nm_4, ns_4, nr_4, na_5, nb_5, nm_5, ns_5, nr_5, na_6, nb_6, nm_6, ns_6, nr_6, na_7, nb_7, nm_7, ns_7, nr_7, na_8, nb_8, nm_8, ns_8, nr_8, na_10, nb_10, nm_10, ns_10, nr_10, na_16, nb_16, nm_16, ns_16, nr_16, nl_m1, ni_add, ni_mul, ni_sub, ni_cl, ni_in, vp_0, vp_1, vp_2, vp_3, vp_4, vp_5, Int32.reduceToNatClampNeg, ni_le, ni_lt, ni_eq, ni_le1, ni_le0, ni_eq0, ni_eq1, ni_eq2, ni_eq8, ni_eq9, e6, Nat.le_refl, hp]
    have hfr : Fr (pkS m) w (sI w (m + 32) 0 p) := Fr.rf.i _ (Or.inr ⟨by omega, by omega⟩)
    refine hK _ p L hfr hpk (by omega) ?_ ?_ ?_ ?_ ?_
    · rw [wI_ne (by omega)]; exact hL.1
    · intro i hi
      cases i with
      | zero => rw [wI_at, if_pos rfl]; rfl
      | succ i =>
        rw [wI_at, if_neg (by omega)]
        have := hL.2 i (by simpa using hi)
        rw [List.getElem?_cons_succ, this, show 0 + (i + 1) = 1 + i by omega]
    · rw [wI_ne (by omega)]; exact hg
    · rw [wI_ne (by omega)]; exact hp
    · intro q hq hne
      rw [wI_ne (by omega)]
      refine ⟨(hG q hq hne).1, (hG q hq hne).2.1, fun i hi => ?_⟩
      rw [wI_ne (by omega)]
      exact (hG q hq hne).2.2 i hi
  | succ d ih =>
    intro k w p L o3 o4 o5 o6 o7 o8 o9 hk hm hS hL hl hg hp hG hpk hE hK
    have hlt : ¬ n ≤ k := by omega
    have e6 : wI w (m + 6) v = nI n := by rw [(hS 6 v (by decide) (by decide)).1]; exact hmany
    obtain ⟨sl, kd, c, nd, td, hs8, hkd, hc, hnd, htd, f0, f1, f2, f3, f4, -, -, -, -⟩ := hfld k (by omega)
    have e7 : wI w (m + 7) (8 * v + k) = nI sl := by rw [(hS 7 _ (by decide) (by decide)).1]; exact f0
    have e8 : wI w (m + 8) (8 * v + k) = nI kd := by rw [(hS 8 _ (by decide) (by decide)).1]; exact f1
    have e9 : wI w (m + 9) (8 * v + k) = nI c := by rw [(hS 9 _ (by decide) (by decide)).1]; exact f2
    have e10 : wI w (m + 10) (8 * v + k) = nI nd := by rw [(hS 10 _ (by decide) (by decide)).1]; exact f3
    have esl : wI w (m + 1) sl = fsl s (8 * v + k) := by
      unfold fsl
      rw [(hS 1 _ (by decide) (by decide)).1, show s.1 7 (8 * v + k) = nI sl from f0, ni_cl (by omega)]
    have hpk1 : pk s v (k + 1) = if fsl s (8 * v + k) = -1 then (if s.1 10 (8 * v + k) = 1 then .inl (nI k, 0, -15) else .inr (p, L)) else if fcode s (8 * v + k) = 0 then .inr (p ||| (1 <<< (nI k &&& 31)), L ++ fbyt s (8 * v + k)) else .inl (nI k, fcell s (8 * v + k), fcode s (8 * v + k)) := by
      rw [pk, hpk]
    have hend : ∀ e, pk s v (k + 1) = .inl e → pk s v n = .inl e := fun e he => by
      have := pk_inl he (n - (k + 1))
      rwa [show k + 1 + (n - (k + 1)) = n by omega] at this
    simp (disch := omega) only [vX12_packs_17, vX12_packs_18, vX12_packs_19, vX12_packs_22, vX12_packs_23, vX12_packs_24, vX12_packs_27, vX12_packs_29, vX12_packs_30, vX12_packs_31, vX12_packs_32, vX12_packs_33, vX12_packs_34, vX12_packs_35, vX12_packs_38, vX12_packs_39, vX12_packs_40, vX12_packs_42, vX12_packs_43, vX12_packs_46, vX12_packs_48, vX12_packs_49, vX12_packs_50, ms_o hm, ms_b hm, ms_0 hm, mp_many hm, ms_many hm, mp_slotOf hm, ms_slotOf hm, mp_slot hm, ms_slot hm, pI_c, pL_c, pF_c, pD_c, pA_n, pA_c, pA_rf, pR_c, pR_rf, pV_i, pV_a, pV_n, pV_rf, ldI_c, ldL_c, ldF_c, ldD_c, ldA_c, ldA_n, ldA_rf, dup2_l, dup2_ia, dup2_ir, popA_0, popA_s, getL_z, getL_s, setL_z, setL_1, setL_s, setL2_z, setL2_1, setL2_s, drop2_i, drop2_a, drop2_0, drop2_n, drop2_l, drop2_d, drop2_r, cwd_0, cwd_i, cwd_a, cwd_n, cwd_l, cwd_d, cwd_f, cwd_r, rf_s, rf_n, swi_0, swi_s, zR_b0, zR_b1, zN_b0, zN_b1, entV_i, entV_a, entV_n, entV_r, entV_f, entV_l, entV_d, entV_s, entV_0, List.length_cons, List.length_nil, List.nil_append, List.cons_append, true_and, and_true, Nat.reduceAdd, Nat.reduceLT, Nat.reduceEqDiff, Nat.reduceLeDiff, Nat.reduceSub, Nat.zero_add, Classical.not_not, ex_i, ex_l, ex_d, ex_r, ex_rs, ex_rn, ex_sm, Nat.sub_zero, eq_self, wn_sI, wn_sL, wn_sP, wsh_sI, wsh_sL, wsh_sP, wI_sL, wI_sP, wL_sI, wL_sP, wP_sI, wP_sL, wI_sI, wL_sL, Int32.reduceLT, Int32.reduceLE, true_implies, not_true_eq_false, false_implies, not_false_eq_true, i_10, na_1, nb_1, nm_1, ns_1, nr_1, na_2, nb_2, nm_2, ns_2, nr_2, na_3, nb_3, nm_3, ns_3, nr_3, na_4, nb_4, nm_4, ns_4, nr_4, na_5, nb_5, nm_5, ns_5, nr_5, na_6, nb_6, nm_6, ns_6, nr_6, na_7, nb_7, nm_7, ns_7, nr_7, na_8, nb_8, nm_8, ns_8, nr_8, na_10, nb_10, nm_10, ns_10, nr_10, na_16, nb_16, nm_16, ns_16, nr_16, nl_m1, ni_add, ni_mul, ni_sub, ni_cl, ni_in, vp_0, vp_1, vp_2, vp_3, vp_4, vp_5, Int32.reduceToNatClampNeg, ni_le, ni_lt, ni_eq, ni_le1, ni_le0, ni_eq0, ni_eq1, ni_eq2, ni_eq8, ni_eq9, e6, hlt, e7, esl]
    refine ⟨fun hs1 => ?_, fun hs1 => ?_⟩
    · rw [if_neg hs1] at hpk1
      simp (disch := omega) only [vX12_packs_72, vX12_packs_73, vX12_packs_74, ms_o hm, ms_b hm, ms_0 hm, pI_c, pL_c, pF_c, pD_c, pA_n, pA_c, pA_rf, pR_c, pR_rf, pV_i, pV_a, pV_n, pV_rf, ldI_c, ldL_c, ldF_c, ldD_c, ldA_c, ldA_n, ldA_rf, dup2_l, dup2_ia, dup2_ir, popA_0, popA_s, getL_z, getL_s, setL_z, setL_1, setL_s, setL2_z, setL2_1, setL2_s, drop2_i, drop2_a, drop2_0, drop2_n, drop2_l, drop2_d, drop2_r, cwd_0, cwd_i, cwd_a, cwd_n, cwd_l, cwd_d, cwd_f, cwd_r, rf_s, rf_n, swi_0, swi_s, zR_b0, zR_b1, zN_b0, zN_b1, entV_i, entV_a, entV_n, entV_r, entV_f, entV_l, entV_d, entV_s, entV_0, List.length_cons, List.length_nil, List.nil_append, List.cons_append, true_and, and_true, Nat.reduceAdd, Nat.reduceLT, Nat.reduceEqDiff, Nat.reduceLeDiff, Nat.reduceSub, Nat.zero_add, Classical.not_not, ex_i, ex_l, ex_d, ex_r, ex_rs, ex_rn, ex_sm, Nat.sub_zero, eq_self, wn_sI, wn_sL, wn_sP, wsh_sI, wsh_sL, wsh_sP, wI_sL, wI_sP, wL_sI, wL_sP, wP_sI, wP_sL, wI_sI, wL_sL, Int32.reduceLT, Int32.reduceLE, true_implies, not_true_eq_false, false_implies, not_false_eq_true, i_10]
      refine X12_reads_ok hm (hS.RW hR) (by omega) hs8 e7 (by rw [esl]; exact hs1) fun w1 hf1 hrow hcell => ?_
      have ec : rdCode (wI w (m + 1) sl) (wI w (m + 2) (wI w (m + 1) sl).toNatClampNeg) (wI w (m + 3) (wI w (m + 1) sl).toNatClampNeg) (wI w (m + 9) (8 * v + k)) (wI w (m + 8) (8 * v + k)) = fcode s (8 * v + k) := by
        unfold fcode frow
        rw [esl, (hS 2 _ (by decide) (by decide)).1, (hS 3 _ (by decide) (by decide)).1, (hS 9 _ (by decide) (by decide)).1, (hS 8 _ (by decide) (by decide)).1]
      rw [ec] at hrow hcell ⊢
      have hm1 := hm.fr hf1
      by_cases hc0 : fcode s (8 * v + k) = 0
      · rw [if_pos hc0] at hpk1
        obtain ⟨r, z, hr, hz, hfs, hrs, hcells⟩ : ∃ r z, r < 8 ∧ z ≤ 16 ∧ fsl s (8 * v + k) = nI r ∧ s.1 3 r = nI z ∧ True := by
          have hsl : s.1 1 sl = fsl s (8 * v + k) := by rw [← esl, (hS 1 _ (by decide) (by decide)).1]
          rcases hR sl hs8 with e | e | ⟨r, hr, e, x, z, hx, hz, hV⟩
          · exact absurd (hsl.symm.trans e) hs1
          · rw [hsl] at e
            unfold fcode rdCode at hc0
            rw [if_pos e] at hc0
            exact absurd hc0 (by decide)
          · exact ⟨r, z, hr, hV.2.1, hsl.symm.trans e, hz, trivial⟩
        have hfrow : frow s (8 * v + k) = r := by unfold frow; rw [hfs, ni_cl (by omega)]
        have hfn : fnn s (8 * v + k) = z := by unfold fnn; rw [hfrow, hrs, ni_cl (by omega)]
        have hrow1 : ∀ j, j < z → wL w1 (m + 33) j = fVl s (8 * v + k) j := by
          intro j hj
          rw [hrow hc0 r z (by rw [esl]; exact hfs) hr (by rw [(hS 3 _ (by decide) (by decide)).1]; exact hrs) hz j hj]
          unfold fVl fKd
          rw [hfrow, (hS 4 _ (by decide) (by decide)).1, (hS 5 _ (by decide) (by decide)).2, (hS 8 _ (by decide) (by decide)).1]
        have hS1 : Sm m w1 s := hS.fr hf1 (by unfold rdS; omega)
        have g1 : wI w1 (m + 1) sl = nI r := by rw [(hS1 1 _ (by decide) (by decide)).1, ← (hS 1 _ (by decide) (by decide)).1, esl, hfs]
        have g3 : wI w1 (m + 3) r = nI z := by rw [(hS1 3 _ (by decide) (by decide)).1]; exact hrs
        have g9 : wI w1 (m + 9) (8 * v + k) = nI c := by rw [(hS1 9 _ (by decide) (by decide)).1]; exact f2
        have gp : wI w1 m 57 = p := by rw [hf1.I _ _ (by unfold rdS; omega)]; exact hp
        have hF1 : Fr (pkK m k) w w1 := hf1.mo fun a j q => by unfold rdS at q; unfold pkK; omega
        have hL1 : OutM m w1 L := by
          unfold OutM at hL ⊢
          rw [hf1.I m _ (by unfold rdS; omega), show wI w1 (m + 32) = wI w (m + 32) from funext fun j => hf1.I _ _ (by unfold rdS; omega)]
          exact hL
        generalize hq57 : (p ||| (1 <<< (nI k &&& 31))) = p' at hpk1
        have h354 : ∀ w5 o3 o4 o5 o6 o7 o8 o9, Fr (pkK m k) w w5 → OutM m w5 (L ++ fbyt s (8 * v + k)) → wI w5 m 57 = p' → wI w5 m 56 = nI v → wI w5 (m + 34) k = nI z → (∀ j, j < z → wI w5 (m + 35) (16 * k + j) = (if s.1 8 (8 * v + k) = 8 then fKd s (8 * v + k) j else s.1 8 (8 * v + k)) ∧ wL w5 (m + 36) (16 * k + j) = fVl s (8 * v + k) j) → R g mX12_packs K 354 [some (.ref m), some (.int (nI v)), some (.int (nI k)), o3, o4, o5, o6, o7, o8, o9] [] w5 k0 n0 := by
          intro w5 o3 o4 o5 o6 o7 o8 o9 hf5 hL5 hp5 hg5 hsz5 hgot5
          have hbl := fbyt_len s (8 * v + k) (by omega)
          have hfp : Fr (pkS m) w w5 := hf5.mo fun a j q => by unfold pkK at q; unfold pkS; omega
          simp (disch := omega) only [vX12_packs_354, vX12_packs_357, pI_c, pL_c, pF_c, pD_c, pA_n, pA_c, pA_rf, pR_c, pR_rf, pV_i, pV_a, pV_n, pV_rf, ldI_c, ldL_c, ldF_c, ldD_c, ldA_c, ldA_n, ldA_rf, dup2_l, dup2_ia, dup2_ir, popA_0, popA_s, getL_z, getL_s, setL_z, setL_1, setL_s, setL2_z, setL2_1, setL2_s, drop2_i, drop2_a, drop2_0, drop2_n, drop2_l, drop2_d, drop2_r, cwd_0, cwd_i, cwd_a, cwd_n, cwd_l, cwd_d, cwd_f, cwd_r, rf_s, rf_n, swi_0, swi_s, zR_b0, zR_b1, zN_b0, zN_b1, entV_i, entV_a, entV_n, entV_r, entV_f, entV_l, entV_d, entV_s, entV_0, List.length_cons, List.length_nil, List.nil_append, List.cons_append, true_and, and_true, Nat.reduceAdd, Nat.reduceLT, Nat.reduceEqDiff, Nat.reduceLeDiff, Nat.reduceSub, Nat.zero_add, Classical.not_not, ex_i, ex_l, ex_d, ex_r, ex_rs, ex_rn, ex_sm, Nat.sub_zero, eq_self, wn_sI, wn_sL, wn_sP, wsh_sI, wsh_sL, wsh_sP, wI_sL, wI_sP, wL_sI, wL_sP, wP_sI, wP_sL, wI_sI, wL_sL, Int32.reduceLT, Int32.reduceLE, true_implies, not_true_eq_false, false_implies, not_false_eq_true, i_10, na_1, nb_1, nm_1, ns_1, nr_1, na_2, nb_2, nm_2, ns_2, nr_2, na_3, nb_3, nm_3, ns_3, nr_3, na_4, nb_4, nm_4, ns_4, nr_4, na_5, nb_5, nm_5, ns_5, nr_5, na_6, nb_6, nm_6, ns_6, nr_6, na_7, nb_7, nm_7, ns_7, nr_7, na_8, nb_8, nm_8, ns_8, nr_8, na_10, nb_10, nm_10, ns_10, nr_10, na_16, nb_16, nm_16, ns_16, nr_16, nl_m1, ni_add, ni_mul, ni_sub, ni_cl, ni_in, vp_0, vp_1, vp_2, vp_3, vp_4, vp_5, Int32.reduceToNatClampNeg]
          refine ih (k + 1) w5 p' _ _ _ _ _ _ _ _ (by omega) (hm.fr hf5) (hS.fr hf5 (by unfold pkK; omega)) hL5 (by rw [List.length_append]; omega) hg5 hp5 ?_ hpk1 (fun w' e q1 q2 q3 q4 q5 => hE w' e (hfp.tr q1) q2 q3 q4 q5) (fun w' p L q1 q2 q3 q4 q5 q6 q7 q8 => hK w' p L (hfp.tr q1) q2 q3 q4 q5 q6 q7 q8)
          intro q hq hne
          by_cases eq : q = k
          · subst eq
            rw [hfn]
            exact ⟨hz, hsz5, hgot5⟩
          · obtain ⟨hnn, y1, y2⟩ := hG q (by omega) hne
            refine ⟨hnn, by rw [hf5.I _ _ (by unfold pkK; omega)]; exact y1, fun i hi => ?_⟩
            rw [hf5.I _ _ (by unfold pkK; omega), hf5.L _ _ (by unfold pkK; omega)]
            exact y2 i hi
        have h157 : ∀ w3 L3 o7 o8 o9, Fr (fun a j => (a = m ∧ (j = 45 ∨ j = 57)) ∨ a = m + 32 ∨ (a = m + 34 ∧ j = k)) w1 w3 → OutM m w3 L3 → L3 = L ++ (if nI c = 0 then [nI z] else []) → wI w3 m 57 = p' → wI w3 (m + 34) k = nI z → R g mX12_packs K 157 [some (.ref m), some (.int (nI v)), some (.int (nI k)), some (.int (nI (8 * v + k))), some (.int (nI sl)), some (.int 0), some (.int (nI z)), o7, o8, o9] [] w3 k0 n0 := by
          intro w3 L3 o7 o8 o9 hf3 hL3 he3 hp3 hsz3
          have hF3 : Fr (pkK m k) w w3 := hF1.tr (hf3.mo fun a j q => by unfold pkK; omega)
          have hm3 := hm.fr hF3
          have hS3 : Sm m w3 s := hS.fr hF3 (by unfold pkK; omega)
          have hl3 : L3.length ≤ L.length + 1 := by
            rw [he3, List.length_append]
            split
            · exact Nat.le_refl _
            · exact Nat.le_add_right _ _
          simp (disch := omega) only [vX12_packs_157, vX12_packs_158, pI_c, pL_c, pF_c, pD_c, pA_n, pA_c, pA_rf, pR_c, pR_rf, pV_i, pV_a, pV_n, pV_rf, ldI_c, ldL_c, ldF_c, ldD_c, ldA_c, ldA_n, ldA_rf, dup2_l, dup2_ia, dup2_ir, popA_0, popA_s, getL_z, getL_s, setL_z, setL_1, setL_s, setL2_z, setL2_1, setL2_s, drop2_i, drop2_a, drop2_0, drop2_n, drop2_l, drop2_d, drop2_r, cwd_0, cwd_i, cwd_a, cwd_n, cwd_l, cwd_d, cwd_f, cwd_r, rf_s, rf_n, swi_0, swi_s, zR_b0, zR_b1, zN_b0, zN_b1, entV_i, entV_a, entV_n, entV_r, entV_f, entV_l, entV_d, entV_s, entV_0, List.length_cons, List.length_nil, List.nil_append, List.cons_append, true_and, and_true, Nat.reduceAdd, Nat.reduceLT, Nat.reduceEqDiff, Nat.reduceLeDiff, Nat.reduceSub, Nat.zero_add, Classical.not_not, ex_i, ex_l, ex_d, ex_r, ex_rs, ex_rn, ex_sm, Nat.sub_zero, eq_self, wn_sI, wn_sL, wn_sP, wsh_sI, wsh_sL, wsh_sP, wI_sL, wI_sP, wL_sI, wL_sP, wP_sI, wP_sL, wI_sI, wL_sL, Int32.reduceLT, Int32.reduceLE, true_implies, not_true_eq_false, false_implies, not_false_eq_true, i_10]
          refine X12_cells_loop (vw := s.1 8 (8 * v + k)) (b5 := 0) (Kf := fKd s (8 * v + k)) (Vf := fVl s (8 * v + k)) (L := L3) (by omega) (by omega) hs8 hr hz (by omega) z 0 w3 o8 o9 (by omega) hm3 (hS3 8 _ (by decide) (by decide)).1 ?_ ?_ ?_ ?_ (fun j hj => absurd hj (Nat.not_lt_zero j)) ?_
          · rw [hf3.I _ _ (by omega)]; exact g1
          · intro j hj
            rw [(hS3 4 _ (by decide) (by decide)).1]
            unfold fKd
            rw [hfrow]
          · intro j hj
            rw [hf3.L _ _ (by omega)]
            exact hrow1 j hj
          · rw [boxL, ite_self, List.append_nil]; exact hL3
          · intro w4 p8 p9 hf4 hL4 hgot4
            have hF4 : Fr (pkK m k) w w4 := hF3.tr (hf4.mo fun a j q => by unfold celS outS at q; unfold pkK; omega)
            have hm4 := hm.fr hF4
            have hS4 : Sm m w4 s := hS.fr hF4 (by unfold pkK; omega)
            have g8 : wI w4 (m + 8) (8 * v + k) = s.1 8 (8 * v + k) := (hS4 8 _ (by decide) (by decide)).1
            have gsz : wI w4 (m + 34) k = nI z := by rw [hf4.I _ _ (by unfold celS outS; omega)]; exact hsz3
            have g57 : wI w4 m 57 = p' := by rw [hf4.I _ _ (by unfold celS outS; omega)]; exact hp3
            have g56 : wI w4 m 56 = nI v := by rw [hf4.I _ _ (by unfold celS outS; omega), hf3.I _ _ (by omega), hf1.I _ _ (by unfold rdS; omega)]; exact hg
            have hrow4 : ∀ j, j < z → wL w4 (m + 33) j = fVl s (8 * v + k) j := by
              intro j hj
              rw [hf4.L _ _ (by unfold celS outS; omega), hf3.L _ _ (by omega)]
              exact hrow1 j hj
            simp (disch := omega) only [vX12_packs_332, vX12_packs_333, vX12_packs_336, vX12_packs_337, vX12_packs_338, vX12_packs_340, vX12_packs_343, vX12_packs_345, ms_o hm4, ms_b hm4, ms_0 hm4, mp_kindOf hm4, ms_kindOf hm4, pI_c, pL_c, pF_c, pD_c, pA_n, pA_c, pA_rf, pR_c, pR_rf, pV_i, pV_a, pV_n, pV_rf, ldI_c, ldL_c, ldF_c, ldD_c, ldA_c, ldA_n, ldA_rf, dup2_l, dup2_ia, dup2_ir, popA_0, popA_s, getL_z, getL_s, setL_z, setL_1, setL_s, setL2_z, setL2_1, setL2_s, drop2_i, drop2_a, drop2_0, drop2_n, drop2_l, drop2_d, drop2_r, cwd_0, cwd_i, cwd_a, cwd_n, cwd_l, cwd_d, cwd_f, cwd_r, rf_s, rf_n, swi_0, swi_s, zR_b0, zR_b1, zN_b0, zN_b1, entV_i, entV_a, entV_n, entV_r, entV_f, entV_l, entV_d, entV_s, entV_0, List.length_cons, List.length_nil, List.nil_append, List.cons_append, true_and, and_true, Nat.reduceAdd, Nat.reduceLT, Nat.reduceEqDiff, Nat.reduceLeDiff, Nat.reduceSub, Nat.zero_add, Classical.not_not, ex_i, ex_l, ex_d, ex_r, ex_rs, ex_rn, ex_sm, Nat.sub_zero, eq_self, wn_sI, wn_sL, wn_sP, wsh_sI, wsh_sL, wsh_sP, wI_sL, wI_sP, wL_sI, wL_sP, wP_sI, wP_sL, wI_sI, wL_sL, Int32.reduceLT, Int32.reduceLE, true_implies, not_true_eq_false, false_implies, not_false_eq_true, i_10, na_1, nb_1, nm_1, ns_1, nr_1, na_2, nb_2, nm_2, ns_2, nr_2, na_3, nb_3, nm_3, ns_3, nr_3, na_4, nb_4, nm_4, ns_4, nr_4, na_5, nb_5, nm_5, ns_5, nr_5, na_6, nb_6, nm_6, ns_6, nr_6, na_7, nb_7, nm_7, ns_7, nr_7, na_8, nb_8, nm_8, ns_8, nr_8, na_10, nb_10, nm_10, ns_10, nr_10, na_16, nb_16, nm_16, ns_16, nr_16, nl_m1, ni_add, ni_mul, ni_sub, ni_cl, ni_in, vp_0, vp_1, vp_2, vp_3, vp_4, vp_5, Int32.reduceToNatClampNeg, g8, ni_le, ni_lt, ni_eq, ni_le1, ni_le0, ni_eq0, ni_eq1, ni_eq2, ni_eq8, ni_eq9]
            have hfb : fbyt s (8 * v + k) = (if nI c = 0 then [nI z] else []) ++ (if s.1 8 (8 * v + k) = 8 then boxL (fKd s (8 * v + k)) (fVl s (8 * v + k)) z else if z = 0 then [] else numsL (fVl s (8 * v + k)) z) := by
              unfold fbyt
              rw [hfn, show s.1 9 (8 * v + k) = nI c from f2]
            refine ⟨fun h8 => h354 w4 _ _ _ _ _ _ _ hF4 ?_ g57 g56 gsz hgot4, fun h8 => ⟨fun hz0 => h354 w4 _ _ _ _ _ _ _ hF4 ?_ g57 g56 gsz hgot4, fun hz0 => ?_⟩⟩
            · rw [if_pos h8] at hL4 hfb
              rw [hfb, ← List.append_assoc, ← he3]
              exact hL4
            · rw [if_neg h8] at hL4 hfb
              rw [if_pos (show z = 0 by omega)] at hfb
              rw [hfb, ← List.append_assoc, ← he3]
              exact hL4
            · rw [if_neg h8] at hL4 hfb
              rw [if_neg (show ¬ z = 0 by omega)] at hfb
              rw [List.append_nil] at hL4
              simp (disch := omega) only [vX12_packs_348, vX12_packs_349, vX12_packs_351, ms_o hm4, ms_b hm4, ms_0 hm4, pI_c, pL_c, pF_c, pD_c, pA_n, pA_c, pA_rf, pR_c, pR_rf, pV_i, pV_a, pV_n, pV_rf, ldI_c, ldL_c, ldF_c, ldD_c, ldA_c, ldA_n, ldA_rf, dup2_l, dup2_ia, dup2_ir, popA_0, popA_s, getL_z, getL_s, setL_z, setL_1, setL_s, setL2_z, setL2_1, setL2_s, drop2_i, drop2_a, drop2_0, drop2_n, drop2_l, drop2_d, drop2_r, cwd_0, cwd_i, cwd_a, cwd_n, cwd_l, cwd_d, cwd_f, cwd_r, rf_s, rf_n, swi_0, swi_s, zR_b0, zR_b1, zN_b0, zN_b1, entV_i, entV_a, entV_n, entV_r, entV_f, entV_l, entV_d, entV_s, entV_0, List.length_cons, List.length_nil, List.nil_append, List.cons_append, true_and, and_true, Nat.reduceAdd, Nat.reduceLT, Nat.reduceEqDiff, Nat.reduceLeDiff, Nat.reduceSub, Nat.zero_add, Classical.not_not, ex_i, ex_l, ex_d, ex_r, ex_rs, ex_rn, ex_sm, Nat.sub_zero, eq_self, wn_sI, wn_sL, wn_sP, wsh_sI, wsh_sL, wsh_sP, wI_sL, wI_sP, wL_sI, wL_sP, wP_sI, wP_sL, wI_sI, wL_sL, Int32.reduceLT, Int32.reduceLE, true_implies, not_true_eq_false, false_implies, not_false_eq_true, i_10]
              refine X12_putsNumbers_ok hm4 hL4 rfl z (by omega) hz (by omega) fun w5 hf5 hL5 => ?_
              rw [nums_cg (by omega) hrow4, he3, List.append_assoc, ← hfb] at hL5
              refine h354 w5 _ _ _ _ _ _ _ (hF4.tr (hf5.mo fun a j q => by unfold nuS plS outS at q; unfold pkK; omega)) hL5 ?_ ?_ ?_ fun j hj => ?_
              · rw [hf5.I _ _ (by unfold nuS plS outS; omega)]; exact g57
              · rw [hf5.I _ _ (by unfold nuS plS outS; omega)]; exact g56
              · rw [hf5.I _ _ (by unfold nuS plS outS; omega)]; exact gsz
              · rw [hf5.I _ _ (by unfold nuS plS outS; omega), hf5.L _ _ (by unfold nuS plS outS; omega)]
                exact hgot4 j hj
        rw [hc0]
        have h00 : (0 : Int32) ≤ 0 := by decide
        simp (disch := omega) only [vX12_packs_77, vX12_packs_79, vX12_packs_81, vX12_packs_84, vX12_packs_85, vX12_packs_86, vX12_packs_87, vX12_packs_90, vX12_packs_92, vX12_packs_95, vX12_packs_96, vX12_packs_97, vX12_packs_98, vX12_packs_101, vX12_packs_102, vX12_packs_103, vX12_packs_104, vX12_packs_105, vX12_packs_108, vX12_packs_109, vX12_packs_112, vX12_packs_113, vX12_packs_116, vX12_packs_118, vX12_packs_119, vX12_packs_120, vX12_packs_122, vX12_packs_123, vX12_packs_126, vX12_packs_127, vX12_packs_129, vX12_packs_130, vX12_packs_131, vX12_packs_134, vX12_packs_135, vX12_packs_136, ms_o hm1, ms_b hm1, ms_0 hm1, mp_slot hm1, ms_slot hm1, mp_rowSize hm1, ms_rowSize hm1, mp_gotSize hm1, ms_gotSize hm1, mp_cellsOf hm1, ms_cellsOf hm1, pI_c, pL_c, pF_c, pD_c, pA_n, pA_c, pA_rf, pR_c, pR_rf, pV_i, pV_a, pV_n, pV_rf, ldI_c, ldL_c, ldF_c, ldD_c, ldA_c, ldA_n, ldA_rf, dup2_l, dup2_ia, dup2_ir, popA_0, popA_s, getL_z, getL_s, setL_z, setL_1, setL_s, setL2_z, setL2_1, setL2_s, drop2_i, drop2_a, drop2_0, drop2_n, drop2_l, drop2_d, drop2_r, cwd_0, cwd_i, cwd_a, cwd_n, cwd_l, cwd_d, cwd_f, cwd_r, rf_s, rf_n, swi_0, swi_s, zR_b0, zR_b1, zN_b0, zN_b1, entV_i, entV_a, entV_n, entV_r, entV_f, entV_l, entV_d, entV_s, entV_0, List.length_cons, List.length_nil, List.nil_append, List.cons_append, true_and, and_true, Nat.reduceAdd, Nat.reduceLT, Nat.reduceEqDiff, Nat.reduceLeDiff, Nat.reduceSub, Nat.zero_add, Classical.not_not, ex_i, ex_l, ex_d, ex_r, ex_rs, ex_rn, ex_sm, Nat.sub_zero, eq_self, wn_sI, wn_sL, wn_sP, wsh_sI, wsh_sL, wsh_sP, wI_sL, wI_sP, wL_sI, wL_sP, wP_sI, wP_sL, wI_sI, wL_sL, Int32.reduceLT, Int32.reduceLE, true_implies, not_true_eq_false, false_implies, not_false_eq_true, i_10, na_1, nb_1, nm_1, ns_1, nr_1, na_2, nb_2, nm_2, ns_2, nr_2, na_3, nb_3, nm_3, ns_3, nr_3, na_4, nb_4, nm_4, ns_4, nr_4, na_5, nb_5, nm_5, ns_5, nr_5, na_6, nb_6, nm_6, ns_6, nr_6, na_7, nb_7, nm_7, ns_7, nr_7, na_8, nb_8, nm_8, ns_8, nr_8, na_10, nb_10, nm_10, ns_10, nr_10, na_16, nb_16, nm_16, ns_16, nr_16, nl_m1, ni_add, ni_mul, ni_sub, ni_cl, ni_in, vp_0, vp_1, vp_2, vp_3, vp_4, vp_5, Int32.reduceToNatClampNeg, up2_n1, up2_at, if_true, if_false, Nat.reduceEqDiff, eq_self, h00, gp, g1, g3, g9]
        rw [hq57]
        generalize hw2 : sI (sI w1 m 57 p') (m + 34) k (nI z) = w2
        have hf2 : Fr (fun a j => (a = m ∧ (j = 45 ∨ j = 57)) ∨ a = m + 32 ∨ (a = m + 34 ∧ j = k)) w1 w2 := by
          rw [← hw2]
          exact (Fr.rf.i _ (Or.inl ⟨rfl, Or.inr rfl⟩)).i _ (Or.inr (Or.inr ⟨rfl, rfl⟩))
        have hL2 : OutM m w2 L := by
          rw [← hw2]
          unfold OutM at hL1 ⊢
          rw [wI_ne (by omega), wI_at, if_neg (by decide), show wI (sI (sI w1 m 57 p') (m + 34) k (nI z)) (m + 32) = wI w1 (m + 32) from funext fun j => by rw [wI_ne (by omega), wI_ne (by omega)]]
          exact hL1
        have hm2 := hm1.fr hf2
        have y57 : wI w2 m 57 = p' := by rw [← hw2, wI_ne (by omega), wI_at, if_pos rfl]
        have y34 : wI w2 (m + 34) k = nI z := by rw [← hw2, wI_at, if_pos rfl]
        refine ⟨fun q => ?_, fun q => ?_⟩
        · exact h157 w2 L _ _ _ hf2 hL2 (by rw [if_neg q, List.append_nil]) y57 y34
        · simp (disch := omega) only [vX12_packs_139, vX12_packs_140, vX12_packs_143, vX12_packs_144, vX12_packs_145, vX12_packs_148, vX12_packs_149, vX12_packs_150, vX12_packs_151, vX12_packs_154, vX12_packs_156, ms_o hm2, ms_b hm2, ms_0 hm2, mp_out hm2, ms_out hm2, pI_c, pL_c, pF_c, pD_c, pA_n, pA_c, pA_rf, pR_c, pR_rf, pV_i, pV_a, pV_n, pV_rf, ldI_c, ldL_c, ldF_c, ldD_c, ldA_c, ldA_n, ldA_rf, dup2_l, dup2_ia, dup2_ir, popA_0, popA_s, getL_z, getL_s, setL_z, setL_1, setL_s, setL2_z, setL2_1, setL2_s, drop2_i, drop2_a, drop2_0, drop2_n, drop2_l, drop2_d, drop2_r, cwd_0, cwd_i, cwd_a, cwd_n, cwd_l, cwd_d, cwd_f, cwd_r, rf_s, rf_n, swi_0, swi_s, zR_b0, zR_b1, zN_b0, zN_b1, entV_i, entV_a, entV_n, entV_r, entV_f, entV_l, entV_d, entV_s, entV_0, List.length_cons, List.length_nil, List.nil_append, List.cons_append, true_and, and_true, Nat.reduceAdd, Nat.reduceLT, Nat.reduceEqDiff, Nat.reduceLeDiff, Nat.reduceSub, Nat.zero_add, Classical.not_not, ex_i, ex_l, ex_d, ex_r, ex_rs, ex_rn, ex_sm, Nat.sub_zero, eq_self, wn_sI, wn_sL, wn_sP, wsh_sI, wsh_sL, wsh_sP, wI_sL, wI_sP, wL_sI, wL_sP, wP_sI, wP_sL, wI_sI, wL_sL, Int32.reduceLT, Int32.reduceLE, true_implies, not_true_eq_false, false_implies, not_false_eq_true, i_10, na_1, nb_1, nm_1, ns_1, nr_1, na_2, nb_2, nm_2, ns_2, nr_2, na_3, nb_3, nm_3, ns_3, nr_3, na_4, nb_4, nm_4, ns_4, nr_4, na_5, nb_5, nm_5, ns_5, nr_5, na_6, nb_6, nm_6, ns_6, nr_6, na_7, nb_7, nm_7, ns_7, nr_7, na_8, nb_8, nm_8, ns_8, nr_8, na_10, nb_10, nm_10, ns_10, nr_10, na_16, nb_16, nm_16, ns_16, nr_16, nl_m1, ni_add, ni_mul, ni_sub, ni_cl, ni_in, vp_0, vp_1, vp_2, vp_3, vp_4, vp_5, Int32.reduceToNatClampNeg, up2_n1, up2_at, if_true, if_false, Nat.reduceEqDiff, eq_self, hL2.1]
          refine h157 _ _ _ _ _ (hf2.tr ((outW_fr m w2 L (nI z)).mo fun a j q => by unfold outS at q; omega)) (outW_ok hL2 (nI z)) (by rw [if_pos q]) ?_ ?_
          · rw [wI_ne (by omega), wI_at, if_neg (by decide)]; exact y57
          · rw [wI_ne (by omega), wI_ne (by omega)]; exact y34
      · have hneg : ¬ 0 ≤ fcode s (8 * v + k) := by
          unfold fcode at hc0 ⊢
          rcases rdCode_c (fsl s (8 * v + k)) (s.1 2 (frow s (8 * v + k))) (s.1 3 (frow s (8 * v + k))) (s.1 9 (8 * v + k)) (s.1 8 (8 * v + k)) with q | q | q
          · exact absurd q hc0
          · rw [q]; decide
          · rw [q]; decide
        rw [if_neg hc0] at hpk1
        simp (disch := omega) only [vX12_packs_77, vX12_packs_79, vX12_packs_81, vX12_packs_84, vX12_packs_85, vX12_packs_86, vX12_packs_87, vX12_packs_90, vX12_packs_92, vX12_packs_95, ms_o hm1, ms_b hm1, ms_0 hm1, pI_c, pL_c, pF_c, pD_c, pA_n, pA_c, pA_rf, pR_c, pR_rf, pV_i, pV_a, pV_n, pV_rf, ldI_c, ldL_c, ldF_c, ldD_c, ldA_c, ldA_n, ldA_rf, dup2_l, dup2_ia, dup2_ir, popA_0, popA_s, getL_z, getL_s, setL_z, setL_1, setL_s, setL2_z, setL2_1, setL2_s, drop2_i, drop2_a, drop2_0, drop2_n, drop2_l, drop2_d, drop2_r, cwd_0, cwd_i, cwd_a, cwd_n, cwd_l, cwd_d, cwd_f, cwd_r, rf_s, rf_n, swi_0, swi_s, zR_b0, zR_b1, zN_b0, zN_b1, entV_i, entV_a, entV_n, entV_r, entV_f, entV_l, entV_d, entV_s, entV_0, List.length_cons, List.length_nil, List.nil_append, List.cons_append, true_and, and_true, Nat.reduceAdd, Nat.reduceLT, Nat.reduceEqDiff, Nat.reduceLeDiff, Nat.reduceSub, Nat.zero_add, Classical.not_not, ex_i, ex_l, ex_d, ex_r, ex_rs, ex_rn, ex_sm, Nat.sub_zero, eq_self, wn_sI, wn_sL, wn_sP, wsh_sI, wsh_sL, wsh_sP, wI_sL, wI_sP, wL_sI, wL_sP, wP_sI, wP_sL, wI_sI, wL_sL, Int32.reduceLT, Int32.reduceLE, true_implies, not_true_eq_false, false_implies, not_false_eq_true, i_10, hneg]
        refine X12_fails_ok hm1 _ _ _ ?_
        refine hE _ _ ((((hf1.mo ?_).i _ ?_).i _ ?_).i _ ?_) (hend _ hpk1) ?_ ?_ ?_
        · intro a j q; unfold rdS at q; unfold pkS; omega
        · exact Or.inl ⟨rfl, by decide⟩
        · exact Or.inl ⟨rfl, by decide⟩
        · exact Or.inl ⟨rfl, by decide⟩
        · simp only [wI_at, if_true, if_false, Nat.reduceEqDiff]
        · simp only [wI_at, if_true, if_false, Nat.reduceEqDiff]
          rw [hcell hc0]
          unfold fcell frow
          rw [esl, (hS 3 _ (by decide) (by decide)).1, (hS 9 _ (by decide) (by decide)).1]
        · simp only [wI_at, if_true, if_false, Nat.reduceEqDiff]
    · rw [if_pos hs1] at hpk1
      have e10' : s.1 10 (8 * v + k) = nI nd := f3
      rw [e10'] at hpk1
      simp (disch := omega) only [vX12_packs_53, vX12_packs_54, vX12_packs_57, vX12_packs_58, vX12_packs_59, vX12_packs_60, vX12_packs_63, vX12_packs_64, vX12_packs_65, vX12_packs_66, vX12_packs_68, ms_o hm, ms_b hm, ms_0 hm, mp_neededOf hm, ms_neededOf hm, pI_c, pL_c, pF_c, pD_c, pA_n, pA_c, pA_rf, pR_c, pR_rf, pV_i, pV_a, pV_n, pV_rf, ldI_c, ldL_c, ldF_c, ldD_c, ldA_c, ldA_n, ldA_rf, dup2_l, dup2_ia, dup2_ir, popA_0, popA_s, getL_z, getL_s, setL_z, setL_1, setL_s, setL2_z, setL2_1, setL2_s, drop2_i, drop2_a, drop2_0, drop2_n, drop2_l, drop2_d, drop2_r, cwd_0, cwd_i, cwd_a, cwd_n, cwd_l, cwd_d, cwd_f, cwd_r, rf_s, rf_n, swi_0, swi_s, zR_b0, zR_b1, zN_b0, zN_b1, entV_i, entV_a, entV_n, entV_r, entV_f, entV_l, entV_d, entV_s, entV_0, List.length_cons, List.length_nil, List.nil_append, List.cons_append, true_and, and_true, Nat.reduceAdd, Nat.reduceLT, Nat.reduceEqDiff, Nat.reduceLeDiff, Nat.reduceSub, Nat.zero_add, Classical.not_not, ex_i, ex_l, ex_d, ex_r, ex_rs, ex_rn, ex_sm, Nat.sub_zero, eq_self, wn_sI, wn_sL, wn_sP, wsh_sI, wsh_sL, wsh_sP, wI_sL, wI_sP, wL_sI, wL_sP, wP_sI, wP_sL, wI_sI, wL_sL, Int32.reduceLT, Int32.reduceLE, true_implies, not_true_eq_false, false_implies, not_false_eq_true, i_10, na_1, nb_1, nm_1, ns_1, nr_1, na_2, nb_2, nm_2, ns_2, nr_2, na_3, nb_3, nm_3, ns_3, nr_3, na_4, nb_4, nm_4, ns_4, nr_4, na_5, nb_5, nm_5, ns_5, nr_5, na_6, nb_6, nm_6, ns_6, nr_6, na_7, nb_7, nm_7, ns_7, nr_7, na_8, nb_8, nm_8, ns_8, nr_8, na_10, nb_10, nm_10, ns_10, nr_10, na_16, nb_16, nm_16, ns_16, nr_16, nl_m1, ni_add, ni_mul, ni_sub, ni_cl, ni_in, vp_0, vp_1, vp_2, vp_3, vp_4, vp_5, Int32.reduceToNatClampNeg, e10]
      refine ⟨fun hn1 => ?_, fun hn1 => ?_⟩
      · rw [if_neg hn1] at hpk1
        simp (disch := omega) only [vX12_packs_354, vX12_packs_357, pI_c, pL_c, pF_c, pD_c, pA_n, pA_c, pA_rf, pR_c, pR_rf, pV_i, pV_a, pV_n, pV_rf, ldI_c, ldL_c, ldF_c, ldD_c, ldA_c, ldA_n, ldA_rf, dup2_l, dup2_ia, dup2_ir, popA_0, popA_s, getL_z, getL_s, setL_z, setL_1, setL_s, setL2_z, setL2_1, setL2_s, drop2_i, drop2_a, drop2_0, drop2_n, drop2_l, drop2_d, drop2_r, cwd_0, cwd_i, cwd_a, cwd_n, cwd_l, cwd_d, cwd_f, cwd_r, rf_s, rf_n, swi_0, swi_s, zR_b0, zR_b1, zN_b0, zN_b1, entV_i, entV_a, entV_n, entV_r, entV_f, entV_l, entV_d, entV_s, entV_0, List.length_cons, List.length_nil, List.nil_append, List.cons_append, true_and, and_true, Nat.reduceAdd, Nat.reduceLT, Nat.reduceEqDiff, Nat.reduceLeDiff, Nat.reduceSub, Nat.zero_add, Classical.not_not, ex_i, ex_l, ex_d, ex_r, ex_rs, ex_rn, ex_sm, Nat.sub_zero, eq_self, wn_sI, wn_sL, wn_sP, wsh_sI, wsh_sL, wsh_sP, wI_sL, wI_sP, wL_sI, wL_sP, wP_sI, wP_sL, wI_sI, wL_sL, Int32.reduceLT, Int32.reduceLE, true_implies, not_true_eq_false, false_implies, not_false_eq_true, i_10, na_1, nb_1, nm_1, ns_1, nr_1, na_2, nb_2, nm_2, ns_2, nr_2, na_3, nb_3, nm_3, ns_3, nr_3, na_4, nb_4, nm_4, ns_4, nr_4, na_5, nb_5, nm_5, ns_5, nr_5, na_6, nb_6, nm_6, ns_6, nr_6, na_7, nb_7, nm_7, ns_7, nr_7, na_8, nb_8, nm_8, ns_8, nr_8, na_10, nb_10, nm_10, ns_10, nr_10, na_16, nb_16, nm_16, ns_16, nr_16, nl_m1, ni_add, ni_mul, ni_sub, ni_cl, ni_in, vp_0, vp_1, vp_2, vp_3, vp_4, vp_5, Int32.reduceToNatClampNeg]
        refine ih (k + 1) w p L _ _ _ _ _ _ _ (by omega) hm hS hL (by omega) hg hp (fun q hq hne => ?_) hpk1 hE hK
        by_cases eq : q = k
        · subst eq; exact absurd hs1 hne
        · exact hG q (by omega) hne
      · rw [if_pos hn1] at hpk1
        simp (disch := omega) only [vX12_packs_71, pI_c, pL_c, pF_c, pD_c, pA_n, pA_c, pA_rf, pR_c, pR_rf, pV_i, pV_a, pV_n, pV_rf, ldI_c, ldL_c, ldF_c, ldD_c, ldA_c, ldA_n, ldA_rf, dup2_l, dup2_ia, dup2_ir, popA_0, popA_s, getL_z, getL_s, setL_z, setL_1, setL_s, setL2_z, setL2_1, setL2_s, drop2_i, drop2_a, drop2_0, drop2_n, drop2_l, drop2_d, drop2_r, cwd_0, cwd_i, cwd_a, cwd_n, cwd_l, cwd_d, cwd_f, cwd_r, rf_s, rf_n, swi_0, swi_s, zR_b0, zR_b1, zN_b0, zN_b1, entV_i, entV_a, entV_n, entV_r, entV_f, entV_l, entV_d, entV_s, entV_0, List.length_cons, List.length_nil, List.nil_append, List.cons_append, true_and, and_true, Nat.reduceAdd, Nat.reduceLT, Nat.reduceEqDiff, Nat.reduceLeDiff, Nat.reduceSub, Nat.zero_add, Classical.not_not, ex_i, ex_l, ex_d, ex_r, ex_rs, ex_rn, ex_sm, Nat.sub_zero, eq_self, wn_sI, wn_sL, wn_sP, wsh_sI, wsh_sL, wsh_sP, wI_sL, wI_sP, wL_sI, wL_sP, wP_sI, wP_sL, wI_sI, wL_sL, Int32.reduceLT, Int32.reduceLE, true_implies, not_true_eq_false, false_implies, not_false_eq_true, i_10, na_1, nb_1, nm_1, ns_1, nr_1, na_2, nb_2, nm_2, ns_2, nr_2, na_3, nb_3, nm_3, ns_3, nr_3, na_4, nb_4, nm_4, ns_4, nr_4, na_5, nb_5, nm_5, ns_5, nr_5, na_6, nb_6, nm_6, ns_6, nr_6, na_7, nb_7, nm_7, ns_7, nr_7, na_8, nb_8, nm_8, ns_8, nr_8, na_10, nb_10, nm_10, ns_10, nr_10, na_16, nb_16, nm_16, ns_16, nr_16, nl_m1, ni_add, ni_mul, ni_sub, ni_cl, ni_in, vp_0, vp_1, vp_2, vp_3, vp_4, vp_5, Int32.reduceToNatClampNeg]
        refine X12_fails_ok hm _ _ _ ?_
        refine hE _ _ (((Fr.rf.i _ ?_).i _ ?_).i _ ?_) (hend _ hpk1) ?_ ?_ ?_
        · exact Or.inl ⟨rfl, by decide⟩
        · exact Or.inl ⟨rfl, by decide⟩
        · exact Or.inl ⟨rfl, by decide⟩
        · simp only [wI_at, if_true, if_false, Nat.reduceEqDiff]
        · simp only [wI_at, if_true, if_false, Nat.reduceEqDiff]
        · simp only [wI_at, if_true, if_false, Nat.reduceEqDiff]
set_option maxRecDepth 100000 in
set_option maxHeartbeats 4000000 in
theorem X12_packs_ok {g : Ge} {w : Wd} {k n : Nat} {K : Int32 → Wd → Nat → Nat → Prop} {m v n1 : Nat} {s : St} (hm : MS g m w) (hv : v < 6) (hS : Sm m w s) (hR : RW s) (hV : VerS s v n1)
    (hE : ∀ w' e, Fr (pkS m) w w' → pk s v n1 = .inl e → wI w' m 42 = e.1 → wI w' m 43 = e.2.1 → wI w' m 44 = e.2.2 → K (-20) w' k n)
    (hK : ∀ w' p L, Fr (pkS m) w w' → pk s v n1 = .inr (p, L) → L.length ≤ 1176 → wI w' m 45 = nI (1 + L.length) → bufH (wI w' (m + 32)) 0 (p :: L) → wI w' m 56 = nI v → wI w' m 57 = p → GotM m w' s v n1 → K 0 w' k n) : cI g mX12_packs [.ref m, .int (nI v)] w k n K := by
  refine cI_of 10 0 0 rfl (by decide +kernel) rfl (Nat.le_of_ble_eq_true rfl) (Nat.zero_le _) (Nat.zero_le _) ?_
  simp (disch := omega) only [vX12_packs_0, vX12_packs_1, vX12_packs_2, vX12_packs_5, vX12_packs_6, vX12_packs_7, vX12_packs_10, vX12_packs_11, vX12_packs_12, vX12_packs_15, vX12_packs_16, ms_o hm, ms_b hm, ms_0 hm, pI_c, pL_c, pF_c, pD_c, pA_n, pA_c, pA_rf, pR_c, pR_rf, pV_i, pV_a, pV_n, pV_rf, ldI_c, ldL_c, ldF_c, ldD_c, ldA_c, ldA_n, ldA_rf, dup2_l, dup2_ia, dup2_ir, popA_0, popA_s, getL_z, getL_s, setL_z, setL_1, setL_s, setL2_z, setL2_1, setL2_s, drop2_i, drop2_a, drop2_0, drop2_n, drop2_l, drop2_d, drop2_r, cwd_0, cwd_i, cwd_a, cwd_n, cwd_l, cwd_d, cwd_f, cwd_r, rf_s, rf_n, swi_0, swi_s, zR_b0, zR_b1, zN_b0, zN_b1, entV_i, entV_a, entV_n, entV_r, entV_f, entV_l, entV_d, entV_s, entV_0, List.length_cons, List.length_nil, List.nil_append, List.cons_append, true_and, and_true, Nat.reduceAdd, Nat.reduceLT, Nat.reduceEqDiff, Nat.reduceLeDiff, Nat.reduceSub, Nat.zero_add, Classical.not_not, ex_i, ex_l, ex_d, ex_r, ex_rs, ex_rn, ex_sm, Nat.sub_zero, eq_self, wn_sI, wn_sL, wn_sP, wsh_sI, wsh_sL, wsh_sP, wI_sL, wI_sP, wL_sI, wL_sP, wP_sI, wP_sL, wI_sI, wL_sL, Int32.reduceLT, Int32.reduceLE, true_implies, not_true_eq_false, false_implies, not_false_eq_true, i_10]
  have hfr : Fr (pkS m) w (sI (sI (sI w m 45 1) m 56 (nI v)) m 57 0) := ((Fr.rf.i _ (Or.inl ⟨rfl, by decide⟩)).i _ (Or.inl ⟨rfl, by decide⟩)).i _ (Or.inl ⟨rfl, by decide⟩)
  refine X12_packs_loop hv hR hV n1 0 _ 0 [] none none none none none none none (by omega) (hm.fr hfr) (hS.fr hfr (by unfold pkS; omega)) ?_ (Nat.zero_le _) ?_ ?_ (fun q hq => absurd hq (Nat.not_lt_zero q)) rfl (fun w' e h1 h2 h3 h4 h5 => ⟨_, rfl, hE w' e (hfr.tr h1) h2 h3 h4 h5⟩) (fun w' p L h1 h2 h3 h4 h5 h6 h7 h8 => ⟨_, rfl, hK w' p L (hfr.tr h1) h2 h3 h4 h5 h6 h7 h8⟩)
  · refine ⟨?_, bufH.nil _ _⟩
    simp only [wI_at, if_true, if_false, Nat.reduceEqDiff]
    rfl
  · simp only [wI_at, if_true, if_false, Nat.reduceEqDiff]
  · simp only [wI_at, if_true, if_false, Nat.reduceEqDiff]
