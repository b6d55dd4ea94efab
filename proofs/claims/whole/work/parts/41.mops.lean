/-! the reference's calls: slots and cells -/
def RowsW (sl rk rs kd : Nat → Int32) (vl : Nat → Int64) : Prop := ∀ s, s < 8 → sl s = -1 ∨ sl s = 9 ∨ ∃ r, r < 8 ∧ sl s = nI r ∧ ∃ a n, rk r = nI a ∧ rs r = nI n ∧ RowV a n (fun i => kd (16 * r + i)) (fun i => vl (16 * r + i))
theorem RowsX.W {b : Nat} {w : Wd} {P : Nat → Option Nat} {ra : Nat → Nat} {sl rk rs kd : Nat → Int32} {vl : Nat → Int64} (h : RowsX b w P ra sl rk rs kd vl) : RowsW sl rk rs kd vl := fun s hs => by
  rcases h.1 s hs with h | ⟨h1, -⟩ | ⟨r, h1, h2, -, -, a, n, h3, h4, h5, -⟩
  · exact Or.inl h.1
  · exact Or.inr (Or.inl h1)
  · exact Or.inr (Or.inr ⟨r, h1, h2, a, n, h3, h4, h5⟩)
def RW (s : St) : Prop := RowsW (s.1 1) (s.1 2) (s.1 3) (s.1 4) (s.2 5)
theorem RowsW.ok {sl rk rs kd : Nat → Int32} {vl : Nat → Int64} (h : RowsW sl rk rs kd vl) {s : Nat} (hs : s < 8) : sl_ok (sl s) := by
  rcases h s hs with h | h | ⟨r, h1, h2, -⟩
  · exact Or.inl h
  · exact Or.inr (Or.inl h)
  · exact Or.inr (Or.inr ⟨r, h1, h2⟩)
def mS (m : Nat) (a _j : Nat) : Prop := m ≤ a ∧ a < m + 40
theorem mst_I (m : Nat) (w : Wd) (o j : Nat) : (mst m w).1 o j = wI w (m + o) j := rfl
theorem mst_L (m : Nat) (w : Wd) (o j : Nat) : (mst m w).2 o j = wL w (m + o) j := rfl
def none2 (_o _j : Nat) : Prop := False
theorem Bt.none {m : Nat} {w : Wd} : Bt none2 (mst m w) (mst m w) := Bt.rf
/-- places of the state behind one write -/
theorem bt_i {m o k : Nat} {w : Wd} {x : Int32} {T : Nat → Nat → Prop} (h : T o k) : Bt T (mst m w) (mst m (sI w (m + o) k x)) := fun o' j _ h2 => ⟨by
  show wI (sI w (m + o) k x) (m + o') j = wI w (m + o') j
  by_cases e : o' = o
  · subst e
    rw [wI_at, if_neg]
    intro q
    subst q
    exact h2 h
  · exact wI_ne (by omega), rfl⟩
theorem bt_l {m o k : Nat} {w : Wd} {x : Int64} {T : Nat → Nat → Prop} (h : T o k) : Bt T (mst m w) (mst m (sL w (m + o) k x)) := fun o' j _ h2 => ⟨rfl, by
  show wL (sL w (m + o) k x) (m + o') j = wL w (m + o') j
  by_cases e : o' = o
  · subst e
    rw [wL_at, if_neg]
    intro q
    subst q
    exact h2 h
  · exact wL_ne (by omega)⟩
theorem Bt.tr {S : Nat → Nat → Prop} {s s1 s2 : St} (h1 : Bt S s s1) (h2 : Bt S s1 s2) : Bt S s s2 := fun o j hp hs => ⟨(h2 o j hp hs).1.trans (h1 o j hp hs).1, (h2 o j hp hs).2.trans (h1 o j hp hs).2⟩
theorem fr_i {m o k : Nat} {w : Wd} (x : Int32) (h : o < 40) : Fr (mS m) w (sI w (m + o) k x) := Fr.rf.i _ ⟨by omega, by omega⟩
theorem fr_l {m o k : Nat} {w : Wd} (x : Int64) (h : o < 40) : Fr (mS m) w (sL w (m + o) k x) := Fr.rf.l _ ⟨by omega, by omega⟩
theorem i_slot {v : Int32} (h : 0 ≤ v ∧ v ≤ 7) : ∃ s, s < 8 ∧ v = nI s := by
  obtain ⟨s, h1, h2⟩ := i_nat (c := 7) (by decide) h.1 h.2
  exact ⟨s, by omega, h2⟩
/-- the count that a refusal raises -/
def refE (c : Int32) : Nat := if c = -11 then 3 else if c = -12 then 4 else 5
def SpRef (s : St) (c : Int32) (s' : St) : Prop := Bt (fun o j => o = 17 ∧ j = refE c) s s' ∧ s'.1 17 (refE c) = s.1 17 (refE c) + 1
set_option maxRecDepth 100000 in
set_option maxHeartbeats 4000000 in
theorem X12_refuses_ok {g : Ge} {w : Wd} {k n : Nat} {K : Int32 → Wd → Nat → Nat → Prop} {m : Nat} (hm : MS g m w) (c : Int32) (hc : c = -11 ∨ c = -12 ∨ c = -13) (h : ∀ w', Fr (mS m) w w' → SpRef (mst m w) c (mst m w') → K c w' k n) : cI g mX12_refuses [.ref m, .int c] w k n K := by
  refine cI_of 2 0 0 rfl (by decide +kernel) rfl (Nat.le_of_ble_eq_true rfl) (Nat.zero_le _) (Nat.zero_le _) ?_
  simp only [vX12_refuses_0, vX12_refuses_1, vX12_refuses_4, vX12_refuses_6, vX12_refuses_7, vX12_refuses_8, vX12_refuses_9, vX12_refuses_10, vX12_refuses_11, vX12_refuses_12, vX12_refuses_13, vX12_refuses_14, ms_o hm, ms_b hm, ms_0 hm, mp_counts hm, ms_counts hm, pI_c, pL_c, pF_c, pD_c, pA_n, pA_c, pA_rf, pR_c, pR_rf, pV_i, pV_a, pV_n, pV_rf, ldI_c, ldL_c, ldF_c, ldD_c, ldA_c, ldA_n, ldA_rf, dup2_l, dup2_ia, dup2_ir, popA_0, popA_s, getL_z, getL_s, setL_z, setL_1, setL_s, setL2_z, setL2_1, setL2_s, drop2_i, drop2_a, drop2_0, drop2_n, drop2_l, drop2_d, drop2_r, cwd_0, cwd_i, cwd_a, cwd_n, cwd_l, cwd_d, cwd_f, cwd_r, rf_s, rf_n, swi_0, swi_s, zR_b0, zR_b1, zN_b0, zN_b1, entV_i, entV_a, entV_n, entV_r, entV_f, entV_l, entV_d, entV_s, entV_0, List.length_cons, List.length_nil, List.nil_append, List.cons_append, true_and, and_true, Nat.reduceAdd, Nat.reduceLT, Nat.reduceEqDiff, Nat.reduceLeDiff, Nat.reduceSub, Nat.zero_add, Classical.not_not, ex_i, ex_l, ex_d, ex_r, ex_rs, ex_rn, ex_sm, Nat.sub_zero, eq_self, wn_sI, wn_sL, wn_sP, wsh_sI, wsh_sL, wsh_sP, wI_sL, wI_sP, wL_sI, wL_sP, wP_sI, wP_sL, wI_sI, wL_sL, Int32.reduceLT, Int32.reduceLE, true_implies, not_true_eq_false, false_implies, not_false_eq_true, i_10]
  have e : (-8 - c : Int32) = nI (refE c) ∧ refE c < 6 := by
    rcases hc with rfl | rfl | rfl <;> exact ⟨by decide, by decide⟩
  have he := e.2
  rw [e.1]
  simp (disch := omega) only [ni_in, ni_cl, true_and]
  refine h _ (fr_i _ (by decide)) ⟨bt_i ⟨rfl, rfl⟩, ?_⟩
  show wI (sI w (m + 17) (refE c) _) (m + 17) (refE c) = _
  rw [wI_at, if_pos rfl]
  rfl
set_option maxRecDepth 100000 in
set_option maxHeartbeats 4000000 in
theorem X12_latch_ok {g : Ge} {w : Wd} {k n : Nat} {K : Int64 → Wd → Nat → Nat → Prop} {m : Nat} (hm : MS g m w) (v : Int32) (h : K (if v = 0 then (wI w m 19).toInt64 else if v = 1 then wL w m 20 else -9223372036854775808) w k n) : cL g mX12_latch [.ref m, .int v] w k n K := by
  refine cL_of 2 0 0 rfl (by decide +kernel) rfl (Nat.le_of_ble_eq_true rfl) (Nat.zero_le _) (Nat.zero_le _) ?_
  simp only [vX12_latch_0, vX12_latch_1, vX12_latch_4, vX12_latch_5, vX12_latch_8, vX12_latch_9, vX12_latch_12, vX12_latch_13, vX12_latch_14, vX12_latch_17, vX12_latch_18, vX12_latch_21, vX12_latch_24, vX12_latch_27, ms_o hm, ms_b hm, ms_0 hm, pI_c, pL_c, pF_c, pD_c, pA_n, pA_c, pA_rf, pR_c, pR_rf, pV_i, pV_a, pV_n, pV_rf, ldI_c, ldL_c, ldF_c, ldD_c, ldA_c, ldA_n, ldA_rf, dup2_l, dup2_ia, dup2_ir, popA_0, popA_s, getL_z, getL_s, setL_z, setL_1, setL_s, setL2_z, setL2_1, setL2_s, drop2_i, drop2_a, drop2_0, drop2_n, drop2_l, drop2_d, drop2_r, cwd_0, cwd_i, cwd_a, cwd_n, cwd_l, cwd_d, cwd_f, cwd_r, rf_s, rf_n, swi_0, swi_s, zR_b0, zR_b1, zN_b0, zN_b1, entV_i, entV_a, entV_n, entV_r, entV_f, entV_l, entV_d, entV_s, entV_0, List.length_cons, List.length_nil, List.nil_append, List.cons_append, true_and, and_true, Nat.reduceAdd, Nat.reduceLT, Nat.reduceEqDiff, Nat.reduceLeDiff, Nat.reduceSub, Nat.zero_add, Classical.not_not, ex_i, ex_l, ex_d, ex_r, ex_rs, ex_rn, ex_sm, Nat.sub_zero, eq_self, wn_sI, wn_sL, wn_sP, wsh_sI, wsh_sL, wsh_sP, wI_sL, wI_sP, wL_sI, wL_sP, wP_sI, wP_sL, wI_sI, wL_sL, Int32.reduceLT, Int32.reduceLE, true_implies, not_true_eq_false, false_implies, not_false_eq_true, i_10]
  grind
def SpThing (s : St) (a b ans : Int32) (s' : St) : Prop := if ¬ (0 ≤ a ∧ a ≤ 7) then ans = -1 ∧ Bt none2 s s' else if ¬ (0 ≤ b ∧ b ≤ 1) then ans = -2 ∧ Bt none2 s s' else ans = 1 ∧ Bt (fun o j => o = 1 ∧ nI j = a) s s' ∧ s'.1 1 a.toNatClampNeg = if b = 1 then 9 else -1
set_option maxRecDepth 100000 in
set_option maxHeartbeats 4000000 in
theorem M_thing {g : Ge} {w : Wd} {k n : Nat} {K : Int32 → Wd → Nat → Nat → Prop} {m : Nat} (hm : MS g m w) (a b : Int32) (h : ∀ ans w', Fr (mS m) w w' → SpThing (mst m w) a b ans (mst m w') → K ans w' k n) : cI g mX12_thing [.ref m, .int a, .int b] w k n K := by
  refine cI_of 3 0 0 rfl (by decide +kernel) rfl (Nat.le_of_ble_eq_true rfl) (Nat.zero_le _) (Nat.zero_le _) ?_
  simp only [vX12_thing_0, vX12_thing_1, vX12_thing_4, vX12_thing_7, vX12_thing_8, vX12_thing_9, vX12_thing_10, vX12_thing_11, vX12_thing_12, vX12_thing_15, vX12_thing_18, vX12_thing_20, vX12_thing_21, vX12_thing_22, vX12_thing_25, vX12_thing_26, vX12_thing_27, vX12_thing_28, vX12_thing_31, vX12_thing_33, vX12_thing_36, vX12_thing_37, vX12_thing_38, vX12_thing_39, ms_o hm, ms_b hm, ms_0 hm, mp_slot hm, ms_slot hm, pI_c, pL_c, pF_c, pD_c, pA_n, pA_c, pA_rf, pR_c, pR_rf, pV_i, pV_a, pV_n, pV_rf, ldI_c, ldL_c, ldF_c, ldD_c, ldA_c, ldA_n, ldA_rf, dup2_l, dup2_ia, dup2_ir, popA_0, popA_s, getL_z, getL_s, setL_z, setL_1, setL_s, setL2_z, setL2_1, setL2_s, drop2_i, drop2_a, drop2_0, drop2_n, drop2_l, drop2_d, drop2_r, cwd_0, cwd_i, cwd_a, cwd_n, cwd_l, cwd_d, cwd_f, cwd_r, rf_s, rf_n, swi_0, swi_s, zR_b0, zR_b1, zN_b0, zN_b1, entV_i, entV_a, entV_n, entV_r, entV_f, entV_l, entV_d, entV_s, entV_0, List.length_cons, List.length_nil, List.nil_append, List.cons_append, true_and, and_true, Nat.reduceAdd, Nat.reduceLT, Nat.reduceEqDiff, Nat.reduceLeDiff, Nat.reduceSub, Nat.zero_add, Classical.not_not, ex_i, ex_l, ex_d, ex_r, ex_rs, ex_rn, ex_sm, Nat.sub_zero, eq_self, wn_sI, wn_sL, wn_sP, wsh_sI, wsh_sL, wsh_sP, wI_sL, wI_sP, wL_sI, wL_sP, wP_sI, wP_sL, wI_sI, wL_sL, Int32.reduceLT, Int32.reduceLE, true_implies, not_true_eq_false, false_implies, not_false_eq_true, i_10]
  refine X12_isSlot_ok _ ?_
  by_cases ha : 0 ≤ a ∧ a ≤ 7
  · simp only [b2i_t ha, pI_c, pL_c, pF_c, pD_c, pA_n, pA_c, pA_rf, pR_c, pR_rf, pV_i, pV_a, pV_n, pV_rf, ldI_c, ldL_c, ldF_c, ldD_c, ldA_c, ldA_n, ldA_rf, dup2_l, dup2_ia, dup2_ir, popA_0, popA_s, getL_z, getL_s, setL_z, setL_1, setL_s, setL2_z, setL2_1, setL2_s, drop2_i, drop2_a, drop2_0, drop2_n, drop2_l, drop2_d, drop2_r, cwd_0, cwd_i, cwd_a, cwd_n, cwd_l, cwd_d, cwd_f, cwd_r, rf_s, rf_n, swi_0, swi_s, zR_b0, zR_b1, zN_b0, zN_b1, entV_i, entV_a, entV_n, entV_r, entV_f, entV_l, entV_d, entV_s, entV_0, List.length_cons, List.length_nil, List.nil_append, List.cons_append, true_and, and_true, Nat.reduceAdd, Nat.reduceLT, Nat.reduceEqDiff, Nat.reduceLeDiff, Nat.reduceSub, Nat.zero_add, Classical.not_not, ex_i, ex_l, ex_d, ex_r, ex_rs, ex_rn, ex_sm, Nat.sub_zero, eq_self, wn_sI, wn_sL, wn_sP, wsh_sI, wsh_sL, wsh_sP, wI_sL, wI_sP, wL_sI, wL_sP, wP_sI, wP_sL, wI_sI, wL_sL, Int32.reduceLT, Int32.reduceLE, true_implies, not_true_eq_false, false_implies, not_false_eq_true, i_10]
    refine X12_within_ok _ _ _ ?_
    by_cases hb : 0 ≤ b ∧ b ≤ 1
    · obtain ⟨s, hs, rfl⟩ := i_slot ha
      simp only [b2i_t hb, ms_o hm, ms_b hm, ms_0 hm, mp_slot hm, ms_slot hm, pI_c, pL_c, pF_c, pD_c, pA_n, pA_c, pA_rf, pR_c, pR_rf, pV_i, pV_a, pV_n, pV_rf, ldI_c, ldL_c, ldF_c, ldD_c, ldA_c, ldA_n, ldA_rf, dup2_l, dup2_ia, dup2_ir, popA_0, popA_s, getL_z, getL_s, setL_z, setL_1, setL_s, setL2_z, setL2_1, setL2_s, drop2_i, drop2_a, drop2_0, drop2_n, drop2_l, drop2_d, drop2_r, cwd_0, cwd_i, cwd_a, cwd_n, cwd_l, cwd_d, cwd_f, cwd_r, rf_s, rf_n, swi_0, swi_s, zR_b0, zR_b1, zN_b0, zN_b1, entV_i, entV_a, entV_n, entV_r, entV_f, entV_l, entV_d, entV_s, entV_0, List.length_cons, List.length_nil, List.nil_append, List.cons_append, true_and, and_true, Nat.reduceAdd, Nat.reduceLT, Nat.reduceEqDiff, Nat.reduceLeDiff, Nat.reduceSub, Nat.zero_add, Classical.not_not, ex_i, ex_l, ex_d, ex_r, ex_rs, ex_rn, ex_sm, Nat.sub_zero, eq_self, wn_sI, wn_sL, wn_sP, wsh_sI, wsh_sL, wsh_sP, wI_sL, wI_sP, wL_sI, wL_sP, wP_sI, wP_sL, wI_sI, wL_sL, Int32.reduceLT, Int32.reduceLE, true_implies, not_true_eq_false, false_implies, not_false_eq_true, i_10]
      simp (disch := omega) only [na_1, nb_1, nm_1, ns_1, nr_1, na_2, nb_2, nm_2, ns_2, nr_2, na_3, nb_3, nm_3, ns_3, nr_3, na_4, nb_4, nm_4, ns_4, nr_4, na_5, nb_5, nm_5, ns_5, nr_5, na_6, nb_6, nm_6, ns_6, nr_6, na_7, nb_7, nm_7, ns_7, nr_7, na_8, nb_8, nm_8, ns_8, nr_8, na_10, nb_10, nm_10, ns_10, nr_10, na_16, nb_16, nm_16, ns_16, nr_16, nl_m1, ni_add, ni_mul, ni_sub, ni_cl, ni_in, vp_0, vp_1, vp_2, vp_3, vp_4, vp_5, Int32.reduceToNatClampNeg, pI_c, pL_c, pF_c, pD_c, pA_n, pA_c, pA_rf, pR_c, pR_rf, pV_i, pV_a, pV_n, pV_rf, ldI_c, ldL_c, ldF_c, ldD_c, ldA_c, ldA_n, ldA_rf, dup2_l, dup2_ia, dup2_ir, popA_0, popA_s, getL_z, getL_s, setL_z, setL_1, setL_s, setL2_z, setL2_1, setL2_s, drop2_i, drop2_a, drop2_0, drop2_n, drop2_l, drop2_d, drop2_r, cwd_0, cwd_i, cwd_a, cwd_n, cwd_l, cwd_d, cwd_f, cwd_r, rf_s, rf_n, swi_0, swi_s, zR_b0, zR_b1, zN_b0, zN_b1, entV_i, entV_a, entV_n, entV_r, entV_f, entV_l, entV_d, entV_s, entV_0, List.length_cons, List.length_nil, List.nil_append, List.cons_append, true_and, and_true, Nat.reduceAdd, Nat.reduceLT, Nat.reduceEqDiff, Nat.reduceLeDiff, Nat.reduceSub, Nat.zero_add, Classical.not_not, ex_i, ex_l, ex_d, ex_r, ex_rs, ex_rn, ex_sm, Nat.sub_zero, eq_self, wn_sI, wn_sL, wn_sP, wsh_sI, wsh_sL, wsh_sP, wI_sL, wI_sP, wL_sI, wL_sP, wP_sI, wP_sL, wI_sI, wL_sL, Int32.reduceLT, Int32.reduceLE, true_implies, not_true_eq_false, false_implies, not_false_eq_true, i_10]
      refine ⟨fun q => ?_, fun q => ?_⟩
      · refine h _ _ (fr_i _ (by decide)) ?_
        unfold SpThing
        rw [if_neg (not_not_intro ha), if_neg (not_not_intro hb), if_neg q]
        refine ⟨rfl, bt_i ⟨rfl, rfl⟩, ?_⟩
        rw [ni_cl (by omega)]
        exact wI_at.trans (if_pos rfl)
      · refine h _ _ (fr_i _ (by decide)) ?_
        unfold SpThing
        rw [if_neg (not_not_intro ha), if_neg (not_not_intro hb), if_pos q]
        refine ⟨rfl, bt_i ⟨rfl, rfl⟩, ?_⟩
        rw [ni_cl (by omega)]
        exact wI_at.trans (if_pos rfl)
    · simp only [b2i_f hb, pI_c, pL_c, pF_c, pD_c, pA_n, pA_c, pA_rf, pR_c, pR_rf, pV_i, pV_a, pV_n, pV_rf, ldI_c, ldL_c, ldF_c, ldD_c, ldA_c, ldA_n, ldA_rf, dup2_l, dup2_ia, dup2_ir, popA_0, popA_s, getL_z, getL_s, setL_z, setL_1, setL_s, setL2_z, setL2_1, setL2_s, drop2_i, drop2_a, drop2_0, drop2_n, drop2_l, drop2_d, drop2_r, cwd_0, cwd_i, cwd_a, cwd_n, cwd_l, cwd_d, cwd_f, cwd_r, rf_s, rf_n, swi_0, swi_s, zR_b0, zR_b1, zN_b0, zN_b1, entV_i, entV_a, entV_n, entV_r, entV_f, entV_l, entV_d, entV_s, entV_0, List.length_cons, List.length_nil, List.nil_append, List.cons_append, true_and, and_true, Nat.reduceAdd, Nat.reduceLT, Nat.reduceEqDiff, Nat.reduceLeDiff, Nat.reduceSub, Nat.zero_add, Classical.not_not, ex_i, ex_l, ex_d, ex_r, ex_rs, ex_rn, ex_sm, Nat.sub_zero, eq_self, wn_sI, wn_sL, wn_sP, wsh_sI, wsh_sL, wsh_sP, wI_sL, wI_sP, wL_sI, wL_sP, wP_sI, wP_sL, wI_sI, wL_sL, Int32.reduceLT, Int32.reduceLE, true_implies, not_true_eq_false, false_implies, not_false_eq_true, i_10]
      refine h _ _ Fr.rf ?_
      unfold SpThing
      rw [if_neg (not_not_intro ha), if_pos hb]
      exact ⟨rfl, Bt.rf⟩
  · simp only [b2i_f ha, pI_c, pL_c, pF_c, pD_c, pA_n, pA_c, pA_rf, pR_c, pR_rf, pV_i, pV_a, pV_n, pV_rf, ldI_c, ldL_c, ldF_c, ldD_c, ldA_c, ldA_n, ldA_rf, dup2_l, dup2_ia, dup2_ir, popA_0, popA_s, getL_z, getL_s, setL_z, setL_1, setL_s, setL2_z, setL2_1, setL2_s, drop2_i, drop2_a, drop2_0, drop2_n, drop2_l, drop2_d, drop2_r, cwd_0, cwd_i, cwd_a, cwd_n, cwd_l, cwd_d, cwd_f, cwd_r, rf_s, rf_n, swi_0, swi_s, zR_b0, zR_b1, zN_b0, zN_b1, entV_i, entV_a, entV_n, entV_r, entV_f, entV_l, entV_d, entV_s, entV_0, List.length_cons, List.length_nil, List.nil_append, List.cons_append, true_and, and_true, Nat.reduceAdd, Nat.reduceLT, Nat.reduceEqDiff, Nat.reduceLeDiff, Nat.reduceSub, Nat.zero_add, Classical.not_not, ex_i, ex_l, ex_d, ex_r, ex_rs, ex_rn, ex_sm, Nat.sub_zero, eq_self, wn_sI, wn_sL, wn_sP, wsh_sI, wsh_sL, wsh_sP, wI_sL, wI_sP, wL_sI, wL_sP, wP_sI, wP_sL, wI_sI, wL_sL, Int32.reduceLT, Int32.reduceLE, true_implies, not_true_eq_false, false_implies, not_false_eq_true, i_10]
    refine h _ _ Fr.rf ?_
    unfold SpThing
    rw [if_pos ha]
    exact ⟨rfl, Bt.rf⟩
