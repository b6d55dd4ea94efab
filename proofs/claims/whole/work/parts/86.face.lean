/-! the class: small calls -/
theorem plcN (i : Int32) {n : Nat} (hn : n < 2147483648) : (0 ≤ i ∧ i ≤ nI n - 1) ↔ (¬ i < 0 ∧ i < nI n) := by
  constructor
  · intro h
    refine ⟨Int32.not_lt.mpr h.1, ?_⟩
    obtain ⟨j, hj, rfl⟩ := i_ltN hn h.1 h.2
    rw [ni_lt (by omega) (by omega)]
    exact hj
  · intro h
    have h0 := Int32.not_lt.mp h.1
    refine ⟨h0, ?_⟩
    obtain ⟨j, hj, rfl⟩ := i_nat (c := n) (by omega) h0 (Int32.le_of_lt h.2)
    have h2 := h.2
    rw [ni_lt (by omega) (by omega)] at h2
    rw [show (1 : Int32) = nI 1 from rfl, ni_sub (by omega), ni_le (by omega) (by omega)]
    omega
theorem lt_le7 (v : Int32) : (¬ v < 0 ∧ ¬ 8 ≤ v) ↔ (0 ≤ v ∧ v ≤ 7) := by
  simp only [Int32.lt_iff_toInt_lt, Int32.le_iff_toInt_le, show (8 : Int32).toInt = 8 from rfl, show (7 : Int32).toInt = 7 from rfl, show (0 : Int32).toInt = 0 from rfl]
  omega
theorem lt_le5 (v : Int32) : (¬ v < 0 ∧ ¬ 6 ≤ v) ↔ (0 ≤ v ∧ v ≤ 5) := by
  simp only [Int32.lt_iff_toInt_lt, Int32.le_iff_toInt_le, show (6 : Int32).toInt = 6 from rfl, show (5 : Int32).toInt = 5 from rfl, show (0 : Int32).toInt = 0 from rfl]
  omega
set_option maxRecDepth 100000 in
set_option maxHeartbeats 4000000 in
theorem X11_isSlot_ok {g : Ge} {w : Wd} {k n : Nat} {K : Int32 → Wd → Nat → Nat → Prop} (v : Int32) (h : K (b2i (0 ≤ v ∧ v ≤ 7)) w k n) : cI g mX11_isSlot [.int v] w k n K := by
  refine cI_of 1 0 0 rfl (by decide +kernel) rfl (Nat.le_of_ble_eq_true rfl) (Nat.zero_le _) (Nat.zero_le _) ?_
  simp only [vX11_isSlot_0, vX11_isSlot_1, vX11_isSlot_4, vX11_isSlot_5, vX11_isSlot_7, vX11_isSlot_10, vX11_isSlot_11, vX11_isSlot_14, vX11_isSlot_15, pI_c, pL_c, pF_c, pD_c, pA_n, pA_c, pA_rf, pR_c, pR_rf, pV_i, pV_a, pV_n, pV_rf, ldI_c, ldL_c, ldF_c, ldD_c, ldA_c, ldA_n, ldA_rf, dup2_l, dup2_ia, dup2_ir, popA_0, popA_s, getL_z, getL_s, setL_z, setL_1, setL_s, setL2_z, setL2_1, setL2_s, drop2_i, drop2_a, drop2_0, drop2_n, drop2_l, drop2_d, drop2_r, cwd_0, cwd_i, cwd_a, cwd_n, cwd_l, cwd_d, cwd_f, cwd_r, rf_s, rf_n, swi_0, swi_s, zR_b0, zR_b1, zN_b0, zN_b1, entV_i, entV_a, entV_n, entV_r, entV_f, entV_l, entV_d, entV_s, entV_0, List.length_cons, List.length_nil, List.nil_append, List.cons_append, true_and, and_true, Nat.reduceAdd, Nat.reduceLT, Nat.reduceEqDiff, Nat.reduceLeDiff, Nat.reduceSub, Nat.zero_add, Classical.not_not, ex_i, ex_l, ex_d, ex_r, ex_rs, ex_rn, ex_sm, Nat.sub_zero, eq_self, wn_sI, wn_sL, wn_sP, wsh_sI, wsh_sL, wsh_sP, wI_sL, wI_sP, wL_sI, wL_sP, wP_sI, wP_sL, wI_sI, wL_sL, Int32.reduceLT, Int32.reduceLE, true_implies, not_true_eq_false, false_implies, not_false_eq_true, i_10]
  refine ⟨fun q => ?_, fun q => ⟨fun q2 => ?_, fun q2 => ?_⟩⟩
  · rwa [b2i_f (fun z => ((lt_le7 v).mpr z).1 q)] at h
  · rwa [b2i_f (fun z => ((lt_le7 v).mpr z).2 q2)] at h
  · rwa [b2i_t ((lt_le7 v).mp ⟨q, q2⟩)] at h
set_option maxRecDepth 100000 in
set_option maxHeartbeats 4000000 in
theorem X11_isVersion_ok {g : Ge} {w : Wd} {k n : Nat} {K : Int32 → Wd → Nat → Nat → Prop} (v : Int32) (h : K (b2i (0 ≤ v ∧ v ≤ 5)) w k n) : cI g mX11_isVersion [.int v] w k n K := by
  refine cI_of 1 0 0 rfl (by decide +kernel) rfl (Nat.le_of_ble_eq_true rfl) (Nat.zero_le _) (Nat.zero_le _) ?_
  simp only [vX11_isVersion_0, vX11_isVersion_1, vX11_isVersion_4, vX11_isVersion_5, vX11_isVersion_7, vX11_isVersion_10, vX11_isVersion_11, vX11_isVersion_14, vX11_isVersion_15, pI_c, pL_c, pF_c, pD_c, pA_n, pA_c, pA_rf, pR_c, pR_rf, pV_i, pV_a, pV_n, pV_rf, ldI_c, ldL_c, ldF_c, ldD_c, ldA_c, ldA_n, ldA_rf, dup2_l, dup2_ia, dup2_ir, popA_0, popA_s, getL_z, getL_s, setL_z, setL_1, setL_s, setL2_z, setL2_1, setL2_s, drop2_i, drop2_a, drop2_0, drop2_n, drop2_l, drop2_d, drop2_r, cwd_0, cwd_i, cwd_a, cwd_n, cwd_l, cwd_d, cwd_f, cwd_r, rf_s, rf_n, swi_0, swi_s, zR_b0, zR_b1, zN_b0, zN_b1, entV_i, entV_a, entV_n, entV_r, entV_f, entV_l, entV_d, entV_s, entV_0, List.length_cons, List.length_nil, List.nil_append, List.cons_append, true_and, and_true, Nat.reduceAdd, Nat.reduceLT, Nat.reduceEqDiff, Nat.reduceLeDiff, Nat.reduceSub, Nat.zero_add, Classical.not_not, ex_i, ex_l, ex_d, ex_r, ex_rs, ex_rn, ex_sm, Nat.sub_zero, eq_self, wn_sI, wn_sL, wn_sP, wsh_sI, wsh_sL, wsh_sP, wI_sL, wI_sP, wL_sI, wL_sP, wP_sI, wP_sL, wI_sI, wL_sL, Int32.reduceLT, Int32.reduceLE, true_implies, not_true_eq_false, false_implies, not_false_eq_true, i_10]
  refine ⟨fun q => ?_, fun q => ⟨fun q2 => ?_, fun q2 => ?_⟩⟩
  · rwa [b2i_f (fun z => ((lt_le5 v).mpr z).1 q)] at h
  · rwa [b2i_f (fun z => ((lt_le5 v).mpr z).2 q2)] at h
  · rwa [b2i_t ((lt_le5 v).mp ⟨q, q2⟩)] at h
set_option maxRecDepth 100000 in
set_option maxHeartbeats 4000000 in
theorem X11_isOnWire_ok {g : Ge} {w : Wd} {k n : Nat} {K : Int32 → Wd → Nat → Nat → Prop} {x u : Nat} (hx : XS g x w) (e : wI w x 12 = nI u) (hu : u ≤ 500) (i : Int32) (h : K (b2i (0 ≤ i ∧ i ≤ nI u - 1)) w k n) : cI g mX11_isOnWire [.ref x, .int i] w k n K := by
  have t := plcN i (show u < 2147483648 by omega)
  refine cI_of 2 0 0 rfl (by decide +kernel) rfl (Nat.le_of_ble_eq_true rfl) (Nat.zero_le _) (Nat.zero_le _) ?_
  simp only [vX11_isOnWire_0, vX11_isOnWire_1, vX11_isOnWire_4, vX11_isOnWire_5, vX11_isOnWire_6, vX11_isOnWire_9, vX11_isOnWire_12, vX11_isOnWire_13, vX11_isOnWire_16, vX11_isOnWire_17, xs_b hx, xs_0 hx, xs_obj hx, pI_c, pL_c, pF_c, pD_c, pA_n, pA_c, pA_rf, pR_c, pR_rf, pV_i, pV_a, pV_n, pV_rf, ldI_c, ldL_c, ldF_c, ldD_c, ldA_c, ldA_n, ldA_rf, dup2_l, dup2_ia, dup2_ir, popA_0, popA_s, getL_z, getL_s, setL_z, setL_1, setL_s, setL2_z, setL2_1, setL2_s, drop2_i, drop2_a, drop2_0, drop2_n, drop2_l, drop2_d, drop2_r, cwd_0, cwd_i, cwd_a, cwd_n, cwd_l, cwd_d, cwd_f, cwd_r, rf_s, rf_n, swi_0, swi_s, zR_b0, zR_b1, zN_b0, zN_b1, entV_i, entV_a, entV_n, entV_r, entV_f, entV_l, entV_d, entV_s, entV_0, List.length_cons, List.length_nil, List.nil_append, List.cons_append, true_and, and_true, Nat.reduceAdd, Nat.reduceLT, Nat.reduceEqDiff, Nat.reduceLeDiff, Nat.reduceSub, Nat.zero_add, Classical.not_not, ex_i, ex_l, ex_d, ex_r, ex_rs, ex_rn, ex_sm, Nat.sub_zero, eq_self, wn_sI, wn_sL, wn_sP, wsh_sI, wsh_sL, wsh_sP, wI_sL, wI_sP, wL_sI, wL_sP, wP_sI, wP_sL, wI_sI, wL_sL, Int32.reduceLT, Int32.reduceLE, true_implies, not_true_eq_false, false_implies, not_false_eq_true, i_10, e]
  refine ⟨fun q => ?_, fun q => ⟨fun q2 => ?_, fun q2 => ?_⟩⟩
  · rwa [b2i_f (fun z => (t.mp z).1 q)] at h
  · rwa [b2i_f (fun z => absurd (t.mp z).2 (Int32.not_lt.mpr q2))] at h
  · rwa [b2i_t (t.mpr ⟨q, Int32.not_le.mp q2⟩)] at h
theorem AbsX.wire {x : Nat} {w : Wd} {s : St} (h : AbsX x w s) : WireR (wI w x 12) (wI w (x + 4)) (s.1 0 13) (s.1 13) := by
  obtain ⟨ra, rb, -, -, -, h4, -⟩ := h
  exact h4
theorem AbsX.stop {x : Nat} {w : Wd} {s : St} (h : AbsX x w s) : StopR (wI w (x + 36)) (s.1 0 21) (s.1 16) := by
  obtain ⟨ra, rb, -, -, -, -, -, -, -, h8, -⟩ := h
  exact h8
theorem AbsX.lax {x : Nat} {w : Wd} {s : St} (h : AbsX x w s) : LaxR (wI w x 13) (s.1 0 5) := by
  obtain ⟨ra, rb, -, -, -, -, -, -, h7, -⟩ := h
  exact h7
theorem AbsX.lat {x : Nat} {w : Wd} {s : St} (h : AbsX x w s) : wI w x 14 = s.1 0 19 ∧ wL w x 15 = s.2 0 20 := by
  obtain ⟨ra, rb, -, -, -, -, -, h6, -⟩ := h
  exact h6
theorem AbsX.tape {x : Nat} {w : Wd} {s : St} (h : AbsX x w s) : TapeR (wI w x 11) (wI w (x + 3)) (s.1 0 15) (s.1 14) := by
  obtain ⟨ra, rb, -, -, h3, -⟩ := h
  exact h3
theorem AbsX.pap {x : Nat} {w : Wd} {s : St} (h : AbsX x w s) : PapR x w (wP w x 10) (s.1 0 17) (s.1 15) := by
  obtain ⟨ra, rb, -, -, -, -, h5, -⟩ := h
  exact h5
theorem AbsX.tal {x : Nat} {w : Wd} {s : St} (h : AbsX x w s) : ∀ i, i < 6 → wI w (x + 5) i = s.1 17 i := by
  obtain ⟨ra, rb, -, -, -, -, -, -, -, -, h9, -⟩ := h
  exact h9
theorem AbsX.vers {x : Nat} {w : Wd} {s : St} (h : AbsX x w s) : VersX (x + 81) w (wP w (x + 2)) (s.1 6) (fun j i => s.1 (7 + j) i) := by
  obtain ⟨ra, rb, -, h2, -⟩ := h
  exact h2
/-- a call's end that changes nothing -/
theorem nochg {g : Ge} {x : Nat} {w : Wd} {s : St} {Sp : Int32 → St → Prop} {ans : Int32} (hI : CI g x w s) (h : ∀ b s', Sp b s' → b = ans ∧ Bt none2 s s') : Xo g x w w ∧ ∀ b s', Sp b s' → b = ans ∧ AbsX x w s' := ⟨Xo.rf hI.1 hI.2.2.1, fun b s' z => ⟨(h b s' z).1, hI.2.2.2.2.bt hI.1 (h b s' z).2⟩⟩
/-- one write to the class's own cell -/
theorem own_i {g : Ge} {x o j : Nat} {w : Wd} (v : Int32) (hx : XS g x w) (hw : WF w) (ho : o < 41) : Xo g x w (sI w (x + o) j v) ∧ Keep x w (sI w (x + o) j v) := by
  have hf : Fr (fun a _ => a = x + o) w (sI w (x + o) j v) := Fr.rf.i _ rfl
  exact ⟨hf.xo hx hw fun a j h => by omega, hf.keep fun a j h => by omega⟩
def intS (o j : Nat) : Prop := (o = 0 ∧ (j = 5 ∨ j = 13 ∨ j = 15 ∨ j = 19 ∨ j = 20 ∨ j = 21)) ∨ o = 13 ∨ o = 14 ∨ o = 16 ∨ o = 17
/-- AbsX behind a write of ints of the class alone: what is left to show -/
theorem AbsX.ints2 {g : Ge} {x : Nat} {S : Nat → Nat → Prop} {w w' : Wd} {s s' : St} (hA : AbsX x w s) (hx : XS g x w) (hf : Fr S w w') (hS : ∀ a j, S a j → (a = x ∧ 11 ≤ j) ∨ (x + 3 ≤ a ∧ a ≤ x + 36)) (hB : Bt intS s s') (t : TapeR (wI w' x 11) (wI w' (x + 3)) (s'.1 0 15) (s'.1 14)) (wr : WireR (wI w' x 12) (wI w' (x + 4)) (s'.1 0 13) (s'.1 13)) (lt : wI w' x 14 = s'.1 0 19 ∧ wL w' x 15 = s'.2 0 20) (lx : LaxR (wI w' x 13) (s'.1 0 5)) (sp : StopR (wI w' (x + 36)) (s'.1 0 21) (s'.1 16)) (ta : ∀ i, i < 6 → wI w' (x + 5) i = s'.1 17 i) : AbsX x w' s' :=
  hA.ints (hf.keep fun a j h z => by have := hS a j z; omega) (fun a _ _ _ => by rw [hf.P]) (fun o h1 h2 => ⟨hB.A o h1 (by omega) fun j z => by unfold intS at z; omega, hB.B o h1 (by omega) fun j z => by unfold intS at z; omega⟩) (hB.A 15 (by decide) (by decide) fun j z => by unfold intS at z; omega) (hB.I 0 17 (Or.inl ⟨rfl, by decide⟩) fun z => by unfold intS at z; omega) (fun o h1 h2 => ⟨hB.A o (by omega) h2 fun j z => by unfold intS at z; omega, hB.B o (by omega) h2 fun j z => by unfold intS at z; omega⟩) (fun j h1 h2 => hB.I 0 j (Or.inl ⟨rfl, by omega⟩) fun z => by unfold intS at z; omega) (funext fun j => hf.I _ _ fun z => by have := hS _ j z; omega) (funext fun j => hf.I _ _ fun z => by have := hS _ j z; omega) t wr lt lx sp ta
theorem StopR.cg {a a' : Nat → Int32} {u u' : Int32} {b b' : Nat → Int32} (h : StopR a u b) (e1 : ∀ i, i < 4 → a' i = a i) (e2 : u' = u) (e3 : ∀ i, i < 4 → b' i = b i) : StopR a' u' b' := by
  rcases h with ⟨h1, h2⟩ | ⟨h1, h2, h3⟩
  · exact Or.inl ⟨e2.trans h1, (e1 0 (by decide)).trans h2⟩
  · exact Or.inr ⟨e2.trans h1, fun z => h2 ((e1 0 (by decide)).symm.trans z), fun i hi => (e1 i hi).trans ((h3 i hi).trans (e3 i hi).symm)⟩
theorem tapR_cg {a a' c c' : Int32} {f f' h h' : Nat → Int32} (z : TapeR a f c h) (e1 : a' = a) (e2 : f' = f) (e3 : c' = c) (e4 : h' = h) : TapeR a' f' c' h' := by rw [e1, e2, e3, e4]; exact z
theorem wirR_cg {a a' c c' : Int32} {f f' h h' : Nat → Int32} (z : WireR a f c h) (e1 : a' = a) (e2 : f' = f) (e3 : c' = c) (e4 : h' = h) : WireR a' f' c' h' := by rw [e1, e2, e3, e4]; exact z
set_option maxRecDepth 100000 in
set_option maxHeartbeats 4000000 in
theorem X_lax {g : Ge} {w : Wd} {k n : Nat} {K : Int32 → Wd → Nat → Nat → Prop} {x : Nat} {s : St} (hI : CI g x w s) (hk : 1000 ≤ k) (hn : 14000 ≤ n) (v : Int32) (h : ∀ ans w', Xo g x w w' → (∀ b s', SpLax s v b s' → b = ans ∧ AbsX x w' s') → K ans w' (k - 1000) (n - 14000)) : cI g mX11_lax [.ref x, .int v] w k n K := by
  obtain ⟨hx, hC, hW, hw, hA⟩ := id hI
  unfold SpLax at h
  obtain ⟨e, hl⟩ := hA.lax
  have fin : (v = 0 ∨ v = 1) → K (wI w x 13) (sI w x 13 v) (k - 1000) (n - 14000) := by
    intro hv
    have hf : Fr (fun a j => a = x ∧ j = 13) w (sI w x 13 v) := Fr.rf.i _ ⟨rfl, rfl⟩
    refine h _ _ (hf.xo hx hW fun a j h => by omega) fun b s' z => ?_
    have hv01 : 0 ≤ v ∧ v ≤ 1 := by rcases hv with rfl | rfl <;> exact ⟨by decide, by decide⟩
    rw [if_neg (not_not_intro hv01)] at z
    obtain ⟨z1, z2, z3⟩ := z
    have B : ∀ o j, pers o j → ¬ (o = 0 ∧ j = 5) → s'.1 o j = s.1 o j ∧ s'.2 o j = s.2 o j := z2
    refine ⟨z1.trans e.symm, hA.ints2 hx hf (fun a j q => Or.inl ⟨q.1, by omega⟩) (fun o j hp hn => z2 o j hp fun q => hn (by unfold intS; omega)) ?_ ?_ ?_ ?_ ?_ ?_⟩
    · exact tapR_cg hA.tape (hf.I _ _ (by omega)) (funext fun j => hf.I _ _ (by omega)) (z2.I 0 15 (Or.inl ⟨rfl, by decide⟩) (by omega)) (z2.A 14 (by decide) (by decide) (by omega))
    · exact wirR_cg hA.wire (hf.I _ _ (by omega)) (funext fun j => hf.I _ _ (by omega)) (z2.I 0 13 (Or.inl ⟨rfl, by decide⟩) (by omega)) (z2.A 13 (by decide) (by decide) (by omega))
    · exact ⟨(hf.I _ _ (by omega)).trans (hA.lat.1.trans (z2.I 0 19 (Or.inl ⟨rfl, by decide⟩) (by omega)).symm), (hf.L _ _ (by omega)).trans (hA.lat.2.trans (z2.L 0 20 (Or.inl ⟨rfl, by decide⟩) (by omega)).symm)⟩
    · rw [wI_at, if_pos rfl, z3]
      exact ⟨rfl, hv⟩
    · exact hA.stop.cg (fun i _ => hf.I _ _ (by omega)) (z2.I 0 21 (Or.inl ⟨rfl, by decide⟩) (by omega)) fun i _ => z2.I 16 i (Or.inr ⟨by decide, by decide⟩) (by omega)
    · intro i hi
      exact (hf.I _ _ (by omega)).trans ((hA.tal i hi).trans (z2.I 17 i (Or.inr ⟨by decide, by decide⟩) (by omega)).symm)
  refine cI_of 3 1000 14000 rfl (by decide +kernel) rfl (Nat.le_of_ble_eq_true rfl) hk hn ?_
  simp only [vX11_lax_0, vX11_lax_1, vX11_lax_4, vX11_lax_5, vX11_lax_6, vX11_lax_9, vX11_lax_11, vX11_lax_12, vX11_lax_13, vX11_lax_16, vX11_lax_17, vX11_lax_18, vX11_lax_19, vX11_lax_22, vX11_lax_23, xs_b hx, xs_0 hx, xs_obj hx, pI_c, pL_c, pF_c, pD_c, pA_n, pA_c, pA_rf, pR_c, pR_rf, pV_i, pV_a, pV_n, pV_rf, ldI_c, ldL_c, ldF_c, ldD_c, ldA_c, ldA_n, ldA_rf, dup2_l, dup2_ia, dup2_ir, popA_0, popA_s, getL_z, getL_s, setL_z, setL_1, setL_s, setL2_z, setL2_1, setL2_s, drop2_i, drop2_a, drop2_0, drop2_n, drop2_l, drop2_d, drop2_r, cwd_0, cwd_i, cwd_a, cwd_n, cwd_l, cwd_d, cwd_f, cwd_r, rf_s, rf_n, swi_0, swi_s, zR_b0, zR_b1, zN_b0, zN_b1, entV_i, entV_a, entV_n, entV_r, entV_f, entV_l, entV_d, entV_s, entV_0, List.length_cons, List.length_nil, List.nil_append, List.cons_append, true_and, and_true, Nat.reduceAdd, Nat.reduceLT, Nat.reduceEqDiff, Nat.reduceLeDiff, Nat.reduceSub, Nat.zero_add, Classical.not_not, ex_i, ex_l, ex_d, ex_r, ex_rs, ex_rn, ex_sm, Nat.sub_zero, eq_self, wn_sI, wn_sL, wn_sP, wsh_sI, wsh_sL, wsh_sP, wI_sL, wI_sP, wL_sI, wL_sP, wP_sI, wP_sL, wI_sI, wL_sL, Int32.reduceLT, Int32.reduceLE, true_implies, not_true_eq_false, false_implies, not_false_eq_true, i_10]
  refine ⟨fun q => fin (Or.inl q), fun q => ⟨fun q2 => fin (Or.inr q2), fun q2 => ?_⟩⟩
  have hv : ¬ (0 ≤ v ∧ v ≤ 1) := fun z => by
    obtain ⟨c, hc, rfl⟩ := i_nat (c := 1) (by decide) z.1 z.2
    rcases (show c = 0 ∨ c = 1 by omega) with rfl | rfl
    · exact q rfl
    · exact q2 rfl
  obtain ⟨z1, z2⟩ := nochg (ans := -2) (Sp := fun b s' => if ¬ (0 ≤ v ∧ v ≤ 1) then b = -2 ∧ Bt none2 s s' else b = s.1 0 5 ∧ Bt (fun o j => o = 0 ∧ j = 5) s s' ∧ s'.1 0 5 = v) hI fun b s' z => by rw [if_pos hv] at z; exact z
  exact h _ _ z1 z2
