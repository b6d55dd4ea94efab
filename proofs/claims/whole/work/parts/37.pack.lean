/-! packing: widths, bytes -/
def fitB (v : Int64) (w : Nat) : Bool := decide ((v <<< ((nI (64 - 8 * w)).toInt64 &&& 63)) >>> ((nI (64 - 8 * w)).toInt64 &&& 63) = v)
def wdF (v : Int64) : Nat → Nat → Nat
  | _, 0 => 8
  | w, d + 1 => if fitB v w = true then w else wdF v (w + 1) d
def wd (v : Int64) : Nat := if v = 0 then 0 else wdF v 1 7
theorem wdF_le (v : Int64) : ∀ (d w : Nat), w + d = 8 → wdF v w d ≤ 8
  | 0, w, h => Nat.le_refl 8
  | d + 1, w, h => by
    unfold wdF
    split
    · omega
    · exact wdF_le v d (w + 1) (by omega)
theorem wd_le (v : Int64) : wd v ≤ 8 := by
  unfold wd
  split
  · omega
  · exact wdF_le v 7 1 rfl
def byt (v : Int64) (i : Nat) : Int32 := ((v >>> ((nI (8 * i)).toInt64 &&& 63)) &&& 255).toInt32
def byts (v : Int64) : Nat → List Int32
  | 0 => []
  | w + 1 => byt v w :: byts v w
theorem byts_len (v : Int64) : ∀ w, (byts v w).length = w
  | 0 => rfl
  | w + 1 => congrArg (· + 1) (byts_len v w)
/-- an array holds these from o on -/
def bufH (f : Nat → Int32) (o : Nat) (L : List Int32) : Prop := ∀ i, i < L.length → L[i]? = some (f (o + i))
theorem bufH.nil (f : Nat → Int32) (o : Nat) : bufH f o [] := fun i h => by cases h
theorem bufH.push {f f' : Nat → Int32} {o : Nat} {L : List Int32} (h : bufH f o L) (x : Int32) (h1 : f' (o + L.length) = x) (h2 : ∀ i, i < o + L.length → f' i = f i) : bufH f' o (L ++ [x]) := by
  intro i hi
  rw [List.length_append, List.length_singleton] at hi
  by_cases q : i < L.length
  · rw [List.getElem?_append_left q, h i q, h2 (o + i) (by omega)]
  · obtain rfl : i = L.length := by omega
    rw [List.getElem?_append_right (Nat.le_refl _), Nat.sub_self, h1]
    rfl
/-- the reference's body so far, but for its first byte -/
def OutM (m : Nat) (w : Wd) (L : List Int32) : Prop := wI w m 45 = nI (1 + L.length) ∧ bufH (wI w (m + 32)) 1 L
def outS (m : Nat) (a j : Nat) : Prop := (a = m ∧ j = 45) ∨ a = m + 32
/-- one byte more -/
def outW (m : Nat) (w : Wd) (L : List Int32) (x : Int32) : Wd := sI (sI w m 45 (nI (1 + L.length + 1))) (m + 32) (1 + L.length) x
theorem outW_fr (m : Nat) (w : Wd) (L : List Int32) (x : Int32) : Fr (outS m) w (outW m w L x) := (Fr.rf.i _ (Or.inl ⟨rfl, rfl⟩)).i _ (Or.inr rfl)
theorem outW_ok {m : Nat} {w : Wd} {L : List Int32} (h : OutM m w L) (x : Int32) : OutM m (outW m w L x) (L ++ [x]) := by
  obtain ⟨h1, h2⟩ := h
  unfold outW
  refine ⟨?_, h2.push x ?_ ?_⟩
  · rw [wI_ne (by omega), wI_at, if_pos rfl, List.length_append]
    rfl
  · rw [wI_at, if_pos rfl]
  · intro i hi
    rw [wI_at, if_neg (by omega), wI_ne (by omega)]
set_option maxRecDepth 100000 in
set_option maxHeartbeats 4000000 in
theorem X12_width_loop {g : Ge} {w : Wd} {k n : Nat} {K : Option Value → Wd → Prop} {v : Int64} : ∀ (d a : Nat), a + d = 8 → 1 ≤ a → K (some (.int (nI (wdF v a d)))) w → R g mX12_width K 10 [some (.long v), none, some (.int (nI a))] [] w k n := by
  intro d
  induction d with
  | zero =>
    intro a ha h1 hK
    obtain rfl : a = 8 := by omega
    rw [vX12_width_10]
    simp only [vX12_width_0, vX12_width_1, vX12_width_2, vX12_width_3, vX12_width_6, vX12_width_7, vX12_width_8, vX12_width_9, vX12_width_11, vX12_width_13, vX12_width_16, vX12_width_17, vX12_width_19, vX12_width_21, vX12_width_22, vX12_width_23, vX12_width_24, vX12_width_25, vX12_width_27, vX12_width_29, vX12_width_30, vX12_width_31, vX12_width_32, vX12_width_33, vX12_width_34, vX12_width_35, vX12_width_38, vX12_width_41, vX12_width_44, vX12_width_45, pI_c, pL_c, pF_c, pD_c, pA_n, pA_c, pA_rf, pR_c, pR_rf, pV_i, pV_a, pV_n, pV_rf, ldI_c, ldL_c, ldF_c, ldD_c, ldA_c, ldA_n, ldA_rf, dup2_l, dup2_ia, dup2_ir, popA_0, popA_s, getL_z, getL_s, setL_z, setL_1, setL_s, setL2_z, setL2_1, setL2_s, drop2_i, drop2_a, drop2_0, drop2_n, drop2_l, drop2_d, drop2_r, cwd_0, cwd_i, cwd_a, cwd_n, cwd_l, cwd_d, cwd_f, cwd_r, rf_s, rf_n, swi_0, swi_s, zR_b0, zR_b1, zN_b0, zN_b1, entV_i, entV_a, entV_n, entV_r, entV_f, entV_l, entV_d, entV_s, entV_0, List.length_cons, List.length_nil, List.nil_append, List.cons_append, true_and, and_true, Nat.reduceAdd, Nat.reduceLT, Nat.reduceEqDiff, Nat.reduceLeDiff, Nat.reduceSub, Nat.zero_add, Classical.not_not, ex_i, ex_l, ex_d, ex_r, ex_rs, ex_rn, ex_sm, Nat.sub_zero, eq_self, wn_sI, wn_sL, wn_sP, wsh_sI, wsh_sL, wsh_sP, wI_sL, wI_sP, wL_sI, wL_sP, wP_sI, wP_sL, wI_sI, wL_sL, Int32.reduceLT, Int32.reduceLE, true_implies, not_true_eq_false, false_implies, not_false_eq_true, i_10]
    simp (disch := omega) only [ni_lit, ni_le, ni_lt, ni_eq, ni_add, ni_mul, ni_sub, ni_1, ni_cl, ni_in, ni_0, ni_0_, ni_m1, Nat.le_refl, not_true_eq_false, false_implies, true_implies, and_true]
    exact hK
  | succ d ih =>
    intro a ha h1 hK
    rw [vX12_width_10]
    simp only [vX12_width_0, vX12_width_1, vX12_width_2, vX12_width_3, vX12_width_6, vX12_width_7, vX12_width_8, vX12_width_9, vX12_width_11, vX12_width_13, vX12_width_16, vX12_width_17, vX12_width_19, vX12_width_21, vX12_width_22, vX12_width_23, vX12_width_24, vX12_width_25, vX12_width_27, vX12_width_29, vX12_width_30, vX12_width_31, vX12_width_32, vX12_width_33, vX12_width_34, vX12_width_35, vX12_width_38, vX12_width_41, vX12_width_44, vX12_width_45, pI_c, pL_c, pF_c, pD_c, pA_n, pA_c, pA_rf, pR_c, pR_rf, pV_i, pV_a, pV_n, pV_rf, ldI_c, ldL_c, ldF_c, ldD_c, ldA_c, ldA_n, ldA_rf, dup2_l, dup2_ia, dup2_ir, popA_0, popA_s, getL_z, getL_s, setL_z, setL_1, setL_s, setL2_z, setL2_1, setL2_s, drop2_i, drop2_a, drop2_0, drop2_n, drop2_l, drop2_d, drop2_r, cwd_0, cwd_i, cwd_a, cwd_n, cwd_l, cwd_d, cwd_f, cwd_r, rf_s, rf_n, swi_0, swi_s, zR_b0, zR_b1, zN_b0, zN_b1, entV_i, entV_a, entV_n, entV_r, entV_f, entV_l, entV_d, entV_s, entV_0, List.length_cons, List.length_nil, List.nil_append, List.cons_append, true_and, and_true, Nat.reduceAdd, Nat.reduceLT, Nat.reduceEqDiff, Nat.reduceLeDiff, Nat.reduceSub, Nat.zero_add, Classical.not_not, ex_i, ex_l, ex_d, ex_r, ex_rs, ex_rn, ex_sm, Nat.sub_zero, eq_self, wn_sI, wn_sL, wn_sP, wsh_sI, wsh_sL, wsh_sP, wI_sL, wI_sP, wL_sI, wL_sP, wP_sI, wP_sL, wI_sI, wL_sL, Int32.reduceLT, Int32.reduceLE, true_implies, not_true_eq_false, false_implies, not_false_eq_true, i_10, lgc]
    have h8 : ¬ 8 ≤ a := by omega
    have e : (64 : Int32) - 8 * nI a = nI (64 - 8 * a) := by rw [ni_lit 64, ni_lit 8, ni_mul, ni_sub (by omega)]
    simp (disch := omega) only [e, ni_1]
    simp (disch := omega) only [ni_lit, ni_le, ni_lt, ni_eq, ni_add, ni_mul, ni_sub, ni_1, ni_cl, ni_in, ni_0, ni_0_, ni_m1, h8, not_false_eq_true, false_implies, true_implies, true_and]
    unfold wdF at hK
    refine ⟨fun q => ?_, fun q => ?_⟩
    · rw [if_pos (by unfold fitB; simpa using q)] at hK
      exact hK
    · rw [if_neg (by unfold fitB; simpa using q)] at hK
      exact ih (a + 1) (by omega) (by omega) hK
set_option maxRecDepth 100000 in
set_option maxHeartbeats 4000000 in
theorem X12_width_ok {g : Ge} {w : Wd} {k n : Nat} {K : Int32 → Wd → Nat → Nat → Prop} (v : Int64) (h : K (nI (wd v)) w k n) : cI g mX12_width [.long v] w k n K := by
  refine cI_of 3 0 0 rfl (by decide +kernel) rfl (Nat.le_of_ble_eq_true rfl) (Nat.zero_le _) (Nat.zero_le _) ?_
  simp only [vX12_width_0, vX12_width_1, vX12_width_2, vX12_width_3, vX12_width_6, vX12_width_7, vX12_width_8, vX12_width_9, vX12_width_11, vX12_width_13, vX12_width_16, vX12_width_17, vX12_width_19, vX12_width_21, vX12_width_22, vX12_width_23, vX12_width_24, vX12_width_25, vX12_width_27, vX12_width_29, vX12_width_30, vX12_width_31, vX12_width_32, vX12_width_33, vX12_width_34, vX12_width_35, vX12_width_38, vX12_width_41, vX12_width_44, vX12_width_45, pI_c, pL_c, pF_c, pD_c, pA_n, pA_c, pA_rf, pR_c, pR_rf, pV_i, pV_a, pV_n, pV_rf, ldI_c, ldL_c, ldF_c, ldD_c, ldA_c, ldA_n, ldA_rf, dup2_l, dup2_ia, dup2_ir, popA_0, popA_s, getL_z, getL_s, setL_z, setL_1, setL_s, setL2_z, setL2_1, setL2_s, drop2_i, drop2_a, drop2_0, drop2_n, drop2_l, drop2_d, drop2_r, cwd_0, cwd_i, cwd_a, cwd_n, cwd_l, cwd_d, cwd_f, cwd_r, rf_s, rf_n, swi_0, swi_s, zR_b0, zR_b1, zN_b0, zN_b1, entV_i, entV_a, entV_n, entV_r, entV_f, entV_l, entV_d, entV_s, entV_0, List.length_cons, List.length_nil, List.nil_append, List.cons_append, true_and, and_true, Nat.reduceAdd, Nat.reduceLT, Nat.reduceEqDiff, Nat.reduceLeDiff, Nat.reduceSub, Nat.zero_add, Classical.not_not, ex_i, ex_l, ex_d, ex_r, ex_rs, ex_rn, ex_sm, Nat.sub_zero, eq_self, wn_sI, wn_sL, wn_sP, wsh_sI, wsh_sL, wsh_sP, wI_sL, wI_sP, wL_sI, wL_sP, wP_sI, wP_sL, wI_sI, wL_sL, Int32.reduceLT, Int32.reduceLE, true_implies, not_true_eq_false, false_implies, not_false_eq_true, i_10, lgc]
  unfold wd at h
  refine ⟨fun q => ?_, fun q => ?_⟩
  · rw [if_neg q] at h
    refine X12_width_loop 7 1 rfl (Nat.le_refl 1) ?_
    simp only [pI_c, pL_c, pF_c, pD_c, pA_n, pA_c, pA_rf, pR_c, pR_rf, pV_i, pV_a, pV_n, pV_rf, ldI_c, ldL_c, ldF_c, ldD_c, ldA_c, ldA_n, ldA_rf, dup2_l, dup2_ia, dup2_ir, popA_0, popA_s, getL_z, getL_s, setL_z, setL_1, setL_s, setL2_z, setL2_1, setL2_s, drop2_i, drop2_a, drop2_0, drop2_n, drop2_l, drop2_d, drop2_r, cwd_0, cwd_i, cwd_a, cwd_n, cwd_l, cwd_d, cwd_f, cwd_r, rf_s, rf_n, swi_0, swi_s, zR_b0, zR_b1, zN_b0, zN_b1, entV_i, entV_a, entV_n, entV_r, entV_f, entV_l, entV_d, entV_s, entV_0, List.length_cons, List.length_nil, List.nil_append, List.cons_append, true_and, and_true, Nat.reduceAdd, Nat.reduceLT, Nat.reduceEqDiff, Nat.reduceLeDiff, Nat.reduceSub, Nat.zero_add, Classical.not_not, ex_i, ex_l, ex_d, ex_r, ex_rs, ex_rn, ex_sm, Nat.sub_zero, eq_self, wn_sI, wn_sL, wn_sP, wsh_sI, wsh_sL, wsh_sP, wI_sL, wI_sP, wL_sI, wL_sP, wP_sI, wP_sL, wI_sI, wL_sL, Int32.reduceLT, Int32.reduceLE, true_implies, not_true_eq_false, false_implies, not_false_eq_true, i_10]
    exact h
  · rw [if_pos q] at h
    exact h
set_option maxRecDepth 100000 in
set_option maxHeartbeats 4000000 in
theorem X12_puts_loop {g : Ge} {m k n : Nat} {K : Option Value → Wd → Prop} {v : Int64} {z : Int32} : ∀ (i : Nat) (w : Wd) (L : List Int32), MS g m w → OutM m w L → L.length + i ≤ 1199 → i ≤ 8 → (∀ w', Fr (outS m) w w' → OutM m w' (L ++ byts v i) → K none w') → R g mX12_puts K 5 [some (.ref m), some (.long v), none, some (.int z), some (.int (nI i - 1))] [] w k n := by
  intro i
  induction i with
  | zero =>
    intro w L hm hL hl hi hK
    rw [vX12_puts_5]
    have e : (nI 0 - 1 : Int32) < 0 := by decide
    simp only [vX12_puts_0, vX12_puts_1, vX12_puts_2, vX12_puts_3, vX12_puts_7, vX12_puts_10, vX12_puts_11, vX12_puts_14, vX12_puts_15, vX12_puts_16, vX12_puts_19, vX12_puts_20, vX12_puts_21, vX12_puts_22, vX12_puts_25, vX12_puts_26, vX12_puts_28, vX12_puts_30, vX12_puts_31, vX12_puts_32, vX12_puts_35, vX12_puts_36, vX12_puts_37, vX12_puts_38, vX12_puts_41, vX12_puts_44, pI_c, pL_c, pF_c, pD_c, pA_n, pA_c, pA_rf, pR_c, pR_rf, pV_i, pV_a, pV_n, pV_rf, ldI_c, ldL_c, ldF_c, ldD_c, ldA_c, ldA_n, ldA_rf, dup2_l, dup2_ia, dup2_ir, popA_0, popA_s, getL_z, getL_s, setL_z, setL_1, setL_s, setL2_z, setL2_1, setL2_s, drop2_i, drop2_a, drop2_0, drop2_n, drop2_l, drop2_d, drop2_r, cwd_0, cwd_i, cwd_a, cwd_n, cwd_l, cwd_d, cwd_f, cwd_r, rf_s, rf_n, swi_0, swi_s, zR_b0, zR_b1, zN_b0, zN_b1, entV_i, entV_a, entV_n, entV_r, entV_f, entV_l, entV_d, entV_s, entV_0, List.length_cons, List.length_nil, List.nil_append, List.cons_append, true_and, and_true, Nat.reduceAdd, Nat.reduceLT, Nat.reduceEqDiff, Nat.reduceLeDiff, Nat.reduceSub, Nat.zero_add, Classical.not_not, ex_i, ex_l, ex_d, ex_r, ex_rs, ex_rn, ex_sm, Nat.sub_zero, eq_self, wn_sI, wn_sL, wn_sP, wsh_sI, wsh_sL, wsh_sP, wI_sL, wI_sP, wL_sI, wL_sP, wP_sI, wP_sL, wI_sI, wL_sL, Int32.reduceLT, Int32.reduceLE, true_implies, not_true_eq_false, false_implies, not_false_eq_true, i_10, e]
    exact hK w Fr.rf (by rw [byts, List.append_nil]; exact hL)
  | succ i ih =>
    intro w L hm hL hl hi hK
    rw [vX12_puts_5, nI_pred]
    simp only [vX12_puts_0, vX12_puts_1, vX12_puts_2, vX12_puts_3, vX12_puts_7, vX12_puts_10, vX12_puts_11, vX12_puts_14, vX12_puts_15, vX12_puts_16, vX12_puts_19, vX12_puts_20, vX12_puts_21, vX12_puts_22, vX12_puts_25, vX12_puts_26, vX12_puts_28, vX12_puts_30, vX12_puts_31, vX12_puts_32, vX12_puts_35, vX12_puts_36, vX12_puts_37, vX12_puts_38, vX12_puts_41, vX12_puts_44, ms_o hm, ms_b hm, ms_0 hm, mp_out hm, ms_out hm, pI_c, pL_c, pF_c, pD_c, pA_n, pA_c, pA_rf, pR_c, pR_rf, pV_i, pV_a, pV_n, pV_rf, ldI_c, ldL_c, ldF_c, ldD_c, ldA_c, ldA_n, ldA_rf, dup2_l, dup2_ia, dup2_ir, popA_0, popA_s, getL_z, getL_s, setL_z, setL_1, setL_s, setL2_z, setL2_1, setL2_s, drop2_i, drop2_a, drop2_0, drop2_n, drop2_l, drop2_d, drop2_r, cwd_0, cwd_i, cwd_a, cwd_n, cwd_l, cwd_d, cwd_f, cwd_r, rf_s, rf_n, swi_0, swi_s, zR_b0, zR_b1, zN_b0, zN_b1, entV_i, entV_a, entV_n, entV_r, entV_f, entV_l, entV_d, entV_s, entV_0, List.length_cons, List.length_nil, List.nil_append, List.cons_append, true_and, and_true, Nat.reduceAdd, Nat.reduceLT, Nat.reduceEqDiff, Nat.reduceLeDiff, Nat.reduceSub, Nat.zero_add, Classical.not_not, ex_i, ex_l, ex_d, ex_r, ex_rs, ex_rn, ex_sm, Nat.sub_zero, eq_self, wn_sI, wn_sL, wn_sP, wsh_sI, wsh_sL, wsh_sP, wI_sL, wI_sP, wL_sI, wL_sP, wP_sI, wP_sL, wI_sI, wL_sL, Int32.reduceLT, Int32.reduceLE, true_implies, not_true_eq_false, false_implies, not_false_eq_true, i_10]
    rw [hL.1]
    have e0 : ¬ nI i < 0 := by rw [ni_0_ i (by omega)]; exact id
    have e9 : nI i + -1 = nI i - 1 := (Int32.sub_eq_add_neg _ _).symm
    simp (disch := omega) only [na_1, nb_1, nm_1, ns_1, nr_1, na_2, nb_2, nm_2, ns_2, nr_2, na_3, nb_3, nm_3, ns_3, nr_3, na_4, nb_4, nm_4, ns_4, nr_4, na_5, nb_5, nm_5, ns_5, nr_5, na_6, nb_6, nm_6, ns_6, nr_6, na_7, nb_7, nm_7, ns_7, nr_7, na_8, nb_8, nm_8, ns_8, nr_8, na_10, nb_10, nm_10, ns_10, nr_10, na_16, nb_16, nm_16, ns_16, nr_16, nl_m1, ni_add, ni_mul, ni_sub, ni_cl, ni_in, vp_0, vp_1, vp_2, vp_3, vp_4, vp_5, Int32.reduceToNatClampNeg, pI_c, pL_c, pF_c, pD_c, pA_n, pA_c, pA_rf, pR_c, pR_rf, pV_i, pV_a, pV_n, pV_rf, ldI_c, ldL_c, ldF_c, ldD_c, ldA_c, ldA_n, ldA_rf, dup2_l, dup2_ia, dup2_ir, popA_0, popA_s, getL_z, getL_s, setL_z, setL_1, setL_s, setL2_z, setL2_1, setL2_s, drop2_i, drop2_a, drop2_0, drop2_n, drop2_l, drop2_d, drop2_r, cwd_0, cwd_i, cwd_a, cwd_n, cwd_l, cwd_d, cwd_f, cwd_r, rf_s, rf_n, swi_0, swi_s, zR_b0, zR_b1, zN_b0, zN_b1, entV_i, entV_a, entV_n, entV_r, entV_f, entV_l, entV_d, entV_s, entV_0, List.length_cons, List.length_nil, List.nil_append, List.cons_append, true_and, and_true, Nat.reduceAdd, Nat.reduceLT, Nat.reduceEqDiff, Nat.reduceLeDiff, Nat.reduceSub, Nat.zero_add, Classical.not_not, ex_i, ex_l, ex_d, ex_r, ex_rs, ex_rn, ex_sm, Nat.sub_zero, eq_self, wn_sI, wn_sL, wn_sP, wsh_sI, wsh_sL, wsh_sP, wI_sL, wI_sP, wL_sI, wL_sP, wP_sI, wP_sL, wI_sI, wL_sL, Int32.reduceLT, Int32.reduceLE, true_implies, not_true_eq_false, false_implies, not_false_eq_true, i_10, e0, e9]
    have := ih (outW m w L (byt v i)) (L ++ [byt v i]) (hm.fr (outW_fr m w L _)) (outW_ok hL _) (by rw [List.length_append, List.length_singleton]; omega) (by omega) (fun w' hf ho => hK w' ((outW_fr m w L _).tr hf) (by rw [byts, List.append_cons]; exact ho))
    unfold outW byt at this
    exact this
set_option maxRecDepth 100000 in
set_option maxHeartbeats 4000000 in
theorem X12_puts_ok {g : Ge} {w : Wd} {k n : Nat} {K : Wd → Nat → Nat → Prop} {m : Nat} (hm : MS g m w) {L : List Int32} (hL : OutM m w L) (v : Int64) (i : Nat) (hl : L.length + i ≤ 1199) (hi : i ≤ 8) (h : ∀ w', Fr (outS m) w w' → OutM m w' (L ++ byts v i) → K w' k n) : cV g mX12_puts [.ref m, .long v, .int (nI i)] w k n K := by
  refine cV_of 5 0 0 rfl (by decide +kernel) rfl (Nat.le_of_ble_eq_true rfl) (Nat.zero_le _) (Nat.zero_le _) ?_
  simp only [vX12_puts_0, vX12_puts_1, vX12_puts_2, vX12_puts_3, vX12_puts_7, vX12_puts_10, vX12_puts_11, vX12_puts_14, vX12_puts_15, vX12_puts_16, vX12_puts_19, vX12_puts_20, vX12_puts_21, vX12_puts_22, vX12_puts_25, vX12_puts_26, vX12_puts_28, vX12_puts_30, vX12_puts_31, vX12_puts_32, vX12_puts_35, vX12_puts_36, vX12_puts_37, vX12_puts_38, vX12_puts_41, vX12_puts_44, pI_c, pL_c, pF_c, pD_c, pA_n, pA_c, pA_rf, pR_c, pR_rf, pV_i, pV_a, pV_n, pV_rf, ldI_c, ldL_c, ldF_c, ldD_c, ldA_c, ldA_n, ldA_rf, dup2_l, dup2_ia, dup2_ir, popA_0, popA_s, getL_z, getL_s, setL_z, setL_1, setL_s, setL2_z, setL2_1, setL2_s, drop2_i, drop2_a, drop2_0, drop2_n, drop2_l, drop2_d, drop2_r, cwd_0, cwd_i, cwd_a, cwd_n, cwd_l, cwd_d, cwd_f, cwd_r, rf_s, rf_n, swi_0, swi_s, zR_b0, zR_b1, zN_b0, zN_b1, entV_i, entV_a, entV_n, entV_r, entV_f, entV_l, entV_d, entV_s, entV_0, List.length_cons, List.length_nil, List.nil_append, List.cons_append, true_and, and_true, Nat.reduceAdd, Nat.reduceLT, Nat.reduceEqDiff, Nat.reduceLeDiff, Nat.reduceSub, Nat.zero_add, Classical.not_not, ex_i, ex_l, ex_d, ex_r, ex_rs, ex_rn, ex_sm, Nat.sub_zero, eq_self, wn_sI, wn_sL, wn_sP, wsh_sI, wsh_sL, wsh_sP, wI_sL, wI_sP, wL_sI, wL_sP, wP_sI, wP_sL, wI_sI, wL_sL, Int32.reduceLT, Int32.reduceLE, true_implies, not_true_eq_false, false_implies, not_false_eq_true, i_10]
  exact X12_puts_loop i w L hm hL hl hi (fun w' h1 h2 => ⟨rfl, h w' h1 h2⟩)
