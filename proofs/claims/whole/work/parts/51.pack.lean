/-! the reference: pack -/
def VW (s : St) : Prop := ∀ v, v < 6 → s.1 6 v = 0 ∨ ∃ n, 0 < n ∧ s.1 6 v = nI n ∧ VerW n (fun j k => s.1 (7 + j) (8 * v + k))
theorem VerW.S {s : St} {v n : Nat} (hm : s.1 6 v = nI n) (h : VerW n (fun j k => s.1 (7 + j) (8 * v + k))) : VerS s v n := ⟨h.1, hm, h.2.1⟩
def dgI (f : Nat → Int32) (o : Nat) (z : Int32) : Nat → Int32
  | 0 => z
  | i + 1 => 31 * dgI f o z i + f (o + i)
set_option maxRecDepth 100000 in
set_option maxHeartbeats 4000000 in
theorem X12_dig_loop {g : Ge} {w : Wd} {k n a from_ c : Nat} {K : Option Value → Wd → Prop} {z : Int32} (h1 : (wsh w a).1 = 100) (hb : from_ + c ≤ (wsh w a).2) (hn : (wsh w a).2 < 2147483648) (hK : K (some (.int (dgI (wI w a) from_ z c))) w) : ∀ (d i : Nat), i + d = c → R g mX12_digestOf K 6 [some (.ref a), some (.int (nI from_)), some (.int (nI (from_ + c))), some (.int z), some (.int (dgI (wI w a) from_ z i)), some (.int (nI (from_ + i)))] [] w k n := by
  intro d
  induction d with
  | zero =>
    intro i hi
    obtain rfl : i = c := by omega
    simp (disch := omega) only [vX12_digestOf_6, vX12_digestOf_8, vX12_digestOf_9, vX12_digestOf_30, vX12_digestOf_32, pI_c, pL_c, pF_c, pD_c, pA_n, pA_c, pA_rf, pR_c, pR_rf, pV_i, pV_a, pV_n, pV_rf, ldI_c, ldL_c, ldF_c, ldD_c, ldA_c, ldA_n, ldA_rf, dup2_l, dup2_ia, dup2_ir, popA_0, popA_s, getL_z, getL_s, setL_z, setL_1, setL_s, setL2_z, setL2_1, setL2_s, drop2_i, drop2_a, drop2_0, drop2_n, drop2_l, drop2_d, drop2_r, cwd_0, cwd_i, cwd_a, cwd_n, cwd_l, cwd_d, cwd_f, cwd_r, rf_s, rf_n, swi_0, swi_s, zR_b0, zR_b1, zN_b0, zN_b1, entV_i, entV_a, entV_n, entV_r, entV_f, entV_l, entV_d, entV_s, entV_0, List.length_cons, List.length_nil, List.nil_append, List.cons_append, true_and, and_true, Nat.reduceAdd, Nat.reduceLT, Nat.reduceEqDiff, Nat.reduceLeDiff, Nat.reduceSub, Nat.zero_add, Classical.not_not, ex_i, ex_l, ex_d, ex_r, ex_rs, ex_rn, ex_sm, Nat.sub_zero, eq_self, wn_sI, wn_sL, wn_sP, wsh_sI, wsh_sL, wsh_sP, wI_sL, wI_sP, wL_sI, wL_sP, wP_sI, wP_sL, wI_sI, wL_sL, Int32.reduceLT, Int32.reduceLE, true_implies, not_true_eq_false, false_implies, not_false_eq_true, i_10, na_1, nb_1, nm_1, ns_1, nr_1, na_2, nb_2, nm_2, ns_2, nr_2, na_3, nb_3, nm_3, ns_3, nr_3, na_4, nb_4, nm_4, ns_4, nr_4, na_5, nb_5, nm_5, ns_5, nr_5, na_6, nb_6, nm_6, ns_6, nr_6, na_7, nb_7, nm_7, ns_7, nr_7, na_8, nb_8, nm_8, ns_8, nr_8, na_10, nb_10, nm_10, ns_10, nr_10, na_16, nb_16, nm_16, ns_16, nr_16, nl_m1, ni_add, ni_mul, ni_sub, ni_cl, ni_in, vp_0, vp_1, vp_2, vp_3, vp_4, vp_5, Int32.reduceToNatClampNeg, ni_le, ni_lt, ni_eq, ni_le1, ni_le0, ni_eq0, ni_eq1, ni_eq2, ni_eq8, ni_eq9, Nat.le_refl]
    exact hK
  | succ d ih =>
    intro i hi
    have hlt : ¬ from_ + c ≤ from_ + i := by omega
    simp (disch := omega) only [vX12_digestOf_6, vX12_digestOf_8, vX12_digestOf_9, pI_c, pL_c, pF_c, pD_c, pA_n, pA_c, pA_rf, pR_c, pR_rf, pV_i, pV_a, pV_n, pV_rf, ldI_c, ldL_c, ldF_c, ldD_c, ldA_c, ldA_n, ldA_rf, dup2_l, dup2_ia, dup2_ir, popA_0, popA_s, getL_z, getL_s, setL_z, setL_1, setL_s, setL2_z, setL2_1, setL2_s, drop2_i, drop2_a, drop2_0, drop2_n, drop2_l, drop2_d, drop2_r, cwd_0, cwd_i, cwd_a, cwd_n, cwd_l, cwd_d, cwd_f, cwd_r, rf_s, rf_n, swi_0, swi_s, zR_b0, zR_b1, zN_b0, zN_b1, entV_i, entV_a, entV_n, entV_r, entV_f, entV_l, entV_d, entV_s, entV_0, List.length_cons, List.length_nil, List.nil_append, List.cons_append, true_and, and_true, Nat.reduceAdd, Nat.reduceLT, Nat.reduceEqDiff, Nat.reduceLeDiff, Nat.reduceSub, Nat.zero_add, Classical.not_not, ex_i, ex_l, ex_d, ex_r, ex_rs, ex_rn, ex_sm, Nat.sub_zero, eq_self, wn_sI, wn_sL, wn_sP, wsh_sI, wsh_sL, wsh_sP, wI_sL, wI_sP, wL_sI, wL_sP, wP_sI, wP_sL, wI_sI, wL_sL, Int32.reduceLT, Int32.reduceLE, true_implies, not_true_eq_false, false_implies, not_false_eq_true, i_10, na_1, nb_1, nm_1, ns_1, nr_1, na_2, nb_2, nm_2, ns_2, nr_2, na_3, nb_3, nm_3, ns_3, nr_3, na_4, nb_4, nm_4, ns_4, nr_4, na_5, nb_5, nm_5, ns_5, nr_5, na_6, nb_6, nm_6, ns_6, nr_6, na_7, nb_7, nm_7, ns_7, nr_7, na_8, nb_8, nm_8, ns_8, nr_8, na_10, nb_10, nm_10, ns_10, nr_10, na_16, nb_16, nm_16, ns_16, nr_16, nl_m1, ni_add, ni_mul, ni_sub, ni_cl, ni_in, vp_0, vp_1, vp_2, vp_3, vp_4, vp_5, Int32.reduceToNatClampNeg, ni_le, ni_lt, ni_eq, ni_le1, ni_le0, ni_eq0, ni_eq1, ni_eq2, ni_eq8, ni_eq9, hlt]
    simp (disch := omega) only [vX12_digestOf_12, vX12_digestOf_14, vX12_digestOf_16, vX12_digestOf_17, vX12_digestOf_18, vX12_digestOf_20, vX12_digestOf_21, vX12_digestOf_22, vX12_digestOf_24, vX12_digestOf_27, pI_c, pL_c, pF_c, pD_c, pA_n, pA_c, pA_rf, pR_c, pR_rf, pV_i, pV_a, pV_n, pV_rf, ldI_c, ldL_c, ldF_c, ldD_c, ldA_c, ldA_n, ldA_rf, dup2_l, dup2_ia, dup2_ir, popA_0, popA_s, getL_z, getL_s, setL_z, setL_1, setL_s, setL2_z, setL2_1, setL2_s, drop2_i, drop2_a, drop2_0, drop2_n, drop2_l, drop2_d, drop2_r, cwd_0, cwd_i, cwd_a, cwd_n, cwd_l, cwd_d, cwd_f, cwd_r, rf_s, rf_n, swi_0, swi_s, zR_b0, zR_b1, zN_b0, zN_b1, entV_i, entV_a, entV_n, entV_r, entV_f, entV_l, entV_d, entV_s, entV_0, List.length_cons, List.length_nil, List.nil_append, List.cons_append, true_and, and_true, Nat.reduceAdd, Nat.reduceLT, Nat.reduceEqDiff, Nat.reduceLeDiff, Nat.reduceSub, Nat.zero_add, Classical.not_not, ex_i, ex_l, ex_d, ex_r, ex_rs, ex_rn, ex_sm, Nat.sub_zero, eq_self, wn_sI, wn_sL, wn_sP, wsh_sI, wsh_sL, wsh_sP, wI_sL, wI_sP, wL_sI, wL_sP, wP_sI, wP_sL, wI_sI, wL_sL, Int32.reduceLT, Int32.reduceLE, true_implies, not_true_eq_false, false_implies, not_false_eq_true, i_10, na_1, nb_1, nm_1, ns_1, nr_1, na_2, nb_2, nm_2, ns_2, nr_2, na_3, nb_3, nm_3, ns_3, nr_3, na_4, nb_4, nm_4, ns_4, nr_4, na_5, nb_5, nm_5, ns_5, nr_5, na_6, nb_6, nm_6, ns_6, nr_6, na_7, nb_7, nm_7, ns_7, nr_7, na_8, nb_8, nm_8, ns_8, nr_8, na_10, nb_10, nm_10, ns_10, nr_10, na_16, nb_16, nm_16, ns_16, nr_16, nl_m1, ni_add, ni_mul, ni_sub, ni_cl, ni_in, vp_0, vp_1, vp_2, vp_3, vp_4, vp_5, Int32.reduceToNatClampNeg, h1]
    exact ih (i + 1) (by omega)
set_option maxRecDepth 100000 in
set_option maxHeartbeats 4000000 in
theorem X12_dig_ok {g : Ge} {w : Wd} {k n : Nat} {K : Int32 → Wd → Nat → Nat → Prop} (a from_ c : Nat) (z : Int32) (h1 : (wsh w a).1 = 100) (hb : from_ + c ≤ (wsh w a).2) (hn : (wsh w a).2 < 2147483648) (h : K (dgI (wI w a) from_ z c) w k n) : cI g mX12_digestOf [.ref a, .int (nI from_), .int (nI (from_ + c)), .int z] w k n K := by
  refine cI_of 6 0 0 rfl (by decide +kernel) rfl (Nat.le_of_ble_eq_true rfl) (Nat.zero_le _) (Nat.zero_le _) ?_
  simp (disch := omega) only [vX12_digestOf_0, vX12_digestOf_1, vX12_digestOf_3, vX12_digestOf_4, pI_c, pL_c, pF_c, pD_c, pA_n, pA_c, pA_rf, pR_c, pR_rf, pV_i, pV_a, pV_n, pV_rf, ldI_c, ldL_c, ldF_c, ldD_c, ldA_c, ldA_n, ldA_rf, dup2_l, dup2_ia, dup2_ir, popA_0, popA_s, getL_z, getL_s, setL_z, setL_1, setL_s, setL2_z, setL2_1, setL2_s, drop2_i, drop2_a, drop2_0, drop2_n, drop2_l, drop2_d, drop2_r, cwd_0, cwd_i, cwd_a, cwd_n, cwd_l, cwd_d, cwd_f, cwd_r, rf_s, rf_n, swi_0, swi_s, zR_b0, zR_b1, zN_b0, zN_b1, entV_i, entV_a, entV_n, entV_r, entV_f, entV_l, entV_d, entV_s, entV_0, List.length_cons, List.length_nil, List.nil_append, List.cons_append, true_and, and_true, Nat.reduceAdd, Nat.reduceLT, Nat.reduceEqDiff, Nat.reduceLeDiff, Nat.reduceSub, Nat.zero_add, Classical.not_not, ex_i, ex_l, ex_d, ex_r, ex_rs, ex_rn, ex_sm, Nat.sub_zero, eq_self, wn_sI, wn_sL, wn_sP, wsh_sI, wsh_sL, wsh_sP, wI_sL, wI_sP, wL_sI, wL_sP, wP_sI, wP_sL, wI_sI, wL_sL, Int32.reduceLT, Int32.reduceLE, true_implies, not_true_eq_false, false_implies, not_false_eq_true, i_10]
  exact X12_dig_loop h1 hb hn ⟨_, rfl, h⟩ c 0 (by omega)
def dgL (z : Int32) : List Int32 → Int32
  | [] => z
  | b :: L => dgL (31 * z + b) L
theorem dgL_app (z : Int32) (x : Int32) : ∀ L, dgL z (L ++ [x]) = 31 * dgL z L + x
  | [] => rfl
  | b :: L => dgL_app (31 * z + b) x L
theorem dgI_L {f : Nat → Int32} {o : Nat} {z : Int32} : ∀ (n : Nat) (L : List Int32), L.length = n → bufH f o L → dgI f o z n = dgL z L
  | 0, L, h, _ => by
    obtain rfl := List.length_eq_zero_iff.mp h
    rfl
  | n + 1, L, h, hb => by
    have hne : L ≠ [] := fun q => by rw [q] at h; cases h
    have e := List.dropLast_concat_getLast hne
    have hl : L.dropLast.length = n := by rw [List.length_dropLast, h]; rfl
    rw [← e, dgL_app, dgI, dgI_L n L.dropLast hl (fun i hi => ?_)]
    · congr 1
      have := hb n (by omega)
      have hn1 : L.length - 1 = n := by omega
      rw [List.getLast_eq_getElem]
      simp only [hn1]
      have h2 := List.getElem?_eq_getElem (l := L) (i := n) (by omega)
      rw [this] at h2
      exact Option.some.inj h2
    · have := hb i (by omega)
      rw [← this, List.getElem?_dropLast, if_pos (by omega)]
/-- THE WIRE's bytes from u on -/
def WirM (m : Nat) (w : Wd) (u : Nat) (B : List Int32) : Prop := wI w m 13 = nI (u + B.length) ∧ bufH (wI w (m + 13)) u B
def wirS (m u : Nat) (a j : Nat) : Prop := (a = m ∧ j = 13) ∨ (a = m + 13 ∧ u ≤ j)
def wirW (m : Nat) (w : Wd) (u : Nat) (B : List Int32) (x : Int32) : Wd := sI (sI w m 13 (nI (u + B.length + 1))) (m + 13) (u + B.length) x
theorem wirW_fr (m : Nat) (w : Wd) (u : Nat) (B : List Int32) (x : Int32) : Fr (wirS m u) w (wirW m w u B x) := (Fr.rf.i _ (Or.inl ⟨rfl, rfl⟩)).i _ (Or.inr ⟨rfl, Nat.le_add_right _ _⟩)
theorem wirW_ok {m : Nat} {w : Wd} {u : Nat} {B : List Int32} (h : WirM m w u B) (x : Int32) : WirM m (wirW m w u B x) u (B ++ [x]) := by
  obtain ⟨h1, h2⟩ := h
  unfold wirW
  refine ⟨?_, h2.push x ?_ ?_⟩
  · rw [wI_ne (by omega), wI_at, if_pos rfl, List.length_append]
    rfl
  · rw [wI_at, if_pos rfl]
  · intro i hi
    rw [wI_at, if_neg (by omega), wI_ne (by omega)]
def SpStop (s : St) (c a b d : Int32) (s' : St) : Prop := Bt (fun o j => (o = 0 ∧ j = 21) ∨ (o = 16 ∧ j < 4)) s s' ∧ s'.1 0 21 = 1 ∧ s'.1 16 0 = c ∧ s'.1 16 1 = a ∧ s'.1 16 2 = b ∧ s'.1 16 3 = d
set_option maxRecDepth 100000 in
set_option maxHeartbeats 4000000 in
theorem X12_stops_ok {g : Ge} {w : Wd} {k n : Nat} {K : Int32 → Wd → Nat → Nat → Prop} {m : Nat} (hm : MS g m w) (c a b d : Int32) (h : ∀ w', Fr (fun p j => (p = m ∧ j = 21) ∨ (p = m + 16 ∧ j < 4)) w w' → wI w' m 21 = 1 → wI w' (m + 16) 0 = c → wI w' (m + 16) 1 = a → wI w' (m + 16) 2 = b → wI w' (m + 16) 3 = d → K (if c = 3 then -21 else -20) w' k n) : cI g mX12_stops [.ref m, .int c, .int a, .int b, .int d] w k n K := by
  refine cI_of 5 0 0 rfl (by decide +kernel) rfl (Nat.le_of_ble_eq_true rfl) (Nat.zero_le _) (Nat.zero_le _) ?_
  simp (disch := omega) only [vX12_stops_0, vX12_stops_1, vX12_stops_2, vX12_stops_5, vX12_stops_6, vX12_stops_9, vX12_stops_10, vX12_stops_11, vX12_stops_12, vX12_stops_13, vX12_stops_16, vX12_stops_17, vX12_stops_18, vX12_stops_19, vX12_stops_20, vX12_stops_23, vX12_stops_24, vX12_stops_25, vX12_stops_26, vX12_stops_27, vX12_stops_30, vX12_stops_31, vX12_stops_33, vX12_stops_34, vX12_stops_35, vX12_stops_36, vX12_stops_39, vX12_stops_41, vX12_stops_44, vX12_stops_46, ms_o hm, ms_b hm, ms_0 hm, mp_stop hm, ms_stop hm, pI_c, pL_c, pF_c, pD_c, pA_n, pA_c, pA_rf, pR_c, pR_rf, pV_i, pV_a, pV_n, pV_rf, ldI_c, ldL_c, ldF_c, ldD_c, ldA_c, ldA_n, ldA_rf, dup2_l, dup2_ia, dup2_ir, popA_0, popA_s, getL_z, getL_s, setL_z, setL_1, setL_s, setL2_z, setL2_1, setL2_s, drop2_i, drop2_a, drop2_0, drop2_n, drop2_l, drop2_d, drop2_r, cwd_0, cwd_i, cwd_a, cwd_n, cwd_l, cwd_d, cwd_f, cwd_r, rf_s, rf_n, swi_0, swi_s, zR_b0, zR_b1, zN_b0, zN_b1, entV_i, entV_a, entV_n, entV_r, entV_f, entV_l, entV_d, entV_s, entV_0, List.length_cons, List.length_nil, List.nil_append, List.cons_append, true_and, and_true, Nat.reduceAdd, Nat.reduceLT, Nat.reduceEqDiff, Nat.reduceLeDiff, Nat.reduceSub, Nat.zero_add, Classical.not_not, ex_i, ex_l, ex_d, ex_r, ex_rs, ex_rn, ex_sm, Nat.sub_zero, eq_self, wn_sI, wn_sL, wn_sP, wsh_sI, wsh_sL, wsh_sP, wI_sL, wI_sP, wL_sI, wL_sP, wP_sI, wP_sL, wI_sI, wL_sL, Int32.reduceLT, Int32.reduceLE, true_implies, not_true_eq_false, false_implies, not_false_eq_true, i_10, na_1, nb_1, nm_1, ns_1, nr_1, na_2, nb_2, nm_2, ns_2, nr_2, na_3, nb_3, nm_3, ns_3, nr_3, na_4, nb_4, nm_4, ns_4, nr_4, na_5, nb_5, nm_5, ns_5, nr_5, na_6, nb_6, nm_6, ns_6, nr_6, na_7, nb_7, nm_7, ns_7, nr_7, na_8, nb_8, nm_8, ns_8, nr_8, na_10, nb_10, nm_10, ns_10, nr_10, na_16, nb_16, nm_16, ns_16, nr_16, nl_m1, ni_add, ni_mul, ni_sub, ni_cl, ni_in, vp_0, vp_1, vp_2, vp_3, vp_4, vp_5, Int32.reduceToNatClampNeg]
  have hg := h (sI (sI (sI (sI (sI w m 21 1) (m + 16) 0 c) (m + 16) 1 a) (m + 16) 2 b) (m + 16) 3 d) (((((Fr.rf.i _ (Or.inl ⟨rfl, rfl⟩)).i _ (Or.inr ⟨rfl, by decide⟩)).i _ (Or.inr ⟨rfl, by decide⟩)).i _ (Or.inr ⟨rfl, by decide⟩)).i _ (Or.inr ⟨rfl, by decide⟩))
    (by rw [wI_ne (by omega), wI_ne (by omega), wI_ne (by omega), wI_ne (by omega), wI_at, if_pos rfl])
    (by simp only [wI_at, if_true, if_false, Nat.reduceEqDiff])
    (by simp only [wI_at, if_true, if_false, Nat.reduceEqDiff])
    (by simp only [wI_at, if_true, if_false, Nat.reduceEqDiff])
    (by simp only [wI_at, if_true, if_false, Nat.reduceEqDiff])
  refine ⟨fun q => ?_, fun q => ?_⟩
  · rw [if_neg q] at hg; exact hg
  · rw [if_pos q] at hg; exact hg
theorem SpStop.of {S : Nat → Nat → Prop} {m : Nat} {w w1 w' : Wd} {c a b d : Int32} (h0 : Fr S w w1) (hs : ∀ o j, pers o j → ¬ S (m + o) j) (hf : Fr (fun p j => (p = m ∧ j = 21) ∨ (p = m + 16 ∧ j < 4)) w1 w') (h1 : wI w' m 21 = 1) (h2 : wI w' (m + 16) 0 = c) (h3 : wI w' (m + 16) 1 = a) (h4 : wI w' (m + 16) 2 = b) (h5 : wI w' (m + 16) 3 = d) : SpStop (mst m w) c a b d (mst m w') := by
  refine ⟨?_, h1, h2, h3, h4, h5⟩
  exact Bt.tr (Bt.of h0 fun o j hp _ => hs o j hp) (Bt.of hf fun o j hp hn => by omega)
/-- a frame's bytes -/
def frH (v : Int32) (p : Int32) (L : List Int32) : List Int32 := v :: nI (1 + L.length) :: p :: L
def frL (v : Int32) (p : Int32) (L : List Int32) : List Int32 := frH v p L ++ [(dgL 7 (frH v p L) >>> (8 &&& 31)) &&& 255, dgL 7 (frH v p L) &&& 255]
set_option maxRecDepth 100000 in
set_option maxHeartbeats 4000000 in
theorem X12_pack_loop {g : Ge} {m k n u : Nat} {K : Option Value → Wd → Prop} {a u2 : Int32} {D : List Int32} (hD : 1 ≤ D.length) : ∀ (d i : Nat) (w : Wd) (B : List Int32), i + d = D.length → MS g m w → WirM m w u B → u + B.length + d ≤ 500 → wI w m 45 = nI D.length → bufH (wI w (m + 32)) 0 D → D.length ≤ 500 → (∀ w', Fr (wirS m u) w w' → WirM m w' u (B ++ D.drop i) → R g mX12_pack K 157 [some (.ref m), some (.int a), some (.int u2), some (.int (nI D.length))] [] w' k n) → R g mX12_pack K 121 [some (.ref m), some (.int a), some (.int u2), some (.int (nI i))] [] w k n := by
  intro d
  induction d with
  | zero =>
    intro i w B hi hm hW hl e45 hb hDl hK
    obtain rfl : i = D.length := by omega
    simp (disch := omega) only [vX12_pack_121, vX12_pack_122, vX12_pack_123, vX12_pack_126, ms_o hm, ms_b hm, ms_0 hm, pI_c, pL_c, pF_c, pD_c, pA_n, pA_c, pA_rf, pR_c, pR_rf, pV_i, pV_a, pV_n, pV_rf, ldI_c, ldL_c, ldF_c, ldD_c, ldA_c, ldA_n, ldA_rf, dup2_l, dup2_ia, dup2_ir, popA_0, popA_s, getL_z, getL_s, setL_z, setL_1, setL_s, setL2_z, setL2_1, setL2_s, drop2_i, drop2_a, drop2_0, drop2_n, drop2_l, drop2_d, drop2_r, cwd_0, cwd_i, cwd_a, cwd_n, cwd_l, cwd_d, cwd_f, cwd_r, rf_s, rf_n, swi_0, swi_s, zR_b0, zR_b1, zN_b0, zN_b1, entV_i, entV_a, entV_n, entV_r, entV_f, entV_l, entV_d, entV_s, entV_0, List.length_cons, List.length_nil, List.nil_append, List.cons_append, true_and, and_true, Nat.reduceAdd, Nat.reduceLT, Nat.reduceEqDiff, Nat.reduceLeDiff, Nat.reduceSub, Nat.zero_add, Classical.not_not, ex_i, ex_l, ex_d, ex_r, ex_rs, ex_rn, ex_sm, Nat.sub_zero, eq_self, wn_sI, wn_sL, wn_sP, wsh_sI, wsh_sL, wsh_sP, wI_sL, wI_sP, wL_sI, wL_sP, wP_sI, wP_sL, wI_sI, wL_sL, Int32.reduceLT, Int32.reduceLE, true_implies, not_true_eq_false, false_implies, not_false_eq_true, i_10, na_1, nb_1, nm_1, ns_1, nr_1, na_2, nb_2, nm_2, ns_2, nr_2, na_3, nb_3, nm_3, ns_3, nr_3, na_4, nb_4, nm_4, ns_4, nr_4, na_5, nb_5, nm_5, ns_5, nr_5, na_6, nb_6, nm_6, ns_6, nr_6, na_7, nb_7, nm_7, ns_7, nr_7, na_8, nb_8, nm_8, ns_8, nr_8, na_10, nb_10, nm_10, ns_10, nr_10, na_16, nb_16, nm_16, ns_16, nr_16, nl_m1, ni_add, ni_mul, ni_sub, ni_cl, ni_in, vp_0, vp_1, vp_2, vp_3, vp_4, vp_5, Int32.reduceToNatClampNeg, ni_le, ni_lt, ni_eq, ni_le1, ni_le0, ni_eq0, ni_eq1, ni_eq2, ni_eq8, ni_eq9, Nat.le_refl, e45]
    exact hK w Fr.rf (by rw [List.drop_length, List.append_nil]; exact hW)
  | succ d ih =>
    intro i w B hi hm hW hl e45 hb hDl hK
    have hlt : ¬ D.length ≤ i := by omega
    have hbi := hb i (by omega)
    rw [Nat.zero_add] at hbi
    simp (disch := omega) only [vX12_pack_121, vX12_pack_122, vX12_pack_123, vX12_pack_126, ms_o hm, ms_b hm, ms_0 hm, pI_c, pL_c, pF_c, pD_c, pA_n, pA_c, pA_rf, pR_c, pR_rf, pV_i, pV_a, pV_n, pV_rf, ldI_c, ldL_c, ldF_c, ldD_c, ldA_c, ldA_n, ldA_rf, dup2_l, dup2_ia, dup2_ir, popA_0, popA_s, getL_z, getL_s, setL_z, setL_1, setL_s, setL2_z, setL2_1, setL2_s, drop2_i, drop2_a, drop2_0, drop2_n, drop2_l, drop2_d, drop2_r, cwd_0, cwd_i, cwd_a, cwd_n, cwd_l, cwd_d, cwd_f, cwd_r, rf_s, rf_n, swi_0, swi_s, zR_b0, zR_b1, zN_b0, zN_b1, entV_i, entV_a, entV_n, entV_r, entV_f, entV_l, entV_d, entV_s, entV_0, List.length_cons, List.length_nil, List.nil_append, List.cons_append, true_and, and_true, Nat.reduceAdd, Nat.reduceLT, Nat.reduceEqDiff, Nat.reduceLeDiff, Nat.reduceSub, Nat.zero_add, Classical.not_not, ex_i, ex_l, ex_d, ex_r, ex_rs, ex_rn, ex_sm, Nat.sub_zero, eq_self, wn_sI, wn_sL, wn_sP, wsh_sI, wsh_sL, wsh_sP, wI_sL, wI_sP, wL_sI, wL_sP, wP_sI, wP_sL, wI_sI, wL_sL, Int32.reduceLT, Int32.reduceLE, true_implies, not_true_eq_false, false_implies, not_false_eq_true, i_10, na_1, nb_1, nm_1, ns_1, nr_1, na_2, nb_2, nm_2, ns_2, nr_2, na_3, nb_3, nm_3, ns_3, nr_3, na_4, nb_4, nm_4, ns_4, nr_4, na_5, nb_5, nm_5, ns_5, nr_5, na_6, nb_6, nm_6, ns_6, nr_6, na_7, nb_7, nm_7, ns_7, nr_7, na_8, nb_8, nm_8, ns_8, nr_8, na_10, nb_10, nm_10, ns_10, nr_10, na_16, nb_16, nm_16, ns_16, nr_16, nl_m1, ni_add, ni_mul, ni_sub, ni_cl, ni_in, vp_0, vp_1, vp_2, vp_3, vp_4, vp_5, Int32.reduceToNatClampNeg, ni_le, ni_lt, ni_eq, ni_le1, ni_le0, ni_eq0, ni_eq1, ni_eq2, ni_eq8, ni_eq9, hlt, e45]
    simp (disch := omega) only [vX12_pack_129, vX12_pack_130, vX12_pack_133, vX12_pack_134, vX12_pack_135, vX12_pack_138, vX12_pack_139, vX12_pack_140, vX12_pack_141, vX12_pack_144, vX12_pack_145, vX12_pack_148, vX12_pack_149, vX12_pack_150, vX12_pack_151, vX12_pack_154, ms_o hm, ms_b hm, ms_0 hm, mp_wire hm, ms_wire hm, mp_out hm, ms_out hm, pI_c, pL_c, pF_c, pD_c, pA_n, pA_c, pA_rf, pR_c, pR_rf, pV_i, pV_a, pV_n, pV_rf, ldI_c, ldL_c, ldF_c, ldD_c, ldA_c, ldA_n, ldA_rf, dup2_l, dup2_ia, dup2_ir, popA_0, popA_s, getL_z, getL_s, setL_z, setL_1, setL_s, setL2_z, setL2_1, setL2_s, drop2_i, drop2_a, drop2_0, drop2_n, drop2_l, drop2_d, drop2_r, cwd_0, cwd_i, cwd_a, cwd_n, cwd_l, cwd_d, cwd_f, cwd_r, rf_s, rf_n, swi_0, swi_s, zR_b0, zR_b1, zN_b0, zN_b1, entV_i, entV_a, entV_n, entV_r, entV_f, entV_l, entV_d, entV_s, entV_0, List.length_cons, List.length_nil, List.nil_append, List.cons_append, true_and, and_true, Nat.reduceAdd, Nat.reduceLT, Nat.reduceEqDiff, Nat.reduceLeDiff, Nat.reduceSub, Nat.zero_add, Classical.not_not, ex_i, ex_l, ex_d, ex_r, ex_rs, ex_rn, ex_sm, Nat.sub_zero, eq_self, wn_sI, wn_sL, wn_sP, wsh_sI, wsh_sL, wsh_sP, wI_sL, wI_sP, wL_sI, wL_sP, wP_sI, wP_sL, wI_sI, wL_sL, Int32.reduceLT, Int32.reduceLE, true_implies, not_true_eq_false, false_implies, not_false_eq_true, i_10, na_1, nb_1, nm_1, ns_1, nr_1, na_2, nb_2, nm_2, ns_2, nr_2, na_3, nb_3, nm_3, ns_3, nr_3, na_4, nb_4, nm_4, ns_4, nr_4, na_5, nb_5, nm_5, ns_5, nr_5, na_6, nb_6, nm_6, ns_6, nr_6, na_7, nb_7, nm_7, ns_7, nr_7, na_8, nb_8, nm_8, ns_8, nr_8, na_10, nb_10, nm_10, ns_10, nr_10, na_16, nb_16, nm_16, ns_16, nr_16, nl_m1, ni_add, ni_mul, ni_sub, ni_cl, ni_in, vp_0, vp_1, vp_2, vp_3, vp_4, vp_5, Int32.reduceToNatClampNeg, up2_n1, up2_at, if_true, if_false, Nat.reduceEqDiff, eq_self, hW.1]
    have hfr := wirW_fr m w u B (wI w (m + 32) i)
    refine ih (i + 1) _ _ (by omega) (hm.fr hfr) (wirW_ok hW (wI w (m + 32) i)) (by rw [List.length_append, List.length_singleton]; omega) ?_ ?_ hDl fun w' hf hw' => hK w' (hfr.tr hf) ?_
    · exact (hfr.I m 45 (by unfold wirS; omega)).trans e45
    · show bufH (wI (wirW m w u B (wI w (m + 32) i)) (m + 32)) 0 D
      rw [show wI (wirW m w u B (wI w (m + 32) i)) (m + 32) = wI w (m + 32) from funext fun j => hfr.I _ _ (by unfold wirS; omega)]
      exact hb
    · have e : D.drop i = wI w (m + 32) i :: D.drop (i + 1) := by
        rw [List.drop_eq_getElem_cons (by omega)]
        congr 1
        have h2 := List.getElem?_eq_getElem (show i < D.length by omega)
        rw [hbi] at h2
        exact (Option.some.inj h2).symm
      rw [e, List.append_cons]
      exact hw'
def SpPack (s : St) (a ans : Int32) (s' : St) : Prop := if ¬ (0 ≤ a ∧ a ≤ 5) then ans = -1 ∧ Bt none2 s s' else if s.1 6 a.toNatClampNeg = 0 then ans = -3 ∧ Bt none2 s s' else
  match pk s a.toNatClampNeg (s.1 6 a.toNatClampNeg).toNatClampNeg with
  | .inl e => ans = -20 ∧ SpStop s 1 e.1 e.2.1 e.2.2 s'
  | .inr (p, L) => if 249 < L.length ∨ 495 < (s.1 0 13).toNatClampNeg + L.length then ans = -4 ∧ Bt none2 s s' else
      ans = nI (L.length + 5) ∧ Bt (fun o j => (o = 0 ∧ j = 13) ∨ (o = 13 ∧ (s.1 0 13).toNatClampNeg ≤ j) ∨ (o = 17 ∧ j = 0)) s s' ∧ s'.1 0 13 = nI ((s.1 0 13).toNatClampNeg + L.length + 5) ∧ bufH (s'.1 13) (s.1 0 13).toNatClampNeg (frL a p L) ∧ s'.1 17 0 = s.1 17 0 + 1
theorem dgI_off (f : Nat → Int32) (o : Nat) (z : Int32) (L : List Int32) (h : bufH f o L) : dgI f o z L.length = dgL z L := dgI_L _ L rfl h
set_option maxRecDepth 100000 in
set_option maxHeartbeats 4000000 in
theorem pack_tail {g : Ge} {m k n u v : Nat} {K : Option Value → Wd → Prop} {w : Wd} {p : Int32} {L : List Int32} (hm : MS g m w) (hu : u + L.length + 5 ≤ 500) (hW : WirM m w u [nI v, nI (1 + L.length)]) (h45 : wI w m 45 = nI (1 + L.length)) (hb : bufH (wI w (m + 32)) 0 (p :: L)) (hK : ∀ w', Fr (fun a j => wirS m u a j ∨ (a = m + 17 ∧ j = 0)) w w' → WirM m w' u (frL (nI v) p L) → wI w' (m + 17) 0 = wI w (m + 17) 0 + 1 → K (some (.int (nI (L.length + 5)))) w') : R g mX12_pack K 121 [some (.ref m), some (.int (nI v)), some (.int (nI u)), some (.int 0)] [] w k n := by
  refine X12_pack_loop (D := p :: L) (by simp) (L.length + 1) 0 w _ (by simp) hm hW (by simp; omega) (by rw [h45, List.length_cons, Nat.add_comm]) hb (by simp; omega) fun w1 hf1 hW1 => ?_
  rw [List.drop_zero, show [nI v, nI (1 + L.length)] ++ p :: L = frH (nI v) p L from rfl] at hW1
  have hm1 := hm.fr hf1
  have hlen : (frH (nI v) p L).length = L.length + 3 := rfl
  have hsh : wsh w1 (m + 13) = (100, 500) := ms_wire hm1
  have e45 : wI w1 m 45 = nI (1 + L.length) := (hf1.I m 45 (by unfold wirS; omega)).trans h45
  have e13 := hW1.1
  rw [hlen] at e13
  simp (disch := omega) only [vX12_pack_157, vX12_pack_158, vX12_pack_161, vX12_pack_162, vX12_pack_163, vX12_pack_166, vX12_pack_168, ms_o hm1, ms_b hm1, ms_0 hm1, mp_wire hm1, ms_wire hm1, pI_c, pL_c, pF_c, pD_c, pA_n, pA_c, pA_rf, pR_c, pR_rf, pV_i, pV_a, pV_n, pV_rf, ldI_c, ldL_c, ldF_c, ldD_c, ldA_c, ldA_n, ldA_rf, dup2_l, dup2_ia, dup2_ir, popA_0, popA_s, getL_z, getL_s, setL_z, setL_1, setL_s, setL2_z, setL2_1, setL2_s, drop2_i, drop2_a, drop2_0, drop2_n, drop2_l, drop2_d, drop2_r, cwd_0, cwd_i, cwd_a, cwd_n, cwd_l, cwd_d, cwd_f, cwd_r, rf_s, rf_n, swi_0, swi_s, zR_b0, zR_b1, zN_b0, zN_b1, entV_i, entV_a, entV_n, entV_r, entV_f, entV_l, entV_d, entV_s, entV_0, List.length_cons, List.length_nil, List.nil_append, List.cons_append, true_and, and_true, Nat.reduceAdd, Nat.reduceLT, Nat.reduceEqDiff, Nat.reduceLeDiff, Nat.reduceSub, Nat.zero_add, Classical.not_not, ex_i, ex_l, ex_d, ex_r, ex_rs, ex_rn, ex_sm, Nat.sub_zero, eq_self, wn_sI, wn_sL, wn_sP, wsh_sI, wsh_sL, wsh_sP, wI_sL, wI_sP, wL_sI, wL_sP, wP_sI, wP_sL, wI_sI, wL_sL, Int32.reduceLT, Int32.reduceLE, true_implies, not_true_eq_false, false_implies, not_false_eq_true, i_10, na_1, nb_1, nm_1, ns_1, nr_1, na_2, nb_2, nm_2, ns_2, nr_2, na_3, nb_3, nm_3, ns_3, nr_3, na_4, nb_4, nm_4, ns_4, nr_4, na_5, nb_5, nm_5, ns_5, nr_5, na_6, nb_6, nm_6, ns_6, nr_6, na_7, nb_7, nm_7, ns_7, nr_7, na_8, nb_8, nm_8, ns_8, nr_8, na_10, nb_10, nm_10, ns_10, nr_10, na_16, nb_16, nm_16, ns_16, nr_16, nl_m1, ni_add, ni_mul, ni_sub, ni_cl, ni_in, vp_0, vp_1, vp_2, vp_3, vp_4, vp_5, Int32.reduceToNatClampNeg, e13]
  refine X12_dig_ok (m + 13) u (L.length + 3) 7 (by rw [hsh]) (by rw [hsh]; show _ ≤ 500; omega) (by rw [hsh]; decide) ?_
  have hz : dgI (wI w1 (m + 13)) u 7 (L.length + 3) = dgL 7 (frH (nI v) p L) := dgI_off _ _ _ _ hW1.2
  rw [hz]
  simp (disch := omega) only [vX12_pack_171, vX12_pack_172, vX12_pack_173, vX12_pack_176, vX12_pack_177, vX12_pack_178, vX12_pack_181, vX12_pack_182, vX12_pack_183, vX12_pack_184, vX12_pack_187, vX12_pack_188, vX12_pack_190, vX12_pack_191, vX12_pack_194, vX12_pack_195, vX12_pack_196, vX12_pack_197, vX12_pack_200, vX12_pack_201, vX12_pack_202, vX12_pack_205, vX12_pack_206, vX12_pack_207, vX12_pack_208, vX12_pack_211, vX12_pack_212, vX12_pack_215, vX12_pack_216, vX12_pack_217, vX12_pack_218, vX12_pack_221, vX12_pack_222, vX12_pack_223, vX12_pack_224, vX12_pack_225, vX12_pack_226, vX12_pack_227, vX12_pack_228, vX12_pack_231, vX12_pack_232, vX12_pack_233, ms_o hm1, ms_b hm1, ms_0 hm1, mp_wire hm1, ms_wire hm1, mp_counts hm1, ms_counts hm1, pI_c, pL_c, pF_c, pD_c, pA_n, pA_c, pA_rf, pR_c, pR_rf, pV_i, pV_a, pV_n, pV_rf, ldI_c, ldL_c, ldF_c, ldD_c, ldA_c, ldA_n, ldA_rf, dup2_l, dup2_ia, dup2_ir, popA_0, popA_s, getL_z, getL_s, setL_z, setL_1, setL_s, setL2_z, setL2_1, setL2_s, drop2_i, drop2_a, drop2_0, drop2_n, drop2_l, drop2_d, drop2_r, cwd_0, cwd_i, cwd_a, cwd_n, cwd_l, cwd_d, cwd_f, cwd_r, rf_s, rf_n, swi_0, swi_s, zR_b0, zR_b1, zN_b0, zN_b1, entV_i, entV_a, entV_n, entV_r, entV_f, entV_l, entV_d, entV_s, entV_0, List.length_cons, List.length_nil, List.nil_append, List.cons_append, true_and, and_true, Nat.reduceAdd, Nat.reduceLT, Nat.reduceEqDiff, Nat.reduceLeDiff, Nat.reduceSub, Nat.zero_add, Classical.not_not, ex_i, ex_l, ex_d, ex_r, ex_rs, ex_rn, ex_sm, Nat.sub_zero, eq_self, wn_sI, wn_sL, wn_sP, wsh_sI, wsh_sL, wsh_sP, wI_sL, wI_sP, wL_sI, wL_sP, wP_sI, wP_sL, wI_sI, wL_sL, Int32.reduceLT, Int32.reduceLE, true_implies, not_true_eq_false, false_implies, not_false_eq_true, i_10, na_1, nb_1, nm_1, ns_1, nr_1, na_2, nb_2, nm_2, ns_2, nr_2, na_3, nb_3, nm_3, ns_3, nr_3, na_4, nb_4, nm_4, ns_4, nr_4, na_5, nb_5, nm_5, ns_5, nr_5, na_6, nb_6, nm_6, ns_6, nr_6, na_7, nb_7, nm_7, ns_7, nr_7, na_8, nb_8, nm_8, ns_8, nr_8, na_10, nb_10, nm_10, ns_10, nr_10, na_16, nb_16, nm_16, ns_16, nr_16, nl_m1, ni_add, ni_mul, ni_sub, ni_cl, ni_in, vp_0, vp_1, vp_2, vp_3, vp_4, vp_5, Int32.reduceToNatClampNeg, up2_n1, up2_at, if_true, if_false, Nat.reduceEqDiff, eq_self, e13, e45]
  have hfa := wirW_fr m w1 u (frH (nI v) p L) ((dgL 7 (frH (nI v) p L) >>> (8 &&& 31)) &&& 255)
  have hWa := wirW_ok hW1 ((dgL 7 (frH (nI v) p L) >>> (8 &&& 31)) &&& 255)
  have hfb := wirW_fr m (wirW m w1 u (frH (nI v) p L) ((dgL 7 (frH (nI v) p L) >>> (8 &&& 31)) &&& 255)) u (frH (nI v) p L ++ [(dgL 7 (frH (nI v) p L) >>> (8 &&& 31)) &&& 255]) (dgL 7 (frH (nI v) p L) &&& 255)
  have hWb := wirW_ok hWa (dgL 7 (frH (nI v) p L) &&& 255)
  have hF : Fr (fun a j => wirS m u a j ∨ (a = m + 17 ∧ j = 0)) w (sI (wirW m (wirW m w1 u (frH (nI v) p L) ((dgL 7 (frH (nI v) p L) >>> (8 &&& 31)) &&& 255)) u (frH (nI v) p L ++ [(dgL 7 (frH (nI v) p L) >>> (8 &&& 31)) &&& 255]) (dgL 7 (frH (nI v) p L) &&& 255)) (m + 17) 0 (wI w1 (m + 17) 0 + 1)) := (((hf1.tr hfa).tr hfb).mo fun _ _ q => Or.inl q).i _ (Or.inr ⟨rfl, rfl⟩)
  have := hK _ hF ?_ ?_
  · unfold wirW at this
    rw [List.length_append, List.length_singleton, hlen] at this
    rw [show 1 + L.length + 4 = L.length + 5 by omega]
    exact this
  · refine ⟨?_, ?_⟩
    · rw [wI_ne (by omega)]
      have := hWb.1
      rw [List.append_assoc] at this
      exact this
    · rw [show wI (sI _ (m + 17) 0 (wI w1 (m + 17) 0 + 1)) (m + 13) = wI _ (m + 13) from funext fun j => wI_ne (by omega)]
      have := hWb.2
      rw [List.append_assoc] at this
      exact this
  · rw [wI_at, if_pos rfl, hf1.I _ _ (by unfold wirS; omega)]
set_option maxRecDepth 100000 in
set_option maxHeartbeats 4000000 in
theorem M_pack {g : Ge} {w : Wd} {k n : Nat} {K : Int32 → Wd → Nat → Nat → Prop} {m : Nat} (hm : MS g m w) (hR : RW (mst m w)) (hV : VW (mst m w)) {u : Nat} (hu : wI w m 13 = nI u) (hu2 : u ≤ 500) (a : Int32) (h : ∀ ans w', Fr (mS m) w w' → SpPack (mst m w) a ans (mst m w') → K ans w' k n) : cI g mX12_pack [.ref m, .int a] w k n K := by
  refine cI_of 4 0 0 rfl (by decide +kernel) rfl (Nat.le_of_ble_eq_true rfl) (Nat.zero_le _) (Nat.zero_le _) ?_
  simp only [vX12_pack_0, vX12_pack_1, vX12_pack_4, vX12_pack_7, vX12_pack_8, vX12_pack_9, vX12_pack_10, vX12_pack_13, vX12_pack_14, vX12_pack_15, vX12_pack_18, vX12_pack_20, vX12_pack_21, vX12_pack_22, vX12_pack_23, ms_o hm, ms_b hm, ms_0 hm, mp_many hm, ms_many hm, pI_c, pL_c, pF_c, pD_c, pA_n, pA_c, pA_rf, pR_c, pR_rf, pV_i, pV_a, pV_n, pV_rf, ldI_c, ldL_c, ldF_c, ldD_c, ldA_c, ldA_n, ldA_rf, dup2_l, dup2_ia, dup2_ir, popA_0, popA_s, getL_z, getL_s, setL_z, setL_1, setL_s, setL2_z, setL2_1, setL2_s, drop2_i, drop2_a, drop2_0, drop2_n, drop2_l, drop2_d, drop2_r, cwd_0, cwd_i, cwd_a, cwd_n, cwd_l, cwd_d, cwd_f, cwd_r, rf_s, rf_n, swi_0, swi_s, zR_b0, zR_b1, zN_b0, zN_b1, entV_i, entV_a, entV_n, entV_r, entV_f, entV_l, entV_d, entV_s, entV_0, List.length_cons, List.length_nil, List.nil_append, List.cons_append, true_and, and_true, Nat.reduceAdd, Nat.reduceLT, Nat.reduceEqDiff, Nat.reduceLeDiff, Nat.reduceSub, Nat.zero_add, Classical.not_not, ex_i, ex_l, ex_d, ex_r, ex_rs, ex_rn, ex_sm, Nat.sub_zero, eq_self, wn_sI, wn_sL, wn_sP, wsh_sI, wsh_sL, wsh_sP, wI_sL, wI_sP, wL_sI, wL_sP, wP_sI, wP_sL, wI_sI, wL_sL, Int32.reduceLT, Int32.reduceLE, true_implies, not_true_eq_false, false_implies, not_false_eq_true, i_10]
  refine X12_isVersion_ok _ ?_
  unfold SpPack at h
  by_cases ha : 0 ≤ a ∧ a ≤ 5
  · simp only [b2i_t ha, pI_c, pL_c, pF_c, pD_c, pA_n, pA_c, pA_rf, pR_c, pR_rf, pV_i, pV_a, pV_n, pV_rf, ldI_c, ldL_c, ldF_c, ldD_c, ldA_c, ldA_n, ldA_rf, dup2_l, dup2_ia, dup2_ir, popA_0, popA_s, getL_z, getL_s, setL_z, setL_1, setL_s, setL2_z, setL2_1, setL2_s, drop2_i, drop2_a, drop2_0, drop2_n, drop2_l, drop2_d, drop2_r, cwd_0, cwd_i, cwd_a, cwd_n, cwd_l, cwd_d, cwd_f, cwd_r, rf_s, rf_n, swi_0, swi_s, zR_b0, zR_b1, zN_b0, zN_b1, entV_i, entV_a, entV_n, entV_r, entV_f, entV_l, entV_d, entV_s, entV_0, List.length_cons, List.length_nil, List.nil_append, List.cons_append, true_and, and_true, Nat.reduceAdd, Nat.reduceLT, Nat.reduceEqDiff, Nat.reduceLeDiff, Nat.reduceSub, Nat.zero_add, Classical.not_not, ex_i, ex_l, ex_d, ex_r, ex_rs, ex_rn, ex_sm, Nat.sub_zero, eq_self, wn_sI, wn_sL, wn_sP, wsh_sI, wsh_sL, wsh_sP, wI_sL, wI_sP, wL_sI, wL_sP, wP_sI, wP_sL, wI_sI, wL_sL, Int32.reduceLT, Int32.reduceLE, true_implies, not_true_eq_false, false_implies, not_false_eq_true, i_10]
    obtain ⟨v, hv, rfl⟩ := i_nat (c := 5) (by decide) ha.1 ha.2
    have hv6 : v < 6 := by omega
    simp only [if_neg (not_not_intro ha), ni_cl (show v < 2147483648 by omega)] at h
    simp (disch := omega) only [ms_o hm, ms_b hm, ms_0 hm, mp_many hm, ms_many hm, na_1, nb_1, nm_1, ns_1, nr_1, na_2, nb_2, nm_2, ns_2, nr_2, na_3, nb_3, nm_3, ns_3, nr_3, na_4, nb_4, nm_4, ns_4, nr_4, na_5, nb_5, nm_5, ns_5, nr_5, na_6, nb_6, nm_6, ns_6, nr_6, na_7, nb_7, nm_7, ns_7, nr_7, na_8, nb_8, nm_8, ns_8, nr_8, na_10, nb_10, nm_10, ns_10, nr_10, na_16, nb_16, nm_16, ns_16, nr_16, nl_m1, ni_add, ni_mul, ni_sub, ni_cl, ni_in, vp_0, vp_1, vp_2, vp_3, vp_4, vp_5, Int32.reduceToNatClampNeg, pI_c, pL_c, pF_c, pD_c, pA_n, pA_c, pA_rf, pR_c, pR_rf, pV_i, pV_a, pV_n, pV_rf, ldI_c, ldL_c, ldF_c, ldD_c, ldA_c, ldA_n, ldA_rf, dup2_l, dup2_ia, dup2_ir, popA_0, popA_s, getL_z, getL_s, setL_z, setL_1, setL_s, setL2_z, setL2_1, setL2_s, drop2_i, drop2_a, drop2_0, drop2_n, drop2_l, drop2_d, drop2_r, cwd_0, cwd_i, cwd_a, cwd_n, cwd_l, cwd_d, cwd_f, cwd_r, rf_s, rf_n, swi_0, swi_s, zR_b0, zR_b1, zN_b0, zN_b1, entV_i, entV_a, entV_n, entV_r, entV_f, entV_l, entV_d, entV_s, entV_0, List.length_cons, List.length_nil, List.nil_append, List.cons_append, true_and, and_true, Nat.reduceAdd, Nat.reduceLT, Nat.reduceEqDiff, Nat.reduceLeDiff, Nat.reduceSub, Nat.zero_add, Classical.not_not, ex_i, ex_l, ex_d, ex_r, ex_rs, ex_rn, ex_sm, Nat.sub_zero, eq_self, wn_sI, wn_sL, wn_sP, wsh_sI, wsh_sL, wsh_sP, wI_sL, wI_sP, wL_sI, wL_sP, wP_sI, wP_sL, wI_sI, wL_sL, Int32.reduceLT, Int32.reduceLE, true_implies, not_true_eq_false, false_implies, not_false_eq_true, i_10]
    rcases hV v hv6 with e0 | ⟨n1, hn0, hn1, hW⟩
    · have e0' : wI w (m + 6) v = 0 := e0
      simp only [e0, if_true] at h
      simp only [e0', pI_c, pL_c, pF_c, pD_c, pA_n, pA_c, pA_rf, pR_c, pR_rf, pV_i, pV_a, pV_n, pV_rf, ldI_c, ldL_c, ldF_c, ldD_c, ldA_c, ldA_n, ldA_rf, dup2_l, dup2_ia, dup2_ir, popA_0, popA_s, getL_z, getL_s, setL_z, setL_1, setL_s, setL2_z, setL2_1, setL2_s, drop2_i, drop2_a, drop2_0, drop2_n, drop2_l, drop2_d, drop2_r, cwd_0, cwd_i, cwd_a, cwd_n, cwd_l, cwd_d, cwd_f, cwd_r, rf_s, rf_n, swi_0, swi_s, zR_b0, zR_b1, zN_b0, zN_b1, entV_i, entV_a, entV_n, entV_r, entV_f, entV_l, entV_d, entV_s, entV_0, List.length_cons, List.length_nil, List.nil_append, List.cons_append, true_and, and_true, Nat.reduceAdd, Nat.reduceLT, Nat.reduceEqDiff, Nat.reduceLeDiff, Nat.reduceSub, Nat.zero_add, Classical.not_not, ex_i, ex_l, ex_d, ex_r, ex_rs, ex_rn, ex_sm, Nat.sub_zero, eq_self, wn_sI, wn_sL, wn_sP, wsh_sI, wsh_sL, wsh_sP, wI_sL, wI_sP, wL_sI, wL_sP, wP_sI, wP_sL, wI_sI, wL_sL, Int32.reduceLT, Int32.reduceLE, true_implies, not_true_eq_false, false_implies, not_false_eq_true, i_10]
      exact h _ _ Fr.rf ⟨rfl, Bt.rf⟩
    · have hn8 := hW.1
      have e0' : wI w (m + 6) v = nI n1 := hn1
      have hne : ¬ nI n1 = 0 := nI_ne0 hn0 (by omega)
      simp only [hn1, hne, if_false, ni_cl (show n1 < 2147483648 by omega)] at h
      simp only [e0', hne, pI_c, pL_c, pF_c, pD_c, pA_n, pA_c, pA_rf, pR_c, pR_rf, pV_i, pV_a, pV_n, pV_rf, ldI_c, ldL_c, ldF_c, ldD_c, ldA_c, ldA_n, ldA_rf, dup2_l, dup2_ia, dup2_ir, popA_0, popA_s, getL_z, getL_s, setL_z, setL_1, setL_s, setL2_z, setL2_1, setL2_s, drop2_i, drop2_a, drop2_0, drop2_n, drop2_l, drop2_d, drop2_r, cwd_0, cwd_i, cwd_a, cwd_n, cwd_l, cwd_d, cwd_f, cwd_r, rf_s, rf_n, swi_0, swi_s, zR_b0, zR_b1, zN_b0, zN_b1, entV_i, entV_a, entV_n, entV_r, entV_f, entV_l, entV_d, entV_s, entV_0, List.length_cons, List.length_nil, List.nil_append, List.cons_append, true_and, and_true, Nat.reduceAdd, Nat.reduceLT, Nat.reduceEqDiff, Nat.reduceLeDiff, Nat.reduceSub, Nat.zero_add, Classical.not_not, ex_i, ex_l, ex_d, ex_r, ex_rs, ex_rn, ex_sm, Nat.sub_zero, eq_self, wn_sI, wn_sL, wn_sP, wsh_sI, wsh_sL, wsh_sP, wI_sL, wI_sP, wL_sI, wL_sP, wP_sI, wP_sL, wI_sI, wL_sL, Int32.reduceLT, Int32.reduceLE, true_implies, not_true_eq_false, false_implies, not_false_eq_true, i_10]
      refine X12_packs_ok hm hv6 (Sm.self m w) hR (hW.S hn1) (fun w1 e hf1 hpk e1 e2 e3 => ?_) (fun w1 p L hf1 hpk hLl h45 hb h56 h57 hG => ?_)
      · have hm1 := hm.fr hf1
        have e00 : ¬ (0 : Int32) ≤ -20 := by decide
        simp only [hpk] at h
        simp (disch := omega) only [vX12_pack_26, vX12_pack_29, vX12_pack_30, vX12_pack_31, vX12_pack_32, vX12_pack_35, vX12_pack_36, vX12_pack_39, vX12_pack_40, vX12_pack_43, vX12_pack_46, ms_o hm1, ms_b hm1, ms_0 hm1, pI_c, pL_c, pF_c, pD_c, pA_n, pA_c, pA_rf, pR_c, pR_rf, pV_i, pV_a, pV_n, pV_rf, ldI_c, ldL_c, ldF_c, ldD_c, ldA_c, ldA_n, ldA_rf, dup2_l, dup2_ia, dup2_ir, popA_0, popA_s, getL_z, getL_s, setL_z, setL_1, setL_s, setL2_z, setL2_1, setL2_s, drop2_i, drop2_a, drop2_0, drop2_n, drop2_l, drop2_d, drop2_r, cwd_0, cwd_i, cwd_a, cwd_n, cwd_l, cwd_d, cwd_f, cwd_r, rf_s, rf_n, swi_0, swi_s, zR_b0, zR_b1, zN_b0, zN_b1, entV_i, entV_a, entV_n, entV_r, entV_f, entV_l, entV_d, entV_s, entV_0, List.length_cons, List.length_nil, List.nil_append, List.cons_append, true_and, and_true, Nat.reduceAdd, Nat.reduceLT, Nat.reduceEqDiff, Nat.reduceLeDiff, Nat.reduceSub, Nat.zero_add, Classical.not_not, ex_i, ex_l, ex_d, ex_r, ex_rs, ex_rn, ex_sm, Nat.sub_zero, eq_self, wn_sI, wn_sL, wn_sP, wsh_sI, wsh_sL, wsh_sP, wI_sL, wI_sP, wL_sI, wL_sP, wP_sI, wP_sL, wI_sI, wL_sL, Int32.reduceLT, Int32.reduceLE, true_implies, not_true_eq_false, false_implies, not_false_eq_true, i_10, na_1, nb_1, nm_1, ns_1, nr_1, na_2, nb_2, nm_2, ns_2, nr_2, na_3, nb_3, nm_3, ns_3, nr_3, na_4, nb_4, nm_4, ns_4, nr_4, na_5, nb_5, nm_5, ns_5, nr_5, na_6, nb_6, nm_6, ns_6, nr_6, na_7, nb_7, nm_7, ns_7, nr_7, na_8, nb_8, nm_8, ns_8, nr_8, na_10, nb_10, nm_10, ns_10, nr_10, na_16, nb_16, nm_16, ns_16, nr_16, nl_m1, ni_add, ni_mul, ni_sub, ni_cl, ni_in, vp_0, vp_1, vp_2, vp_3, vp_4, vp_5, Int32.reduceToNatClampNeg, e00, e1, e2, e3]
        refine X12_stops_ok hm1 _ _ _ _ fun w' hf2 q1 q2 q3 q4 q5 => ?_
        rw [if_neg (by decide)]
        refine h _ _ ((hf1.mo fun p j q => by unfold pkS at q; unfold mS; omega).tr (hf2.mo fun p j q => by unfold mS; omega)) ⟨rfl, ?_⟩
        exact SpStop.of hf1 (fun o j hp => by unfold pers at hp; unfold pkS; omega) hf2 q1 q2 q3 q4 q5
      · have hm1 := hm.fr hf1
        have e00 : (0 : Int32) ≤ 0 := by decide
        have e13 : wI w1 m 13 = nI u := by rw [hf1.I _ _ (by unfold pkS; omega)]; exact hu
        have hus : (mst m w).1 0 13 = nI u := hu
        simp only [hpk, hus, ni_cl (show u < 2147483648 by omega)] at h
        have hFull : ∀ ans, (249 < L.length ∨ 495 < u + L.length) → ans = -4 → K ans w1 k n := by
          intro ans q qa
          simp only [if_pos q] at h
          exact h _ _ (hf1.mo fun p j q => by unfold pkS at q; unfold mS; omega) ⟨qa, Bt.of hf1 fun o j hp _ => by unfold pers at hp; unfold pkS; omega⟩
        simp (disch := omega) only [vX12_pack_26, vX12_pack_29, vX12_pack_30, vX12_pack_31, vX12_pack_32, vX12_pack_35, vX12_pack_36, vX12_pack_39, vX12_pack_40, vX12_pack_43, vX12_pack_46, vX12_pack_47, vX12_pack_48, vX12_pack_51, vX12_pack_54, vX12_pack_57, vX12_pack_58, vX12_pack_61, vX12_pack_62, vX12_pack_65, vX12_pack_66, vX12_pack_67, vX12_pack_68, vX12_pack_71, vX12_pack_74, vX12_pack_76, ms_o hm1, ms_b hm1, ms_0 hm1, pI_c, pL_c, pF_c, pD_c, pA_n, pA_c, pA_rf, pR_c, pR_rf, pV_i, pV_a, pV_n, pV_rf, ldI_c, ldL_c, ldF_c, ldD_c, ldA_c, ldA_n, ldA_rf, dup2_l, dup2_ia, dup2_ir, popA_0, popA_s, getL_z, getL_s, setL_z, setL_1, setL_s, setL2_z, setL2_1, setL2_s, drop2_i, drop2_a, drop2_0, drop2_n, drop2_l, drop2_d, drop2_r, cwd_0, cwd_i, cwd_a, cwd_n, cwd_l, cwd_d, cwd_f, cwd_r, rf_s, rf_n, swi_0, swi_s, zR_b0, zR_b1, zN_b0, zN_b1, entV_i, entV_a, entV_n, entV_r, entV_f, entV_l, entV_d, entV_s, entV_0, List.length_cons, List.length_nil, List.nil_append, List.cons_append, true_and, and_true, Nat.reduceAdd, Nat.reduceLT, Nat.reduceEqDiff, Nat.reduceLeDiff, Nat.reduceSub, Nat.zero_add, Classical.not_not, ex_i, ex_l, ex_d, ex_r, ex_rs, ex_rn, ex_sm, Nat.sub_zero, eq_self, wn_sI, wn_sL, wn_sP, wsh_sI, wsh_sL, wsh_sP, wI_sL, wI_sP, wL_sI, wL_sP, wP_sI, wP_sL, wI_sI, wL_sL, Int32.reduceLT, Int32.reduceLE, true_implies, not_true_eq_false, false_implies, not_false_eq_true, i_10, na_1, nb_1, nm_1, ns_1, nr_1, na_2, nb_2, nm_2, ns_2, nr_2, na_3, nb_3, nm_3, ns_3, nr_3, na_4, nb_4, nm_4, ns_4, nr_4, na_5, nb_5, nm_5, ns_5, nr_5, na_6, nb_6, nm_6, ns_6, nr_6, na_7, nb_7, nm_7, ns_7, nr_7, na_8, nb_8, nm_8, ns_8, nr_8, na_10, nb_10, nm_10, ns_10, nr_10, na_16, nb_16, nm_16, ns_16, nr_16, nl_m1, ni_add, ni_mul, ni_sub, ni_cl, ni_in, vp_0, vp_1, vp_2, vp_3, vp_4, vp_5, Int32.reduceToNatClampNeg, e00, h45, e13]
        refine ⟨fun q => ?_, fun q => ⟨fun q2 => ?_, fun q2 => ?_⟩⟩
        · have q' : nI 250 < nI (1 + L.length) := q
          rw [ni_lt (by omega) (by omega)] at q'
          exact hFull _ (Or.inl (by omega)) rfl
        · have q' : ¬ nI 250 < nI (1 + L.length) := q
          rw [ni_lt (by omega) (by omega)] at q'
          have q2' : nI (u + (1 + L.length) + 4) ≤ nI 500 := q2
          rw [ni_le (by omega) (by omega)] at q2'
          have hno : ¬ (249 < L.length ∨ 495 < u + L.length) := by omega
          simp only [if_neg hno] at h
          simp (disch := omega) only [vX12_pack_77, vX12_pack_78, vX12_pack_81, vX12_pack_82, vX12_pack_83, vX12_pack_86, vX12_pack_87, vX12_pack_88, vX12_pack_91, vX12_pack_92, vX12_pack_93, vX12_pack_94, vX12_pack_97, vX12_pack_98, vX12_pack_99, vX12_pack_100, vX12_pack_103, vX12_pack_104, vX12_pack_105, vX12_pack_108, vX12_pack_109, vX12_pack_110, vX12_pack_111, vX12_pack_114, vX12_pack_115, vX12_pack_118, vX12_pack_119, vX12_pack_120, ms_o hm1, ms_b hm1, ms_0 hm1, mp_wire hm1, ms_wire hm1, pI_c, pL_c, pF_c, pD_c, pA_n, pA_c, pA_rf, pR_c, pR_rf, pV_i, pV_a, pV_n, pV_rf, ldI_c, ldL_c, ldF_c, ldD_c, ldA_c, ldA_n, ldA_rf, dup2_l, dup2_ia, dup2_ir, popA_0, popA_s, getL_z, getL_s, setL_z, setL_1, setL_s, setL2_z, setL2_1, setL2_s, drop2_i, drop2_a, drop2_0, drop2_n, drop2_l, drop2_d, drop2_r, cwd_0, cwd_i, cwd_a, cwd_n, cwd_l, cwd_d, cwd_f, cwd_r, rf_s, rf_n, swi_0, swi_s, zR_b0, zR_b1, zN_b0, zN_b1, entV_i, entV_a, entV_n, entV_r, entV_f, entV_l, entV_d, entV_s, entV_0, List.length_cons, List.length_nil, List.nil_append, List.cons_append, true_and, and_true, Nat.reduceAdd, Nat.reduceLT, Nat.reduceEqDiff, Nat.reduceLeDiff, Nat.reduceSub, Nat.zero_add, Classical.not_not, ex_i, ex_l, ex_d, ex_r, ex_rs, ex_rn, ex_sm, Nat.sub_zero, eq_self, wn_sI, wn_sL, wn_sP, wsh_sI, wsh_sL, wsh_sP, wI_sL, wI_sP, wL_sI, wL_sP, wP_sI, wP_sL, wI_sI, wL_sL, Int32.reduceLT, Int32.reduceLE, true_implies, not_true_eq_false, false_implies, not_false_eq_true, i_10, na_1, nb_1, nm_1, ns_1, nr_1, na_2, nb_2, nm_2, ns_2, nr_2, na_3, nb_3, nm_3, ns_3, nr_3, na_4, nb_4, nm_4, ns_4, nr_4, na_5, nb_5, nm_5, ns_5, nr_5, na_6, nb_6, nm_6, ns_6, nr_6, na_7, nb_7, nm_7, ns_7, nr_7, na_8, nb_8, nm_8, ns_8, nr_8, na_10, nb_10, nm_10, ns_10, nr_10, na_16, nb_16, nm_16, ns_16, nr_16, nl_m1, ni_add, ni_mul, ni_sub, ni_cl, ni_in, vp_0, vp_1, vp_2, vp_3, vp_4, vp_5, Int32.reduceToNatClampNeg, up2_n1, up2_at, if_true, if_false, Nat.reduceEqDiff, eq_self, e13]
          have hW0 : WirM m w1 u [] := ⟨by rw [e13]; rfl, bufH.nil _ _⟩
          have hfA := wirW_fr m w1 u [] (nI v)
          have hWA := wirW_ok hW0 (nI v)
          have hfB := hfA.tr (wirW_fr m (wirW m w1 u [] (nI v)) u [nI v] (nI (1 + L.length)))
          have hWB := wirW_ok hWA (nI (1 + L.length))
          rw [h45]
          refine pack_tail (p := p) (L := L) (w := wirW m (wirW m w1 u [] (nI v)) u [nI v] (nI (1 + L.length))) (hm1.fr hfB) (by omega) hWB ((hfB.I m 45 (by unfold wirS; omega)).trans h45) ?_ fun w' hf' hW' hc => ?_
          · rw [show wI (wirW m (wirW m w1 u [] (nI v)) u [nI v] (nI (1 + L.length))) (m + 32) = wI w1 (m + 32) from funext fun j => hfB.I _ _ (by unfold wirS; omega)]
            exact hb
          · refine ⟨_, rfl, h _ _ (((hf1.mo fun p j q => by unfold pkS at q; unfold mS; omega).tr (hfB.mo fun p j q => by unfold wirS at q; unfold mS; omega)).tr (hf'.mo fun p j q => by unfold wirS at q; unfold mS; omega)) ⟨rfl, ?_, ?_, hW'.2, ?_⟩⟩
            · refine Bt.tr (Bt.tr (Bt.of hf1 fun o j hp _ => by unfold pers at hp; unfold pkS; omega) (Bt.of hfB fun o j hp hn => ?_)) (Bt.of hf' fun o j hp hn => ?_)
              · unfold wirS; omega
              · unfold wirS; omega
            · have := hW'.1
              rw [show (frL (nI v) p L).length = L.length + 5 by unfold frL frH; simp] at this
              exact this
            · show wI w' (m + 17) 0 = wI w (m + 17) 0 + 1
              rw [hc, hfB.I _ _ (by unfold wirS; omega), hf1.I _ _ (by unfold pkS; omega)]
        · have q2' : ¬ nI (u + (1 + L.length) + 4) ≤ nI 500 := q2
          rw [ni_le (by omega) (by omega)] at q2'
          exact hFull _ (Or.inr (by omega)) rfl
  · simp only [b2i_f ha, pI_c, pL_c, pF_c, pD_c, pA_n, pA_c, pA_rf, pR_c, pR_rf, pV_i, pV_a, pV_n, pV_rf, ldI_c, ldL_c, ldF_c, ldD_c, ldA_c, ldA_n, ldA_rf, dup2_l, dup2_ia, dup2_ir, popA_0, popA_s, getL_z, getL_s, setL_z, setL_1, setL_s, setL2_z, setL2_1, setL2_s, drop2_i, drop2_a, drop2_0, drop2_n, drop2_l, drop2_d, drop2_r, cwd_0, cwd_i, cwd_a, cwd_n, cwd_l, cwd_d, cwd_f, cwd_r, rf_s, rf_n, swi_0, swi_s, zR_b0, zR_b1, zN_b0, zN_b1, entV_i, entV_a, entV_n, entV_r, entV_f, entV_l, entV_d, entV_s, entV_0, List.length_cons, List.length_nil, List.nil_append, List.cons_append, true_and, and_true, Nat.reduceAdd, Nat.reduceLT, Nat.reduceEqDiff, Nat.reduceLeDiff, Nat.reduceSub, Nat.zero_add, Classical.not_not, ex_i, ex_l, ex_d, ex_r, ex_rs, ex_rn, ex_sm, Nat.sub_zero, eq_self, wn_sI, wn_sL, wn_sP, wsh_sI, wsh_sL, wsh_sP, wI_sL, wI_sP, wL_sI, wL_sP, wP_sI, wP_sL, wI_sI, wL_sL, Int32.reduceLT, Int32.reduceLE, true_implies, not_true_eq_false, false_implies, not_false_eq_true, i_10]
    refine h _ _ Fr.rf ?_
    rw [if_pos ha]
    exact ⟨rfl, Bt.rf⟩
