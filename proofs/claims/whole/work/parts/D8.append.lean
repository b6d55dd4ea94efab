/-! the library: a number appended -/
theorem decK_at (n : Nat) : ∀ e j, j ≤ e → (decK n e)[j]? = some (n / 10 ^ (e - j) % 10)
  | 0, j, h => by
    obtain rfl : j = 0 := by omega
    show some (n % 10) = _
    rw [Nat.sub_self, Nat.pow_zero, Nat.div_one]
  | e + 1, 0, _ => rfl
  | e + 1, j + 1, h => by
    show (decK n e)[j]? = _
    rw [decK_at n e j (by omega), show e + 1 - (j + 1) = e - j by omega]
theorem numT_buf {v : Int32} {f : Nat → Int32} {e : Nat} (hl : (numT v).length ≤ e) (h1 : ∀ t, t ≤ lg10 v.toInt.natAbs 5 0 → f (e - 1 - t) = nI (48 + v.toInt.natAbs / 10 ^ t % 10)) (h2 : sgN v = 1 → f (e - (numT v).length) = 45) : bufH f (e - (numT v).length) (numT v) := by
  intro i hi
  have hln := numT_ln v
  rw [hln] at hl hi h2 ⊢
  have hd : ∀ j, j ≤ lg10 v.toInt.natAbs 5 0 → ((decL v.toInt.natAbs).map fun d => nI (48 + d))[j]? = some (f (e - 1 - (lg10 v.toInt.natAbs 5 0 - j))) := fun j hj => by
    unfold decL
    rw [List.getElem?_map, decK_at _ _ _ hj, h1 _ (by omega)]
    rfl
  unfold numT
  generalize lg10 v.toInt.natAbs 5 0 = G at *
  by_cases q : v < 0
  · have q1 : sgN v = 1 := if_pos q
    rw [q1] at hl hi h2 ⊢
    rw [if_pos q]
    rcases i with _ | j
    · rw [Nat.add_zero, h2 rfl]
      rfl
    · rw [List.getElem?_append_right (by show 1 ≤ j + 1; omega), List.length_singleton, Nat.add_sub_cancel, hd j (by omega)]
      congr 2
      omega
  · have q1 : sgN v = 0 := if_neg q
    rw [q1] at hl hi h2 ⊢
    rw [if_neg q, List.nil_append, hd i (by omega)]
    congr 2
    omega
theorem lg_val (A : Nat) : lg10 A 5 0 = if A / 1 ≤ 9 then 0 else if A / 10 ≤ 9 then 1 else if A / 100 ≤ 9 then 2 else if A / 1000 ≤ 9 then 3 else if A / 10000 ≤ 9 then 4 else 5 := rfl
theorem digs6 {P : Nat → Prop} {G : Nat} (hG : G ≤ 5) (h0 : P 0) (h1 : 1 ≤ G → P 1) (h2 : 2 ≤ G → P 2) (h3 : 3 ≤ G → P 3) (h4 : 4 ≤ G → P 4) (h5 : 5 ≤ G → P 5) : ∀ t, t ≤ G → P t := by
  intro t ht
  rcases (show t = 0 ∨ t = 1 ∨ t = 2 ∨ t = 3 ∨ t = 4 ∨ t = 5 by omega) with rfl | rfl | rfl | rfl | rfl | rfl
  · exact h0
  · exact h1 ht
  · exact h2 ht
  · exact h3 ht
  · exact h4 ht
  · exact h5 ht
set_option maxRecDepth 100000 in
set_option maxHeartbeats 4000000 in
theorem J6_getChars_ok {g : Ge} {w : Wd} {k n : Nat} {K : Int32 → Wd → Nat → Nat → Prop} {v : Int32} {e b cap : Nat} (hC : Cn g w) (hgb : gB g ≤ b) (hb : wsh w b = (103, cap)) (hcap : cap ≤ 600) (h1 : -999999 ≤ v.toInt) (h2 : v.toInt ≤ 999999) (hl : (numT v).length ≤ e) (he : e ≤ cap) (h : ∀ w', Fr (bwS b (e - (numT v).length) e) w w' → bufH (wI w' b) (e - (numT v).length) (numT v) → K (nI (e - (numT v).length)) w' k n) : cI g mJ6_getChars_ba4f3 [.int v, .int (nI e), .ref b] w k n K := by
  obtain ⟨hA, hn, hp⟩ := num_abs h1 h2
  have hln := numT_ln v
  have hbf := fun f => numT_buf (v := v) (f := f) (e := e) hl
  refine cI_of 7 0 0 rfl (by decide +kernel) rfl (Nat.le_of_ble_eq_true rfl) (Nat.zero_le _) (Nat.zero_le _) ?_
  have go : ∀ s, s = sgN v → R g mJ6_getChars_ba4f3 (fun r w' => ∃ x, r = some (.int x) ∧ K x w' (k - 0) (n - 0)) 22 [some (.int (-nI v.toInt.natAbs)), some (.int (nI e)), some (.ref b), none, none, some (.int (nI e)), some (.int (nI s))] [] w 0 0 := by
    intro s es
    have hs : s ≤ 1 := by rw [es]; unfold sgN; split <;> omega
    rw [← es] at hln hbf
    have hlg := lg_val v.toInt.natAbs
    generalize v.toInt.natAbs = A at *
    generalize lg10 A 5 0 = G at *
    have keepC : ∀ {w1 : Wd} {lo hi : Nat}, Fr (bwS b lo hi) w w1 → Cn g w1 := fun hf => hC.fr hf fun a j ha z => by unfold bwS at z; omega
    rw [hln] at hl h hbf
    by_cases q1 : A < 100
    · have eG : G = if 9 < A then 1 else 0 := by
        rw [hlg]
        split
        · rw [if_neg (by omega)]
        · rw [if_pos (by omega), if_pos (by omega)]
      refine J6_gc_fin hC hgb hb hcap rfl q1 hs (by rw [← eG]; omega) he fun w' q g1 g2 g3 g4 g5 => ?_
      rw [← eG] at g1
      have eq : q = e - (s + (G + 1)) := by omega
      subst eq
      refine ⟨_, rfl, h w' g2 (hbf _ ?_ g5)⟩
      have hG : G ≤ 1 := by rw [eG]; split <;> omega
      refine digs6 (by omega) ?_ (fun z => ?_) (fun z => by omega) (fun z => by omega) (fun z => by omega) fun z => by omega
      · rw [Nat.pow_zero, Nat.div_one]; exact g3
      · have z9 : 9 < A := by
          rw [eG] at z
          split at z
          · assumption
          · omega
        rw [show e - 1 - 1 = e - 2 by omega, g4 z9, show A / 10 ^ 1 % 10 = A / 10 by omega]
    · by_cases q2 : A < 10000
      · have eG : G = 2 + if 9 < A / 100 then 1 else 0 := by
          rw [hlg, if_neg (by omega), if_neg (by omega)]
          split
          · rw [if_neg (by omega)]
          · rw [if_pos (by omega), if_pos (by omega)]
        have hG2 : 2 ≤ G := by omega
        refine J6_gc_it hC hgb hb hcap (by omega) (by omega) (by omega) he fun w1 o3 o4 ho f1 d0 d1 => ?_
        refine J6_gc_fin (keepC f1) hgb (by rw [f1.sh]; exact hb) hcap ho (show A / 100 < 100 by omega) hs (by omega) (by omega) fun w' q g1 g2 g3 g4 g5 => ?_
        have eq : q = e - (s + (G + 1)) := by omega
        subst eq
        refine ⟨_, rfl, h w' ((f1.mo fun c j z => by unfold bwS at z ⊢; omega).tr (g2.mo fun c j z => by unfold bwS at z ⊢; omega)) (hbf _ ?_ g5)⟩
        have hG : G ≤ 3 := by rw [eG]; split <;> omega
        refine digs6 (by omega) ?_ (fun z => ?_) (fun z => ?_) (fun z => ?_) (fun z => by omega) fun z => by omega
        · rw [Nat.pow_zero, Nat.div_one, g2.I _ _ (by unfold bwS; omega)]; exact d0
        · rw [g2.I _ _ (by unfold bwS; omega), show e - 1 - 1 = e - 2 by omega, d1]
        · rw [show e - 1 - 2 = e - 2 - 1 by omega, g3]
        · have z9 : 9 < A / 100 := by
            rw [eG] at z
            split at z
            · assumption
            · omega
          rw [show e - 1 - 3 = e - 2 - 2 by omega, g4 z9, show A / 10 ^ 3 % 10 = A / 100 / 10 by omega]
      · have eG : G = 4 + if 9 < A / 100 / 100 then 1 else 0 := by
          rw [hlg, if_neg (by omega), if_neg (by omega), if_neg (by omega), if_neg (by omega)]
          split
          · rw [if_neg (by omega)]
          · rw [if_pos (by omega)]
        have hG4 : 4 ≤ G := by omega
        refine J6_gc_it hC hgb hb hcap (by omega) (by omega) (by omega) he fun w1 o3 o4 ho f1 d0 d1 => ?_
        refine J6_gc_it (keepC f1) hgb (by rw [f1.sh]; exact hb) hcap (show 100 ≤ A / 100 by omega) (by omega) (by omega) (by omega) fun w2 o3 o4 ho f2 d2 d3 => ?_
        have f02 : Fr (bwS b (e - 4) e) w w2 := (f1.mo fun c j z => by unfold bwS at z ⊢; omega).tr (f2.mo fun c j z => by unfold bwS at z ⊢; omega)
        refine J6_gc_fin (keepC f02) hgb (by rw [f02.sh]; exact hb) hcap ho (show A / 100 / 100 < 100 by omega) hs (by omega) (by omega) fun w' q g1 g2 g3 g4 g5 => ?_
        have eq : q = e - (s + (G + 1)) := by omega
        subst eq
        refine ⟨_, rfl, h w' ((f02.mo fun c j z => by unfold bwS at z ⊢; omega).tr (g2.mo fun c j z => by unfold bwS at z ⊢; omega)) (hbf _ ?_ g5)⟩
        have hG : G ≤ 5 := by rw [eG]; split <;> omega
        refine digs6 (by omega) ?_ (fun z => ?_) (fun z => ?_) (fun z => ?_) (fun z => ?_) fun z => ?_
        · rw [Nat.pow_zero, Nat.div_one, g2.I _ _ (by unfold bwS; omega), f2.I _ _ (by unfold bwS; omega)]; exact d0
        · rw [g2.I _ _ (by unfold bwS; omega), f2.I _ _ (by unfold bwS; omega), show e - 1 - 1 = e - 2 by omega, d1]
        · rw [g2.I _ _ (by unfold bwS; omega), show e - 1 - 2 = e - 2 - 1 by omega, d2]
        · rw [g2.I _ _ (by unfold bwS; omega), show e - 1 - 3 = e - 2 - 2 by omega, d3, show A / 10 ^ 3 % 10 = A / 100 / 10 % 10 by omega]
        · rw [show e - 1 - 4 = e - 2 - 2 - 1 by omega, g3, show A / 10 ^ 4 % 10 = A / 100 / 100 % 10 by omega]
        · have z9 : 9 < A / 100 / 100 := by
            rw [eG] at z
            split at z
            · assumption
            · omega
          rw [show e - 1 - 5 = e - 2 - 2 - 2 by omega, g4 z9, show A / 10 ^ 5 % 10 = A / 100 / 100 / 10 by omega]
  by_cases q : v < 0
  · have e1 := hn q
    have := go 1 (if_pos q).symm
    have nv : ¬ 0 ≤ v := Int32.not_le.mpr q
    simp only [vJ6_getChars_ba4f3_0, vJ6_getChars_ba4f3_1, vJ6_getChars_ba4f3_3, vJ6_getChars_ba4f3_4, vJ6_getChars_ba4f3_7, vJ6_getChars_ba4f3_8, vJ6_getChars_ba4f3_11, vJ6_getChars_ba4f3_12, vJ6_getChars_ba4f3_14, vJ6_getChars_ba4f3_16, pI_c, pL_c, pF_c, pD_c, pA_n, pA_c, pA_rf, pR_c, pR_rf, pV_i, pV_a, pV_n, pV_rf, ldI_c, ldL_c, ldF_c, ldD_c, ldA_c, ldA_n, ldA_rf, dup2_l, dup2_ia, dup2_ir, popA_0, popA_s, getL_z, getL_s, setL_z, setL_1, setL_s, setL2_z, setL2_1, setL2_s, drop2_i, drop2_a, drop2_0, drop2_n, drop2_l, drop2_d, drop2_r, cwd_0, cwd_i, cwd_a, cwd_n, cwd_l, cwd_d, cwd_f, cwd_r, rf_s, rf_n, swi_0, swi_s, zR_b0, zR_b1, zN_b0, zN_b1, entV_i, entV_a, entV_n, entV_r, entV_f, entV_l, entV_d, entV_s, entV_0, List.length_cons, List.length_nil, List.nil_append, List.cons_append, true_and, and_true, Nat.reduceAdd, Nat.reduceLT, Nat.reduceEqDiff, Nat.reduceLeDiff, Nat.reduceSub, Nat.zero_add, Classical.not_not, ex_i, ex_l, ex_d, ex_r, ex_rs, ex_rn, ex_sm, Nat.sub_zero, eq_self, wn_sI, wn_sL, wn_sP, wsh_sI, wsh_sL, wsh_sP, wI_sL, wI_sP, wL_sI, wL_sP, wP_sI, wP_sL, wI_sI, wL_sL, Int32.reduceLT, Int32.reduceLE, true_implies, not_true_eq_false, false_implies, not_false_eq_true, i_10, nv]
    rw [← e1] at this
    exact this
  · have e1 := hp q
    have := go 0 (if_neg q).symm
    have nv : 0 ≤ v := Int32.not_lt.mp q
    simp only [vJ6_getChars_ba4f3_0, vJ6_getChars_ba4f3_1, vJ6_getChars_ba4f3_3, vJ6_getChars_ba4f3_4, vJ6_getChars_ba4f3_7, vJ6_getChars_ba4f3_8, vJ6_getChars_ba4f3_11, vJ6_getChars_ba4f3_12, vJ6_getChars_ba4f3_14, vJ6_getChars_ba4f3_16, vJ6_getChars_ba4f3_19, vJ6_getChars_ba4f3_20, vJ6_getChars_ba4f3_21, pI_c, pL_c, pF_c, pD_c, pA_n, pA_c, pA_rf, pR_c, pR_rf, pV_i, pV_a, pV_n, pV_rf, ldI_c, ldL_c, ldF_c, ldD_c, ldA_c, ldA_n, ldA_rf, dup2_l, dup2_ia, dup2_ir, popA_0, popA_s, getL_z, getL_s, setL_z, setL_1, setL_s, setL2_z, setL2_1, setL2_s, drop2_i, drop2_a, drop2_0, drop2_n, drop2_l, drop2_d, drop2_r, cwd_0, cwd_i, cwd_a, cwd_n, cwd_l, cwd_d, cwd_f, cwd_r, rf_s, rf_n, swi_0, swi_s, zR_b0, zR_b1, zN_b0, zN_b1, entV_i, entV_a, entV_n, entV_r, entV_f, entV_l, entV_d, entV_s, entV_0, List.length_cons, List.length_nil, List.nil_append, List.cons_append, true_and, and_true, Nat.reduceAdd, Nat.reduceLT, Nat.reduceEqDiff, Nat.reduceLeDiff, Nat.reduceSub, Nat.zero_add, Classical.not_not, ex_i, ex_l, ex_d, ex_r, ex_rs, ex_rn, ex_sm, Nat.sub_zero, eq_self, wn_sI, wn_sL, wn_sP, wsh_sI, wsh_sL, wsh_sP, wI_sL, wI_sP, wL_sI, wL_sP, wP_sI, wP_sL, wI_sI, wL_sL, Int32.reduceLT, Int32.reduceLE, true_implies, not_true_eq_false, false_implies, not_false_eq_true, i_10, nv]
    rw [← e1] at this
    exact this
theorem numT_chr {v c : Int32} (h : c ∈ numT v) : chr c := by
  unfold numT at h
  rcases List.mem_append.mp h with z | z
  · split at z
    · rw [List.mem_singleton.mp z]
      exact ⟨45, by decide, rfl⟩
    · cases z
  · obtain ⟨d, hd, rfl⟩ := List.mem_map.mp z
    obtain ⟨j, hj, ej⟩ := List.mem_iff_getElem.mp hd
    have hl := decK_len v.toInt.natAbs (lg10 v.toInt.natAbs 5 0)
    have := decK_at v.toInt.natAbs (lg10 v.toInt.natAbs 5 0) j (by unfold decL at hj; omega)
    have e2 : (decL v.toInt.natAbs)[j]? = some d := by rw [List.getElem?_eq_getElem hj, ej]
    unfold decL at e2
    rw [this] at e2
    have := Option.some.inj e2
    exact ⟨48 + d, by omega, rfl⟩
set_option maxRecDepth 100000 in
set_option maxHeartbeats 4000000 in
theorem J5_appendI_ok {g : Ge} {w : Wd} {k n : Nat} {K : Option Nat → Wd → Nat → Nat → Prop} {a b cap : Nat} {v : Int32} {L : List Int32} (hC : Cn g w) (hS : SBX w a b cap L) (hg : gB g ≤ a) (hgb : gB g ≤ b) (hgw : gB g ≤ wn w) (hW : WF w) (h1 : -999999 ≤ v.toInt) (h2 : v.toInt ≤ 999999) (hl : L.length + (numT v).length ≤ 240) (hk : gK cap (L.length + (numT v).length) ≤ k) (hnn : gN cap (L.length + (numT v).length) ≤ n) (h : ∀ w' b', ApX w w' a b b' (ncp cap (L.length + (numT v).length)) (L ++ numT v) → K (some a) w' (k - gK cap (L.length + (numT v).length)) (n - gN cap (L.length + (numT v).length))) : cR g mJ5_append_c97b9 [.ref a, .int v] w k n K := by
  have hal : a < wn w := hW.lt (by rw [hS.1]; decide)
  refine cR_of 4 (gK cap (L.length + (numT v).length)) (gN cap (L.length + (numT v).length)) rfl (by decide +kernel) rfl (Nat.le_of_ble_eq_true rfl) hk hnn ?_
  simp only [vJ5_append_c97b9_0, vJ5_append_c97b9_1, vJ5_append_c97b9_4, vJ5_append_c97b9_5, vJ5_append_c97b9_6, vJ5_append_c97b9_7, pI_c, pL_c, pF_c, pD_c, pA_n, pA_c, pA_rf, pR_c, pR_rf, pV_i, pV_a, pV_n, pV_rf, ldI_c, ldL_c, ldF_c, ldD_c, ldA_c, ldA_n, ldA_rf, dup2_l, dup2_ia, dup2_ir, popA_0, popA_s, getL_z, getL_s, setL_z, setL_1, setL_s, setL2_z, setL2_1, setL2_s, drop2_i, drop2_a, drop2_0, drop2_n, drop2_l, drop2_d, drop2_r, cwd_0, cwd_i, cwd_a, cwd_n, cwd_l, cwd_d, cwd_f, cwd_r, rf_s, rf_n, swi_0, swi_s, zR_b0, zR_b1, zN_b0, zN_b1, entV_i, entV_a, entV_n, entV_r, entV_f, entV_l, entV_d, entV_s, entV_0, List.length_cons, List.length_nil, List.nil_append, List.cons_append, true_and, and_true, Nat.reduceAdd, Nat.reduceLT, Nat.reduceEqDiff, Nat.reduceLeDiff, Nat.reduceSub, Nat.zero_add, Classical.not_not, ex_i, ex_l, ex_d, ex_r, ex_rs, ex_rn, ex_sm, Nat.sub_zero, eq_self, wn_sI, wn_sL, wn_sP, wsh_sI, wsh_sL, wsh_sP, wI_sL, wI_sP, wL_sI, wL_sP, wP_sI, wP_sL, wI_sI, wL_sL, Int32.reduceLT, Int32.reduceLE, true_implies, not_true_eq_false, false_implies, not_false_eq_true, i_10, hS.1, hS.2.2.2.2.1]
  refine J6_stringSize_ok h1 h2 ?_
  simp only [vJ5_append_c97b9_10, vJ5_append_c97b9_11, vJ5_append_c97b9_12, vJ5_append_c97b9_13, vJ5_append_c97b9_14, pI_c, pL_c, pF_c, pD_c, pA_n, pA_c, pA_rf, pR_c, pR_rf, pV_i, pV_a, pV_n, pV_rf, ldI_c, ldL_c, ldF_c, ldD_c, ldA_c, ldA_n, ldA_rf, dup2_l, dup2_ia, dup2_ir, popA_0, popA_s, getL_z, getL_s, setL_z, setL_1, setL_s, setL2_z, setL2_1, setL2_s, drop2_i, drop2_a, drop2_0, drop2_n, drop2_l, drop2_d, drop2_r, cwd_0, cwd_i, cwd_a, cwd_n, cwd_l, cwd_d, cwd_f, cwd_r, rf_s, rf_n, swi_0, swi_s, zR_b0, zR_b1, zN_b0, zN_b1, entV_i, entV_a, entV_n, entV_r, entV_f, entV_l, entV_d, entV_s, entV_0, List.length_cons, List.length_nil, List.nil_append, List.cons_append, true_and, and_true, Nat.reduceAdd, Nat.reduceLT, Nat.reduceEqDiff, Nat.reduceLeDiff, Nat.reduceSub, Nat.zero_add, Classical.not_not, ex_i, ex_l, ex_d, ex_r, ex_rs, ex_rn, ex_sm, Nat.sub_zero, eq_self, wn_sI, wn_sL, wn_sP, wsh_sI, wsh_sL, wsh_sP, wI_sL, wI_sP, wL_sI, wL_sP, wP_sI, wP_sL, wI_sI, wL_sL, Int32.reduceLT, Int32.reduceLE, true_implies, not_true_eq_false, false_implies, not_false_eq_true, i_10, hS.1, ni_add]
  refine J5_ensure_ok hS hg hgw hW hl (Nat.le_refl _) (Nat.le_refl _) fun w1 b1 f1 f2 f3 S1 f5 => ?_
  have hb1 : gB g ≤ b1 := by omega
  have hne := S1.ne
  obtain ⟨n1, n2, n3⟩ := ncp_le (cap := cap) (need := L.length + (numT v).length) hl hS.2.2.2.2.2.2.1
  have C1 : Cn g w1 := hC.kept fun c hc _ => by
    have := f3 c (by omega) (by omega)
    exact ⟨this.1, this.2.1, this.2.2.2⟩
  simp only [vJ5_append_c97b9_17, vJ5_append_c97b9_18, pI_c, pL_c, pF_c, pD_c, pA_n, pA_c, pA_rf, pR_c, pR_rf, pV_i, pV_a, pV_n, pV_rf, ldI_c, ldL_c, ldF_c, ldD_c, ldA_c, ldA_n, ldA_rf, dup2_l, dup2_ia, dup2_ir, popA_0, popA_s, getL_z, getL_s, setL_z, setL_1, setL_s, setL2_z, setL2_1, setL2_s, drop2_i, drop2_a, drop2_0, drop2_n, drop2_l, drop2_d, drop2_r, cwd_0, cwd_i, cwd_a, cwd_n, cwd_l, cwd_d, cwd_f, cwd_r, rf_s, rf_n, swi_0, swi_s, zR_b0, zR_b1, zN_b0, zN_b1, entV_i, entV_a, entV_n, entV_r, entV_f, entV_l, entV_d, entV_s, entV_0, List.length_cons, List.length_nil, List.nil_append, List.cons_append, true_and, and_true, Nat.reduceAdd, Nat.reduceLT, Nat.reduceEqDiff, Nat.reduceLeDiff, Nat.reduceSub, Nat.zero_add, Classical.not_not, ex_i, ex_l, ex_d, ex_r, ex_rs, ex_rn, ex_sm, Nat.sub_zero, eq_self, wn_sI, wn_sL, wn_sP, wsh_sI, wsh_sL, wsh_sP, wI_sL, wI_sP, wL_sI, wL_sP, wP_sI, wP_sL, wI_sI, wL_sL, Int32.reduceLT, Int32.reduceLE, true_implies, not_true_eq_false, false_implies, not_false_eq_true, i_10, S1.1]
  refine J5_isLatin1_ok S1 ?_
  simp only [vJ5_append_c97b9_21, vJ5_append_c97b9_24, vJ5_append_c97b9_25, vJ5_append_c97b9_26, vJ5_append_c97b9_27, vJ5_append_c97b9_30, pI_c, pL_c, pF_c, pD_c, pA_n, pA_c, pA_rf, pR_c, pR_rf, pV_i, pV_a, pV_n, pV_rf, ldI_c, ldL_c, ldF_c, ldD_c, ldA_c, ldA_n, ldA_rf, dup2_l, dup2_ia, dup2_ir, popA_0, popA_s, getL_z, getL_s, setL_z, setL_1, setL_s, setL2_z, setL2_1, setL2_s, drop2_i, drop2_a, drop2_0, drop2_n, drop2_l, drop2_d, drop2_r, cwd_0, cwd_i, cwd_a, cwd_n, cwd_l, cwd_d, cwd_f, cwd_r, rf_s, rf_n, swi_0, swi_s, zR_b0, zR_b1, zN_b0, zN_b1, entV_i, entV_a, entV_n, entV_r, entV_f, entV_l, entV_d, entV_s, entV_0, List.length_cons, List.length_nil, List.nil_append, List.cons_append, true_and, and_true, Nat.reduceAdd, Nat.reduceLT, Nat.reduceEqDiff, Nat.reduceLeDiff, Nat.reduceSub, Nat.zero_add, Classical.not_not, ex_i, ex_l, ex_d, ex_r, ex_rs, ex_rn, ex_sm, Nat.sub_zero, eq_self, wn_sI, wn_sL, wn_sP, wsh_sI, wsh_sL, wsh_sP, wI_sL, wI_sP, wL_sI, wL_sP, wP_sI, wP_sL, wI_sI, wL_sL, Int32.reduceLT, Int32.reduceLE, true_implies, not_true_eq_false, false_implies, not_false_eq_true, i_10, i_10, S1.1, S1.2.2.1]
  obtain ⟨s1, s2, s3, s4, s5, s6, s7, s8, s9⟩ := id S1
  refine J6_getChars_ok C1 hb1 s4 s7 h1 h2 (by omega) n3 fun w2 g1 g2 => ?_
  rw [Nat.add_sub_cancel] at g1 g2
  have qa := g1.same (a := a) fun j z => hne z.1.symm
  have a1 : wsh w2 a = (14, 0) := qa.1.trans s1
  simp only [vJ5_append_c97b9_33, vJ5_append_c97b9_34, vJ5_append_c97b9_48, vJ5_append_c97b9_49, vJ5_append_c97b9_50, vJ5_append_c97b9_53, vJ5_append_c97b9_54, pI_c, pL_c, pF_c, pD_c, pA_n, pA_c, pA_rf, pR_c, pR_rf, pV_i, pV_a, pV_n, pV_rf, ldI_c, ldL_c, ldF_c, ldD_c, ldA_c, ldA_n, ldA_rf, dup2_l, dup2_ia, dup2_ir, popA_0, popA_s, getL_z, getL_s, setL_z, setL_1, setL_s, setL2_z, setL2_1, setL2_s, drop2_i, drop2_a, drop2_0, drop2_n, drop2_l, drop2_d, drop2_r, cwd_0, cwd_i, cwd_a, cwd_n, cwd_l, cwd_d, cwd_f, cwd_r, rf_s, rf_n, swi_0, swi_s, zR_b0, zR_b1, zN_b0, zN_b1, entV_i, entV_a, entV_n, entV_r, entV_f, entV_l, entV_d, entV_s, entV_0, List.length_cons, List.length_nil, List.nil_append, List.cons_append, true_and, and_true, Nat.reduceAdd, Nat.reduceLT, Nat.reduceEqDiff, Nat.reduceLeDiff, Nat.reduceSub, Nat.zero_add, Classical.not_not, ex_i, ex_l, ex_d, ex_r, ex_rs, ex_rn, ex_sm, Nat.sub_zero, eq_self, wn_sI, wn_sL, wn_sP, wsh_sI, wsh_sL, wsh_sP, wI_sL, wI_sP, wL_sI, wL_sP, wP_sI, wP_sL, wI_sI, wL_sL, Int32.reduceLT, Int32.reduceLE, true_implies, not_true_eq_false, false_implies, not_false_eq_true, i_10, a1, hg]
  have r : ∀ x, x ≠ a → Same x w2 (sI w2 a 3 (nI (L.length + (numT v).length))) := fun x hx => sI_same hx
  have rb := r b1 hne
  refine h _ b1 ⟨by rw [wn_sI, g1.n]; exact f1, fun x hx => by rw [wn_sI, g1.n] at hx; rw [wsh_sI, g1.sh]; exact f2 x hx, fun x h1 h2 h3 => ((f3 x h1 h2).tr (g1.same fun j z => by have := z.1; omega)).tr (r x h2), ⟨a1, ?_, ?_, ?_, ?_, ?_, s7, fun i hi => ?_, fun i hi => ?_⟩, f5⟩
  · rw [wI_at, if_neg (by decide), qa.2.1]; exact s2
  · rw [wP_sI, qa.2.2.2]; exact s3
  · rw [wsh_sI, g1.sh]; exact s4
  · rw [wI_at, if_pos rfl, List.length_append]
  · rw [List.length_append]; exact n3
  · rw [List.length_append] at hi
    rw [rb.2.1, Nat.zero_add]
    by_cases z : i < L.length
    · rw [List.getElem?_append_left z, g1.I _ _ (by unfold bwS; omega)]
      have := s8 i z
      rw [Nat.zero_add] at this
      exact this
    · have := g2 (i - L.length) (by omega)
      rw [List.getElem?_append_right (by omega), this, show L.length + (i - L.length) = i by omega]
  · rw [rb.2.1]
    by_cases z : L.length ≤ i ∧ i < L.length + (numT v).length
    · have := g2 (i - L.length) (by omega)
      rw [show L.length + (i - L.length) = i by omega] at this
      exact numT_chr (List.mem_of_getElem? this)
    · rw [g1.I _ _ (by unfold bwS; omega)]
      exact s9 i hi
set_option maxRecDepth 100000 in
set_option maxHeartbeats 4000000 in
theorem J4_appendI_ok {g : Ge} {w : Wd} {k n : Nat} {K : Option Nat → Wd → Nat → Nat → Prop} {a b cap : Nat} {v : Int32} {L : List Int32} (hC : Cn g w) (hS : SBX w a b cap L) (hg : gB g ≤ a) (hgb : gB g ≤ b) (hgw : gB g ≤ wn w) (hW : WF w) (h1 : -999999 ≤ v.toInt) (h2 : v.toInt ≤ 999999) (hl : L.length + (numT v).length ≤ 240) (hk : gK cap (L.length + (numT v).length) ≤ k) (hnn : gN cap (L.length + (numT v).length) ≤ n) (h : ∀ w' b', ApX w w' a b b' (ncp cap (L.length + (numT v).length)) (L ++ numT v) → K (some a) w' (k - gK cap (L.length + (numT v).length)) (n - gN cap (L.length + (numT v).length))) : cR g mJ4_append_bf812 [.ref a, .int v] w k n K := by
  refine cR_of 2 (gK cap (L.length + (numT v).length)) (gN cap (L.length + (numT v).length)) rfl (by decide +kernel) rfl (Nat.le_of_ble_eq_true rfl) hk hnn ?_
  simp only [vJ4_append_bf812_0, vJ4_append_bf812_1, vJ4_append_bf812_2, pI_c, pL_c, pF_c, pD_c, pA_n, pA_c, pA_rf, pR_c, pR_rf, pV_i, pV_a, pV_n, pV_rf, ldI_c, ldL_c, ldF_c, ldD_c, ldA_c, ldA_n, ldA_rf, dup2_l, dup2_ia, dup2_ir, popA_0, popA_s, getL_z, getL_s, setL_z, setL_1, setL_s, setL2_z, setL2_1, setL2_s, drop2_i, drop2_a, drop2_0, drop2_n, drop2_l, drop2_d, drop2_r, cwd_0, cwd_i, cwd_a, cwd_n, cwd_l, cwd_d, cwd_f, cwd_r, rf_s, rf_n, swi_0, swi_s, zR_b0, zR_b1, zN_b0, zN_b1, entV_i, entV_a, entV_n, entV_r, entV_f, entV_l, entV_d, entV_s, entV_0, List.length_cons, List.length_nil, List.nil_append, List.cons_append, true_and, and_true, Nat.reduceAdd, Nat.reduceLT, Nat.reduceEqDiff, Nat.reduceLeDiff, Nat.reduceSub, Nat.zero_add, Classical.not_not, ex_i, ex_l, ex_d, ex_r, ex_rs, ex_rn, ex_sm, Nat.sub_zero, eq_self, wn_sI, wn_sL, wn_sP, wsh_sI, wsh_sL, wsh_sP, wI_sL, wI_sP, wL_sI, wL_sP, wP_sI, wP_sL, wI_sI, wL_sL, Int32.reduceLT, Int32.reduceLE, true_implies, not_true_eq_false, false_implies, not_false_eq_true, i_10, hS.1]
  refine J5_appendI_ok hC hS hg hgb hgw hW h1 h2 hl (Nat.le_refl _) (Nat.le_refl _) fun w' b' h1 => ?_
  simp only [vJ4_append_bf812_5, vJ4_append_bf812_6, vJ4_append_bf812_7, pI_c, pL_c, pF_c, pD_c, pA_n, pA_c, pA_rf, pR_c, pR_rf, pV_i, pV_a, pV_n, pV_rf, ldI_c, ldL_c, ldF_c, ldD_c, ldA_c, ldA_n, ldA_rf, dup2_l, dup2_ia, dup2_ir, popA_0, popA_s, getL_z, getL_s, setL_z, setL_1, setL_s, setL2_z, setL2_1, setL2_s, drop2_i, drop2_a, drop2_0, drop2_n, drop2_l, drop2_d, drop2_r, cwd_0, cwd_i, cwd_a, cwd_n, cwd_l, cwd_d, cwd_f, cwd_r, rf_s, rf_n, swi_0, swi_s, zR_b0, zR_b1, zN_b0, zN_b1, entV_i, entV_a, entV_n, entV_r, entV_f, entV_l, entV_d, entV_s, entV_0, List.length_cons, List.length_nil, List.nil_append, List.cons_append, true_and, and_true, Nat.reduceAdd, Nat.reduceLT, Nat.reduceEqDiff, Nat.reduceLeDiff, Nat.reduceSub, Nat.zero_add, Classical.not_not, ex_i, ex_l, ex_d, ex_r, ex_rs, ex_rn, ex_sm, Nat.sub_zero, eq_self, wn_sI, wn_sL, wn_sP, wsh_sI, wsh_sL, wsh_sP, wI_sL, wI_sP, wL_sI, wL_sP, wP_sI, wP_sL, wI_sI, wL_sL, Int32.reduceLT, Int32.reduceLE, true_implies, not_true_eq_false, false_implies, not_false_eq_true, i_10]
  exact h w' b' h1
