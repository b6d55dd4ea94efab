/-! the class: a frame stands, or not -/
theorem shl_or (h l : Nat) (hh : h ≤ 255) (hl : l ≤ 255) : (nI h <<< ((8 : Int32) &&& 31)) ||| nI l = nI (256 * h + l) := by
  have e8 : ((8 : Int32) &&& 31) = 8 := by decide
  have es : (Int32.toBitVec 8).smod 32 = 8#32 := by decide
  rw [e8]
  apply Int32.toBitVec_inj.mp
  apply BitVec.eq_of_toNat_eq
  have t : ∀ n, n < 4294967296 → (nI n).toBitVec.toNat = n := fun n hn => Nat.mod_eq_of_lt hn
  rw [Int32.toBitVec_or, BitVec.toNat_or, Int32.toBitVec_shiftLeft, es, BitVec.shiftLeft_eq', BitVec.toNat_shiftLeft, t h (by omega), t l (by omega), t _ (by omega)]
  have e2 : (8#32 : BitVec 32).toNat = 8 := rfl
  rw [e2, Nat.mod_eq_of_lt (by rw [Nat.shiftLeft_eq]; omega), ← Nat.shiftLeft_add_eq_or_of_lt (by omega), Nat.shiftLeft_eq]
  omega
theorem and_n (y : Int32) : ∃ c, c < 65536 ∧ y &&& 65535 = nI c := by
  have h : ∀ b : BitVec 32, ∃ c, c < 65536 ∧ b &&& 65535#32 = BitVec.ofNat 32 c := fun b => ⟨(b &&& 65535#32).toNat, by rw [BitVec.toNat_and]; exact Nat.lt_succ_of_le Nat.and_le_right, by rw [BitVec.ofNat_toNat, BitVec.setWidth_eq]⟩
  obtain ⟨c, h1, h2⟩ := h y.toBitVec
  exact ⟨c, h1, Int32.toBitVec_inj.mp h2⟩
theorem n_hi (c : Nat) (hc : c < 65536) : nI c >>> ((8 : Int32) &&& 31) = nI (c / 256) := by
  have e8 : ((8 : Int32) &&& 31) = 8 := by decide
  have es : (Int32.toBitVec 8).smod 32 = 8#32 := by decide
  rw [e8]
  apply Int32.toBitVec_inj.mp
  apply BitVec.eq_of_toNat_eq
  have t : ∀ n, n < 4294967296 → (nI n).toBitVec.toNat = n := fun n hn => Nat.mod_eq_of_lt hn
  have hm : (nI c).toBitVec.msb = false := by rw [BitVec.msb_eq_decide, t c (by omega)]; exact decide_eq_false (by omega)
  rw [Int32.toBitVec_shiftRight, es, BitVec.sshiftRight_eq', BitVec.sshiftRight_eq_of_msb_false hm, BitVec.toNat_ushiftRight, t c (by omega), t _ (by omega)]
  exact Nat.shiftRight_eq_div_pow c 8
theorem n_lo (c : Nat) (hc : c < 65536) : nI c &&& 255 = nI (c % 256) := by
  apply Int32.toBitVec_inj.mp
  apply BitVec.eq_of_toNat_eq
  have t : ∀ n, n < 4294967296 → (nI n).toBitVec.toNat = n := fun n hn => Nat.mod_eq_of_lt hn
  rw [Int32.toBitVec_and, BitVec.toNat_and, t c (by omega), t _ (by omega)]
  exact Nat.and_two_pow_sub_one_eq_mod c 8
theorem sum_eq {h l : Nat} (hh : h ≤ 255) (hl : l ≤ 255) (y : Int32) : ((nI h <<< ((8 : Int32) &&& 31)) ||| nI l = y &&& 65535) ↔ (nI h = (y >>> ((8 : Int32) &&& 31)) &&& 255 ∧ nI l = y &&& 255) := by
  obtain ⟨c, hc, e⟩ := and_n y
  rw [← sum_hi y, ← sum_lo y, e, shl_or h l hh hl, n_hi c hc, n_lo c hc, ni_eq (by omega) (by omega), ni_eq (by omega) (by omega), ni_eq (by omega) (by omega)]
  omega
/-- only the scratch and the bytes that a frame reads have changed -/
def Sc (x : Nat) (w w' : Wd) : Prop := wn w' = wn w ∧ wsh w' = wsh w ∧ (∀ a, (a < x + 6 ∨ x + 36 ≤ a) → Same a w w') ∧ ∀ a j, ¬ (a = x + 12 ∧ j = 9) → wP w' a j = wP w a j
theorem Sc.rf {x : Nat} {w : Wd} : Sc x w w := ⟨rfl, rfl, fun _ _ => Same.rf, fun _ _ _ => rfl⟩
theorem Sc.tr {x : Nat} {w w1 w2 : Wd} (h1 : Sc x w w1) (h2 : Sc x w1 w2) : Sc x w w2 := ⟨h2.1.trans h1.1, h2.2.1.trans h1.2.1, fun a ha => (h1.2.2.1 a ha).tr (h2.2.2.1 a ha), fun a j n => (h2.2.2.2 a j n).trans (h1.2.2.2 a j n)⟩
theorem Fr.sc {S : Nat → Nat → Prop} {x : Nat} {w w' : Wd} (h : Fr S w w') (hs : ∀ a j, S a j → x + 6 ≤ a ∧ a ≤ x + 35) : Sc x w w' := ⟨h.n, h.sh, fun a ha => h.same fun j z => by have := hs a j z; omega, fun a j _ => by rw [h.P]⟩
theorem xpT9 : ∀ q ∈ xpT, ¬ (q.1 = 12 ∧ q.2.1 = 9) := by decide +kernel
theorem XS.sc {g : Ge} {x : Nat} {w w' : Wd} (h : XS g x w) (hs : Sc x w w') : XS g x w' := h.sm (fun o _ => by rw [hs.2.1]) fun q hq => hs.2.2.2 _ _ fun z => xpT9 q hq ⟨by omega, z.2⟩
theorem CI.sc {g : Ge} {x : Nat} {w w' : Wd} {s : St} (h : CI g x w s) (hs : Sc x w w') : CI g x w' s := by
  obtain ⟨hx, hC, hW, hw, hA⟩ := h
  refine ⟨hx.sc hs, hC.kept fun a ha _ => ?_, fun a ha => ?_, by rw [hs.1]; exact hw, hA.ro hx (fun a ha _ => hs.2.2.1 a ha) Bt.rf⟩
  · have := hs.2.2.1 a (Or.inl (by have := hx.1; omega))
    exact ⟨this.1, this.2.1, this.2.2.2⟩
  · rw [hs.1] at ha
    rw [hs.2.1]
    exact hW a ha
theorem Sc.xo {g : Ge} {x : Nat} {w w' : Wd} (hs : Sc x w w') (hx : XS g x w) (hW : WF w) : Xo g x w w' := ⟨Nat.le_of_eq hs.1.symm, fun a ha => by
  rw [hs.1] at ha
  rw [hs.2.1]
  exact hW a ha, hx.sc hs, fun a ha => hs.2.2.1 a (by omega)⟩
theorem sc_end {g : Ge} {x : Nat} {w w' : Wd} {s : St} {Sp : Int32 → St → Prop} {ans : Int32} {k n : Nat} {K : Int32 → Wd → Nat → Nat → Prop} (hI : CI g x w s) (hf : Sc x w w') (h : ∀ ans w', Xo g x w w' → (∀ b s', Sp b s' → b = ans ∧ AbsX x w' s') → K ans w' k n) (hs : ∀ b s', Sp b s' → b = ans ∧ Bt none2 s s') : K ans w' k n := by
  obtain ⟨hx, hC, hW, hw, hA⟩ := id hI
  refine h _ _ (hf.xo hx hW) fun b s' z => ?_
  obtain ⟨z1, z2⟩ := hs b s' z
  exact ⟨z1, hA.ro hx (fun a ha _ => hf.2.2.1 a ha) z2⟩
theorem VerO.same {b a c n v : Nat} {w w' : Wd} {s : St} (h : VerO b w a c n v s) (hs : ∀ a, b ≤ a → Same a w w') : VerO b w' a c n v s := by
  obtain ⟨h1, h2, h3, h4, h5, h6, h7, h8, h9, h10⟩ := h
  refine ⟨h1, h2, h3, h4, (hs a h4).1.trans h5, by rw [(hs a h4).2.1]; exact h6, h7, by rw [(hs a h4).2.2.2]; exact h8, (hs c h7).1.trans h9, fun k hk => ?_⟩
  obtain ⟨d, d1, d2, d3, d4⟩ := h10 k hk
  exact ⟨d, d1, by rw [(hs c h7).2.2.2]; exact d2, (hs d d1).1.trans d3, fun j hj => by rw [(hs d d1).2.1]; exact d4 j hj⟩
theorem VerO.sc {x a c n v : Nat} {w w' : Wd} {s : St} (h : VerO (x + 81) w a c n v s) (hs : Sc x w w') : VerO (x + 81) w' a c n v s := h.same fun a ha => hs.2.2.1 a (by omega)
def bP (x : Nat) (w : Wd) (B : Nat) : Wd := sP w (x + 12) 9 (some B)
theorem bP_sc {x B : Nat} {w : Wd} : Sc x w (bP x w B) := ⟨rfl, rfl, fun a ha => sP_same (by omega), fun a j n => by
  unfold bP
  rw [wP_sP]
  unfold up2
  rw [if_neg n]⟩
def bdX (x a j : Nat) : Prop := (a = x + 12 ∧ (j ≤ 1 ∨ 10 ≤ j)) ∨ (x + 13 ≤ a ∧ a ≤ x + 32)
set_option maxRecDepth 100000 in
set_option maxHeartbeats 4000000 in
theorem X2_reads_ok {g : Ge} {w : Wd} {k n : Nat} {K : Int32 → Wd → Nat → Nat → Prop} {x a e B cap nn v A c : Nat} {b : Nat → Nat} {s : St} (hx : XS g x w) (hB : B = x + 4 ∨ B = x + 8) (hsh : wsh w B = (100, cap)) (he : e ≤ cap) (hcap : cap ≤ 2000) (hby : ∀ i, i < e → wI w B i = nI (b i) ∧ b i ≤ 255) (hae : a ≤ e) (hV : VerO (x + 81) w A c nn v s) (h1 : ∀ y w', rdBody b e (FV s v) nn a = .inl y → Fr (bdX x) (bP x w B) w' → LsX x w' y → K 0 w' k n) (h0 : ∀ p L w', rdBody b e (FV s v) nn a = .inr (p, L) → p < 256 → Fr (bdX x) (bP x w B) w' → wI w' (x + 12) 0 = 0 → PrX x w' p 8 → GotX x w' L → K 1 w' k n) : cI g mX2_reads [.ref (x + 12), .ref A, .ref B, .int (nI a), .int (nI e)] w k n K := by
  have hn8 := hV.n8
  have i1 : ¬ (1 : Int32) = 0 := by decide
  have s0 : (0 : Int32) = nI 0 := rfl
  refine cI_of 7 0 0 rfl (by decide +kernel) rfl (Nat.le_of_ble_eq_true rfl) (Nat.zero_le _) (Nat.zero_le _) ?_
  have hxB := hx.sc (bP_sc (B := B))
  have hVB := hV.sc (bP_sc (x := x) (B := B) (w := w))
  have go : ∀ w1, Fr (bdX x) (bP x w B) w1 → wI w1 (x + 12) 10 = nI a → wI w1 (x + 12) 11 = nI e → wI w1 (x + 12) 0 = 0 → R g mX2_reads (fun r w' => ∃ i, r = some (.int i) ∧ K i w' k n) 21 [some (.ref (x + 12)), some (.ref A), some (.ref B), some (.int (nI a)), some (.int (nI e)), none, none] [] w1 0 0 := by
    intro w1 f1 a1 e1 z1
    have hx1 := hxB.fr f1
    have hV1 := hVB.fr f1 fun a j z => by unfold bdX at z; omega
    have hR1 : RdX x w1 B b e := by
      refine ⟨cap, ?_, by rw [f1.sh]; exact hsh, he, hcap, e1, hB, fun i hi => ?_⟩
      · rw [f1.P]
        exact wP_at.trans (if_pos rfl)
      · rw [f1.I _ _ (by unfold bdX; omega)]
        exact hby i hi
    unfold rdBody at h1 h0
    simp (disch := omega) only [vX2_reads_21, vX2_reads_22, vX2_reads_23, xs_b hx1, xs_0 hx1, xs_obj hx1, xs_seen hx1, xp_x_6 hx1, pI_c, pL_c, pF_c, pD_c, pA_n, pA_c, pA_rf, pR_c, pR_rf, pV_i, pV_a, pV_n, pV_rf, ldI_c, ldL_c, ldF_c, ldD_c, ldA_c, ldA_n, ldA_rf, dup2_l, dup2_ia, dup2_ir, popA_0, popA_s, getL_z, getL_s, setL_z, setL_1, setL_s, setL2_z, setL2_1, setL2_s, drop2_i, drop2_a, drop2_0, drop2_n, drop2_l, drop2_d, drop2_r, cwd_0, cwd_i, cwd_a, cwd_n, cwd_l, cwd_d, cwd_f, cwd_r, rf_s, rf_n, swi_0, swi_s, zR_b0, zR_b1, zN_b0, zN_b1, entV_i, entV_a, entV_n, entV_r, entV_f, entV_l, entV_d, entV_s, entV_0, List.length_cons, List.length_nil, List.nil_append, List.cons_append, true_and, and_true, Nat.reduceAdd, Nat.reduceLT, Nat.reduceEqDiff, Nat.reduceLeDiff, Nat.reduceSub, Nat.zero_add, Classical.not_not, ex_i, ex_l, ex_d, ex_r, ex_rs, ex_rn, ex_sm, Nat.sub_zero, eq_self, wn_sI, wn_sL, wn_sP, wsh_sI, wsh_sL, wsh_sP, wI_sL, wI_sP, wL_sI, wL_sP, wP_sI, wP_sL, wI_sI, wL_sL, Int32.reduceLT, Int32.reduceLE, true_implies, not_true_eq_false, false_implies, not_false_eq_true, i_10, na_1, nb_1, nm_1, ns_1, nr_1, na_2, nb_2, nm_2, ns_2, nr_2, na_3, nb_3, nm_3, ns_3, nr_3, na_4, nb_4, nm_4, ns_4, nr_4, na_5, nb_5, nm_5, ns_5, nr_5, na_6, nb_6, nm_6, ns_6, nr_6, na_7, nb_7, nm_7, ns_7, nr_7, na_8, nb_8, nm_8, ns_8, nr_8, na_10, nb_10, nm_10, ns_10, nr_10, na_16, nb_16, nm_16, ns_16, nr_16, nl_m1, ni_add, ni_mul, ni_sub, ni_cl, ni_in, vp_0, vp_1, vp_2, vp_3, vp_4, vp_5, Int32.reduceToNatClampNeg]
    refine X2_readsPresent_ok hx1 hR1 a1 hae hV1 (fun y w2 q f2 l2 => ?_) (fun q q2 q3 w2 f2 a2 p2 => ?_)
    · simp (disch := omega) only [vX2_reads_26, vX2_reads_29, vX2_reads_30, pI_c, pL_c, pF_c, pD_c, pA_n, pA_c, pA_rf, pR_c, pR_rf, pV_i, pV_a, pV_n, pV_rf, ldI_c, ldL_c, ldF_c, ldD_c, ldA_c, ldA_n, ldA_rf, dup2_l, dup2_ia, dup2_ir, popA_0, popA_s, getL_z, getL_s, setL_z, setL_1, setL_s, setL2_z, setL2_1, setL2_s, drop2_i, drop2_a, drop2_0, drop2_n, drop2_l, drop2_d, drop2_r, cwd_0, cwd_i, cwd_a, cwd_n, cwd_l, cwd_d, cwd_f, cwd_r, rf_s, rf_n, swi_0, swi_s, zR_b0, zR_b1, zN_b0, zN_b1, entV_i, entV_a, entV_n, entV_r, entV_f, entV_l, entV_d, entV_s, entV_0, List.length_cons, List.length_nil, List.nil_append, List.cons_append, true_and, and_true, Nat.reduceAdd, Nat.reduceLT, Nat.reduceEqDiff, Nat.reduceLeDiff, Nat.reduceSub, Nat.zero_add, Classical.not_not, ex_i, ex_l, ex_d, ex_r, ex_rs, ex_rn, ex_sm, Nat.sub_zero, eq_self, wn_sI, wn_sL, wn_sP, wsh_sI, wsh_sL, wsh_sP, wI_sL, wI_sP, wL_sI, wL_sP, wP_sI, wP_sL, wI_sI, wL_sL, Int32.reduceLT, Int32.reduceLE, true_implies, not_true_eq_false, false_implies, not_false_eq_true, i_10]
      refine h1 y w2 ?_ (f1.tr (f2.mo fun a j z => by unfold prL reX at z; unfold bdX; omega)) l2
      rcases q with ⟨q, rfl⟩ | ⟨q, q2, rfl⟩
      · rw [if_pos q]
      · rw [if_neg (by omega)]
        by_cases q3 : b a / 2 ^ nn = 0
        · rw [if_neg (not_not_intro q3), if_pos (q2.resolve_left (not_not_intro q3))]
        · rw [if_pos q3]
    · have hb := rdX_w hR1 q
      rw [if_neg (by omega), if_neg (not_not_intro q2), if_neg q3] at h1 h0
      have hx2 := hx1.fr f2
      have hR2 : RdX x w2 B b e := hR1.fr f2 fun a j z => by unfold prG curX at z; omega
      have hV2 := hV1.fr f2 fun a j z => by unfold prG curX at z; omega
      have F2 : Fr (bdX x) (bP x w B) w2 := f1.tr (f2.mo fun a j z => by unfold prG curX at z; unfold bdX; omega)
      simp (disch := omega) only [vX2_reads_26, vX2_reads_31, vX2_reads_32, pI_c, pL_c, pF_c, pD_c, pA_n, pA_c, pA_rf, pR_c, pR_rf, pV_i, pV_a, pV_n, pV_rf, ldI_c, ldL_c, ldF_c, ldD_c, ldA_c, ldA_n, ldA_rf, dup2_l, dup2_ia, dup2_ir, popA_0, popA_s, getL_z, getL_s, setL_z, setL_1, setL_s, setL2_z, setL2_1, setL2_s, drop2_i, drop2_a, drop2_0, drop2_n, drop2_l, drop2_d, drop2_r, cwd_0, cwd_i, cwd_a, cwd_n, cwd_l, cwd_d, cwd_f, cwd_r, rf_s, rf_n, swi_0, swi_s, zR_b0, zR_b1, zN_b0, zN_b1, entV_i, entV_a, entV_n, entV_r, entV_f, entV_l, entV_d, entV_s, entV_0, List.length_cons, List.length_nil, List.nil_append, List.cons_append, true_and, and_true, Nat.reduceAdd, Nat.reduceLT, Nat.reduceEqDiff, Nat.reduceLeDiff, Nat.reduceSub, Nat.zero_add, Classical.not_not, ex_i, ex_l, ex_d, ex_r, ex_rs, ex_rn, ex_sm, Nat.sub_zero, eq_self, wn_sI, wn_sL, wn_sP, wsh_sI, wsh_sL, wsh_sP, wI_sL, wI_sP, wL_sI, wL_sP, wP_sI, wP_sL, wI_sI, wL_sL, Int32.reduceLT, Int32.reduceLE, true_implies, not_true_eq_false, false_implies, not_false_eq_true, i_10, i1]
      rw [s0]
      refine X2_fields_loop hb nn 0 (a + 1) w2 none [] (by omega) rfl hx2 hR2 a2 (by omega) hV2 p2 (fun k C hk => by cases hk) (Or.inl rfl) (fun y w3 r1 f3 l3 => ?_) (fun L c2 w3 o6 r1 f3 a3 c3 g3 => ?_)
      · exact ⟨_, rfl, h1 y w3 (by rw [r1]) (F2.tr (f3.mo fun a j z => by unfold rsL reX at z; unfold bdX; omega)) l3⟩
      · simp only [r1] at h1 h0
        have e5 := (Rd5 hR1).1
        have F3 : Fr (bdX x) (bP x w B) w3 := F2.tr (f3.mo fun a j z => by unfold rsG rvX at z; unfold bdX; omega)
        have hx3 := hx2.fr f3
        have e3 : wI w3 (x + 12) 11 = nI e := (f3.I _ _ (by unfold rsG rvX; omega)).trans ((f2.I _ _ (by unfold prG curX; omega)).trans e1)
        have z3 : wI w3 (x + 12) 0 = 0 := (f3.I _ _ (by unfold rsG rvX; omega)).trans ((f2.I _ _ (by unfold prG curX; omega)).trans z1)
        simp (disch := omega) only [vX2_reads_92, vX2_reads_93, vX2_reads_96, vX2_reads_97, vX2_reads_100, xs_b hx3, xs_0 hx3, xs_obj hx3, xs_seen hx3, xp_x_6 hx3, pI_c, pL_c, pF_c, pD_c, pA_n, pA_c, pA_rf, pR_c, pR_rf, pV_i, pV_a, pV_n, pV_rf, ldI_c, ldL_c, ldF_c, ldD_c, ldA_c, ldA_n, ldA_rf, dup2_l, dup2_ia, dup2_ir, popA_0, popA_s, getL_z, getL_s, setL_z, setL_1, setL_s, setL2_z, setL2_1, setL2_s, drop2_i, drop2_a, drop2_0, drop2_n, drop2_l, drop2_d, drop2_r, cwd_0, cwd_i, cwd_a, cwd_n, cwd_l, cwd_d, cwd_f, cwd_r, rf_s, rf_n, swi_0, swi_s, zR_b0, zR_b1, zN_b0, zN_b1, entV_i, entV_a, entV_n, entV_r, entV_f, entV_l, entV_d, entV_s, entV_0, List.length_cons, List.length_nil, List.nil_append, List.cons_append, true_and, and_true, Nat.reduceAdd, Nat.reduceLT, Nat.reduceEqDiff, Nat.reduceLeDiff, Nat.reduceSub, Nat.zero_add, Classical.not_not, ex_i, ex_l, ex_d, ex_r, ex_rs, ex_rn, ex_sm, Nat.sub_zero, eq_self, wn_sI, wn_sL, wn_sP, wsh_sI, wsh_sL, wsh_sP, wI_sL, wI_sP, wL_sI, wL_sP, wP_sI, wP_sL, wI_sI, wL_sL, Int32.reduceLT, Int32.reduceLE, true_implies, not_true_eq_false, false_implies, not_false_eq_true, i_10, na_1, nb_1, nm_1, ns_1, nr_1, na_2, nb_2, nm_2, ns_2, nr_2, na_3, nb_3, nm_3, ns_3, nr_3, na_4, nb_4, nm_4, ns_4, nr_4, na_5, nb_5, nm_5, ns_5, nr_5, na_6, nb_6, nm_6, ns_6, nr_6, na_7, nb_7, nm_7, ns_7, nr_7, na_8, nb_8, nm_8, ns_8, nr_8, na_10, nb_10, nm_10, ns_10, nr_10, na_16, nb_16, nm_16, ns_16, nr_16, nl_m1, ni_add, ni_mul, ni_sub, ni_cl, ni_in, vp_0, vp_1, vp_2, vp_3, vp_4, vp_5, Int32.reduceToNatClampNeg, ni_le, ni_lt, ni_eq, ni_le1, ni_le0, ni_eq0, ni_eq1, ni_eq2, ni_eq8, ni_eq9, a3, e3]
        refine ⟨fun q4 => ?_, fun q4 => ?_⟩
        · rw [if_neg (by omega)] at h0
          simp (disch := omega) only [vX2_reads_116, vX2_reads_117, vX2_reads_120, vX2_reads_121, pI_c, pL_c, pF_c, pD_c, pA_n, pA_c, pA_rf, pR_c, pR_rf, pV_i, pV_a, pV_n, pV_rf, ldI_c, ldL_c, ldF_c, ldD_c, ldA_c, ldA_n, ldA_rf, dup2_l, dup2_ia, dup2_ir, popA_0, popA_s, getL_z, getL_s, setL_z, setL_1, setL_s, setL2_z, setL2_1, setL2_s, drop2_i, drop2_a, drop2_0, drop2_n, drop2_l, drop2_d, drop2_r, cwd_0, cwd_i, cwd_a, cwd_n, cwd_l, cwd_d, cwd_f, cwd_r, rf_s, rf_n, swi_0, swi_s, zR_b0, zR_b1, zN_b0, zN_b1, entV_i, entV_a, entV_n, entV_r, entV_f, entV_l, entV_d, entV_s, entV_0, List.length_cons, List.length_nil, List.nil_append, List.cons_append, true_and, and_true, Nat.reduceAdd, Nat.reduceLT, Nat.reduceEqDiff, Nat.reduceLeDiff, Nat.reduceSub, Nat.zero_add, Classical.not_not, ex_i, ex_l, ex_d, ex_r, ex_rs, ex_rn, ex_sm, Nat.sub_zero, eq_self, wn_sI, wn_sL, wn_sP, wsh_sI, wsh_sL, wsh_sP, wI_sL, wI_sP, wL_sI, wL_sP, wP_sI, wP_sL, wI_sI, wL_sL, Int32.reduceLT, Int32.reduceLE, true_implies, not_true_eq_false, false_implies, not_false_eq_true, i_10]
          exact h0 _ _ w3 rfl (by omega) F3 z3 (fun k hk => (f3.I _ _ (by unfold rsG rvX; omega)).trans (p2 k hk)) g3
        · rw [if_pos (by omega)] at h1
          simp (disch := omega) only [vX2_reads_103, vX2_reads_104, vX2_reads_106, vX2_reads_107, vX2_reads_110, xs_b hx3, xs_0 hx3, xs_obj hx3, xs_seen hx3, xp_x_6 hx3, pI_c, pL_c, pF_c, pD_c, pA_n, pA_c, pA_rf, pR_c, pR_rf, pV_i, pV_a, pV_n, pV_rf, ldI_c, ldL_c, ldF_c, ldD_c, ldA_c, ldA_n, ldA_rf, dup2_l, dup2_ia, dup2_ir, popA_0, popA_s, getL_z, getL_s, setL_z, setL_1, setL_s, setL2_z, setL2_1, setL2_s, drop2_i, drop2_a, drop2_0, drop2_n, drop2_l, drop2_d, drop2_r, cwd_0, cwd_i, cwd_a, cwd_n, cwd_l, cwd_d, cwd_f, cwd_r, rf_s, rf_n, swi_0, swi_s, zR_b0, zR_b1, zN_b0, zN_b1, entV_i, entV_a, entV_n, entV_r, entV_f, entV_l, entV_d, entV_s, entV_0, List.length_cons, List.length_nil, List.nil_append, List.cons_append, true_and, and_true, Nat.reduceAdd, Nat.reduceLT, Nat.reduceEqDiff, Nat.reduceLeDiff, Nat.reduceSub, Nat.zero_add, Classical.not_not, ex_i, ex_l, ex_d, ex_r, ex_rs, ex_rn, ex_sm, Nat.sub_zero, eq_self, wn_sI, wn_sL, wn_sP, wsh_sI, wsh_sL, wsh_sP, wI_sL, wI_sP, wL_sI, wL_sP, wP_sI, wP_sL, wI_sI, wL_sL, Int32.reduceLT, Int32.reduceLE, true_implies, not_true_eq_false, false_implies, not_false_eq_true, i_10, na_1, nb_1, nm_1, ns_1, nr_1, na_2, nb_2, nm_2, ns_2, nr_2, na_3, nb_3, nm_3, ns_3, nr_3, na_4, nb_4, nm_4, ns_4, nr_4, na_5, nb_5, nm_5, ns_5, nr_5, na_6, nb_6, nm_6, ns_6, nr_6, na_7, nb_7, nm_7, ns_7, nr_7, na_8, nb_8, nm_8, ns_8, nr_8, na_10, nb_10, nm_10, ns_10, nr_10, na_16, nb_16, nm_16, ns_16, nr_16, nl_m1, ni_add, ni_mul, ni_sub, ni_cl, ni_in, vp_0, vp_1, vp_2, vp_3, vp_4, vp_5, Int32.reduceToNatClampNeg, a3]
          rw [show (7 : Int32) = nI 7 from rfl]
          refine X2_loses_ok hx3 7 c2 fun w4 f4 l4 => ?_
          simp (disch := omega) only [vX2_reads_113, vX2_reads_120, vX2_reads_121, pI_c, pL_c, pF_c, pD_c, pA_n, pA_c, pA_rf, pR_c, pR_rf, pV_i, pV_a, pV_n, pV_rf, ldI_c, ldL_c, ldF_c, ldD_c, ldA_c, ldA_n, ldA_rf, dup2_l, dup2_ia, dup2_ir, popA_0, popA_s, getL_z, getL_s, setL_z, setL_1, setL_s, setL2_z, setL2_1, setL2_s, drop2_i, drop2_a, drop2_0, drop2_n, drop2_l, drop2_d, drop2_r, cwd_0, cwd_i, cwd_a, cwd_n, cwd_l, cwd_d, cwd_f, cwd_r, rf_s, rf_n, swi_0, swi_s, zR_b0, zR_b1, zN_b0, zN_b1, entV_i, entV_a, entV_n, entV_r, entV_f, entV_l, entV_d, entV_s, entV_0, List.length_cons, List.length_nil, List.nil_append, List.cons_append, true_and, and_true, Nat.reduceAdd, Nat.reduceLT, Nat.reduceEqDiff, Nat.reduceLeDiff, Nat.reduceSub, Nat.zero_add, Classical.not_not, ex_i, ex_l, ex_d, ex_r, ex_rs, ex_rn, ex_sm, Nat.sub_zero, eq_self, wn_sI, wn_sL, wn_sP, wsh_sI, wsh_sL, wsh_sP, wI_sL, wI_sP, wL_sI, wL_sP, wP_sI, wP_sL, wI_sI, wL_sL, Int32.reduceLT, Int32.reduceLE, true_implies, not_true_eq_false, false_implies, not_false_eq_true, i_10]
          exact h1 _ w4 rfl (F3.tr (f4.mo fun a j z => by unfold losX at z; unfold bdX; omega)) l4
  simp (disch := omega) only [vX2_reads_0, vX2_reads_1, vX2_reads_2, vX2_reads_5, vX2_reads_6, vX2_reads_7, vX2_reads_10, vX2_reads_11, vX2_reads_13, vX2_reads_16, vX2_reads_17, vX2_reads_18, xs_b hx, xs_0 hx, xs_obj hx, xs_seen hx, xp_x_6 hx, pI_c, pL_c, pF_c, pD_c, pA_n, pA_c, pA_rf, pR_c, pR_rf, pV_i, pV_a, pV_n, pV_rf, ldI_c, ldL_c, ldF_c, ldD_c, ldA_c, ldA_n, ldA_rf, dup2_l, dup2_ia, dup2_ir, popA_0, popA_s, getL_z, getL_s, setL_z, setL_1, setL_s, setL2_z, setL2_1, setL2_s, drop2_i, drop2_a, drop2_0, drop2_n, drop2_l, drop2_d, drop2_r, cwd_0, cwd_i, cwd_a, cwd_n, cwd_l, cwd_d, cwd_f, cwd_r, rf_s, rf_n, swi_0, swi_s, zR_b0, zR_b1, zN_b0, zN_b1, entV_i, entV_a, entV_n, entV_r, entV_f, entV_l, entV_d, entV_s, entV_0, List.length_cons, List.length_nil, List.nil_append, List.cons_append, true_and, and_true, Nat.reduceAdd, Nat.reduceLT, Nat.reduceEqDiff, Nat.reduceLeDiff, Nat.reduceSub, Nat.zero_add, Classical.not_not, ex_i, ex_l, ex_d, ex_r, ex_rs, ex_rn, ex_sm, Nat.sub_zero, eq_self, wn_sI, wn_sL, wn_sP, wsh_sI, wsh_sL, wsh_sP, wI_sL, wI_sP, wL_sI, wL_sP, wP_sI, wP_sL, wI_sI, wL_sL, Int32.reduceLT, Int32.reduceLE, true_implies, not_true_eq_false, false_implies, not_false_eq_true, i_10, na_1, nb_1, nm_1, ns_1, nr_1, na_2, nb_2, nm_2, ns_2, nr_2, na_3, nb_3, nm_3, ns_3, nr_3, na_4, nb_4, nm_4, ns_4, nr_4, na_5, nb_5, nm_5, ns_5, nr_5, na_6, nb_6, nm_6, ns_6, nr_6, na_7, nb_7, nm_7, ns_7, nr_7, na_8, nb_8, nm_8, ns_8, nr_8, na_10, nb_10, nm_10, ns_10, nr_10, na_16, nb_16, nm_16, ns_16, nr_16, nl_m1, ni_add, ni_mul, ni_sub, ni_cl, ni_in, vp_0, vp_1, vp_2, vp_3, vp_4, vp_5, Int32.reduceToNatClampNeg]
  exact go _ (((Fr.rf.i _ (Or.inl ⟨rfl, Or.inr (by decide)⟩)).i _ (Or.inl ⟨rfl, Or.inr (by decide)⟩)).i _ (Or.inl ⟨rfl, Or.inl (by decide)⟩)) (by simp only [wI_at, if_true, if_false, Nat.reduceEqDiff]) (by simp only [wI_at, if_true, if_false, Nat.reduceEqDiff]) (by simp only [wI_at, if_true, if_false, Nat.reduceEqDiff])
