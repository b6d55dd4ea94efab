/-! packing: the whole body -/
theorem wmx_cg {f g : Nat → Int64} : ∀ n, (∀ i, i < n → f i = g i) → wmx f n = wmx g n
  | 0, _ => rfl
  | n + 1, h => by unfold wmx; rw [wmx_cg n (fun i hi => h i (by omega)), h n (by omega)]
theorem smx_cg {f g : Nat → Int64} : ∀ n, (∀ i, i < n → f i = g i) → smx f n = smx g n
  | 0, _ => rfl
  | n + 1, h => by
    unfold smx
    by_cases e : n = 0
    · rw [if_pos e, if_pos e]
    · rw [if_neg e, if_neg e, smx_cg n (fun i hi => h i (by omega)), h n (by omega), h (n - 1) (by omega)]
theorem rns_cg {f g : Nat → Int64} : ∀ n, (∀ i, i < n → f i = g i) → rns f n = rns g n
  | 0, _ => rfl
  | n + 1, h => by
    unfold rns
    by_cases e : n = 0
    · rw [if_pos e, if_pos e]
    · rw [if_neg e, if_neg e, rns_cg n (fun i hi => h i (by omega)), h n (by omega), h (n - 1) (by omega)]
theorem bpL_cg {f g : Nat → Int64} {a b c : Nat} : ∀ n, (∀ i, i < n → f i = g i) → bpL f a b c n = bpL g a b c n
  | 0, _ => rfl
  | n + 1, h => by
    unfold bpL
    rw [bpL_cg n (fun i hi => h i (by omega)), h n (by omega)]
    by_cases e : a = 1 ∧ 0 < n
    · rw [if_pos e, if_pos e, h (n - 1) (by omega)]
    · rw [if_neg e, if_neg e]
theorem ruS_cg {f g : Nat → Int64} {w n : Nat} (h : ∀ i, i < n → f i = g i) : ∀ d b, d < n → b < n → ruS f w n d b = ruS g w n d b
  | 0, b, hd, hb => by unfold ruS; rw [h b hb]
  | d + 1, b, hd, hb => by
    unfold ruS
    rw [h (n - (d + 1)) (by omega), h b hb, ruS_cg h d b (by omega) hb, ruS_cg h d (n - (d + 1)) (by omega) (by omega)]
theorem nums_cg {f g : Nat → Int64} {n : Nat} (h0 : 0 < n) (h : ∀ i, i < n → f i = g i) : numsL f n = numsL g n := by
  have e1 := wmx_cg n h
  have e2 := smx_cg n h
  have e3 := rns_cg n h
  have e4 := h 0 h0
  have a1 : pMd f n = pMd g n := by unfold pMd useR useS pRu pSt pPl; rw [e1, e2, e3, e4]
  have a2 : pW f n = pW g n := by unfold pW useR useS pRu pSt pPl; rw [e1, e2, e3, e4]
  unfold numsL
  rw [a1, a2, e2, ruS_cg h (n - 1) 0 (by omega) h0, bpL_cg n h]
theorem boxL_cg {K K' : Nat → Int32} {f g : Nat → Int64} : ∀ n, (∀ i, i < n → K i = K' i ∧ f i = g i) → boxL K f n = boxL K' g n
  | 0, _ => rfl
  | n + 1, h => by unfold boxL; rw [boxL_cg n (fun i hi => h i (by omega)), (h n (by omega)).1, (h n (by omega)).2]
/-! a field of the state -/
def fsl (s : St) (f : Nat) : Int32 := s.1 1 (s.1 7 f).toNatClampNeg
def frow (s : St) (f : Nat) : Nat := (fsl s f).toNatClampNeg
def fnn (s : St) (f : Nat) : Nat := (s.1 3 (frow s f)).toNatClampNeg
def fKd (s : St) (f i : Nat) : Int32 := s.1 4 (16 * frow s f + i)
def fVl (s : St) (f i : Nat) : Int64 := vwC (fKd s f i) (s.2 5 (16 * frow s f + i)) (s.1 8 f)
def fcode (s : St) (f : Nat) : Int32 := rdCode (fsl s f) (s.1 2 (frow s f)) (s.1 3 (frow s f)) (s.1 9 f) (s.1 8 f)
def fcell (s : St) (f : Nat) : Int32 := rdCell (fsl s f) (s.1 3 (frow s f)) (s.1 9 f)
def fbyt (s : St) (f : Nat) : List Int32 := (if s.1 9 f = 0 then [nI (fnn s f)] else []) ++ (if s.1 8 f = 8 then boxL (fKd s f) (fVl s f) (fnn s f) else if fnn s f = 0 then [] else numsL (fVl s f) (fnn s f))
/-- the body by the first k fields of a version, or what refuses it: field, cell, why -/
def pk (s : St) (v : Nat) : Nat → Sum (Int32 × Int32 × Int32) (Int32 × List Int32)
  | 0 => .inr (0, [])
  | k + 1 => match pk s v k with
    | .inl e => .inl e
    | .inr (p, L) =>
      if fsl s (8 * v + k) = -1 then (if s.1 10 (8 * v + k) = 1 then .inl (nI k, 0, -15) else .inr (p, L))
      else if fcode s (8 * v + k) = 0 then .inr (p ||| (1 <<< (nI k &&& 31)), L ++ fbyt s (8 * v + k))
      else .inl (nI k, fcell s (8 * v + k), fcode s (8 * v + k))
theorem pk_inl {s : St} {v k : Nat} {e : Int32 × Int32 × Int32} (h : pk s v k = .inl e) : ∀ d, pk s v (k + d) = .inl e
  | 0 => h
  | d + 1 => by
    show pk s v ((k + d) + 1) = _
    unfold pk
    rw [pk_inl h d]
def Sm (m : Nat) (w : Wd) (s : St) : Prop := ∀ o j, 1 ≤ o → o ≤ 25 → wI w (m + o) j = s.1 o j ∧ wL w (m + o) j = s.2 o j
theorem Sm.self (m : Nat) (w : Wd) : Sm m w (mst m w) := fun _ _ _ _ => ⟨rfl, rfl⟩
theorem Sm.fr {S : Nat → Nat → Prop} {m : Nat} {w w' : Wd} {s : St} (h : Sm m w s) (hf : Fr S w w') (hs : ∀ a j, m + 1 ≤ a → a ≤ m + 25 → ¬ S a j) : Sm m w' s := fun o j h1 h2 => ⟨(hf.I _ _ (hs _ _ (by omega) (by omega))).trans (h o j h1 h2).1, (hf.L _ _ (hs _ _ (by omega) (by omega))).trans (h o j h1 h2).2⟩
theorem Sm.A {m : Nat} {w : Wd} {s : St} (h : Sm m w s) (o : Nat) (h1 : 1 ≤ o) (h2 : o ≤ 25) : wI w (m + o) = s.1 o := funext fun j => (h o j h1 h2).1
theorem Sm.B {m : Nat} {w : Wd} {s : St} (h : Sm m w s) (o : Nat) (h1 : 1 ≤ o) (h2 : o ≤ 25) : wL w (m + o) = s.2 o := funext fun j => (h o j h1 h2).2
theorem Sm.RW {m : Nat} {w : Wd} {s : St} (h : Sm m w s) (hR : RW s) : RW (mst m w) := by
  show RowsW (wI w (m + 1)) (wI w (m + 2)) (wI w (m + 3)) (wI w (m + 4)) (wL w (m + 5))
  rw [h.A 1 (by decide) (by decide), h.A 2 (by decide) (by decide), h.A 3 (by decide) (by decide), h.A 4 (by decide) (by decide), h.B 5 (by decide) (by decide)]
  exact hR
def pkS (m : Nat) (a j : Nat) : Prop := (a = m ∧ 42 ≤ j) ∨ (m + 32 ≤ a ∧ a ≤ m + 36)
def GotM (m : Nat) (w : Wd) (s : St) (v n : Nat) : Prop := ∀ k, k < n → ¬ fsl s (8 * v + k) = -1 → fnn s (8 * v + k) ≤ 16 ∧ wI w (m + 34) k = nI (fnn s (8 * v + k)) ∧ ∀ i, i < fnn s (8 * v + k) → wI w (m + 35) (16 * k + i) = (if s.1 8 (8 * v + k) = 8 then fKd s (8 * v + k) i else s.1 8 (8 * v + k)) ∧ wL w (m + 36) (16 * k + i) = fVl s (8 * v + k) i
set_option maxRecDepth 100000 in
set_option maxHeartbeats 4000000 in
theorem X12_fails_ok {g : Ge} {w : Wd} {k n : Nat} {K : Int32 → Wd → Nat → Nat → Prop} {m : Nat} (hm : MS g m w) (a b c : Int32) (h : K (-20) (sI (sI (sI w m 42 a) m 43 b) m 44 c) k n) : cI g mX12_fails [.ref m, .int a, .int b, .int c] w k n K := by
  refine cI_of 4 0 0 rfl (by decide +kernel) rfl (Nat.le_of_ble_eq_true rfl) (Nat.zero_le _) (Nat.zero_le _) ?_
  simp only [vX12_fails_0, vX12_fails_1, vX12_fails_2, vX12_fails_5, vX12_fails_6, vX12_fails_7, vX12_fails_10, vX12_fails_11, vX12_fails_12, vX12_fails_15, vX12_fails_17, ms_o hm, ms_b hm, ms_0 hm, pI_c, pL_c, pF_c, pD_c, pA_n, pA_c, pA_rf, pR_c, pR_rf, pV_i, pV_a, pV_n, pV_rf, ldI_c, ldL_c, ldF_c, ldD_c, ldA_c, ldA_n, ldA_rf, dup2_l, dup2_ia, dup2_ir, popA_0, popA_s, getL_z, getL_s, setL_z, setL_1, setL_s, setL2_z, setL2_1, setL2_s, drop2_i, drop2_a, drop2_0, drop2_n, drop2_l, drop2_d, drop2_r, cwd_0, cwd_i, cwd_a, cwd_n, cwd_l, cwd_d, cwd_f, cwd_r, rf_s, rf_n, swi_0, swi_s, zR_b0, zR_b1, zN_b0, zN_b1, entV_i, entV_a, entV_n, entV_r, entV_f, entV_l, entV_d, entV_s, entV_0, List.length_cons, List.length_nil, List.nil_append, List.cons_append, true_and, and_true, Nat.reduceAdd, Nat.reduceLT, Nat.reduceEqDiff, Nat.reduceLeDiff, Nat.reduceSub, Nat.zero_add, Classical.not_not, ex_i, ex_l, ex_d, ex_r, ex_rs, ex_rn, ex_sm, Nat.sub_zero, eq_self, wn_sI, wn_sL, wn_sP, wsh_sI, wsh_sL, wsh_sP, wI_sL, wI_sP, wL_sI, wL_sP, wP_sI, wP_sL, wI_sI, wL_sL, Int32.reduceLT, Int32.reduceLE, true_implies, not_true_eq_false, false_implies, not_false_eq_true, i_10]
  exact h
