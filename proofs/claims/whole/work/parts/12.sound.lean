theorem snd_inv {g : Ge} {M : Mi} {K : Option Value → Wd → Prop} {S : Sp} {pc : Nat} {V : List (Option Value)} {st : List Value} {w : Wd} {k n : Nat} (hS : ∀ pc V st w k n, S pc V st w k n → wF g M K pc V st w k n) {p : Program} {l : Launch} {e : Env} {s : State} {m : MethodId} {args : Array Value} {below : List Frame} {meth : Method} {c : Code} {H : Heap} {locs : List Loc} {cells slots : Nat} {ls : Array Slot} {c0 n0 : Nat}
    (hcx : Cx g M p s m args meth c) (hR : Rep g w H) (hSS : va_S (fun q => gB g ≤ q) s.heap H locs) (hv : vh ls V) (hVl : V.length = mL M) (hk : cells + k ≤ c0) (hn : slots + n ≤ n0) {i sp : Nat} (hd0 : sp = 0 → decode (mC M) pc = .ok (.invokestatic i, 3)) (hd1 : sp = 1 → decode (mC M) pc = .ok (.invokevirtual i, 3)) (hd2 : sp = 2 → decode (mC M) pc = .ok (.invokespecial i, 3))
    (h : stInv g M S pc V st w k n (plM (mO M) i) sp) : W p l e (rmM M c0 n0) s m args below meth c H locs cells slots (MQ below (Qk g K) args s c0 n0 (fun q => gB g ≤ q)) (F0 m pc ls st) := by
  have hls : ls.size = mL M := hv.1.trans hVl
  unfold stInv at h
  split at h
  next kd rc np M' hpl =>
    obtain ⟨⟨is, hch⟩, hcd⟩ := plM_ok hpl
    obtain ⟨As, rest, hlen, rfl, h0⟩ := popA_inv _ _ _ h
    rw [List.append_nil] at h0
    split at h0
    next hkd =>
      obtain ⟨hsp, hrm, hcw, hinv⟩ := h0
      rcases hkd with rfl | rfl
      · exact w_cl (a9 := As.toArray) (inv_cl0 hinv) hSS hk hn (fun k1 n1 K0 hM h1 h2 => run0 hcx hR hSS hls hch hcd hrm hcw hlen rfl (hd0 hsp) hM h1 h2) (fun r w' H1 locs1 cc1 ss1 k' n' hF hR1 hS1 e1 e2 => hS _ _ _ _ _ _ hF _ _ _ _ _ _ _ _ _ _ _ _ _ _ _ _ hcx hR1 hS1 hv hVl e1 e2)
      · exact w_cl (a9 := As.toArray) (inv_cl0 hinv) hSS hk hn (fun k1 n1 K0 hM h1 h2 => run3 hcx hR hSS hls hch hcd hrm hcw hlen rfl (hd0 hsp) hM h1 h2) (fun r w' H1 locs1 cc1 ss1 k' n' hF hR1 hS1 e1 e2 => hS _ _ _ _ _ _ hF _ _ _ _ _ _ _ _ _ _ _ _ _ _ _ _ hcx hR1 hS1 hv hVl e1 e2)
    next =>
    split at h0
    next hkd =>
      obtain ⟨a, rest, rfl, hsp, hrm, hcw, hinv⟩ := pR_inv h0
      rcases hkd with rfl | rfl
      · exact w_cl (a9 := (Value.ref a :: As).toArray) (inv_cl0 hinv) hSS hk hn (fun k1 n1 K0 hM h1 h2 => run2 hcx hR hSS hls hch hcd hrm hcw hlen rfl (hd2 hsp) hM h1 h2) (fun r w' H1 locs1 cc1 ss1 k' n' hF hR1 hS1 e1 e2 => hS _ _ _ _ _ _ hF _ _ _ _ _ _ _ _ _ _ _ _ _ _ _ _ hcx hR1 hS1 hv hVl e1 e2)
      · exact w_cl (a9 := (Value.ref a :: As).toArray) (inv_cl0 hinv) hSS hk hn (fun k1 n1 K0 hM h1 h2 => run4 hcx hR hSS hls hch hcd hrm hcw hlen rfl (hd2 hsp) hM h1 h2) (fun r w' H1 locs1 cc1 ss1 k' n' hF hR1 hS1 e1 e2 => hS _ _ _ _ _ _ hF _ _ _ _ _ _ _ _ _ _ _ _ _ _ _ _ hcx hR1 hS1 hv hVl e1 e2)
    next =>
    split at h0
    next hkd =>
      obtain ⟨a, rest, rfl, hsp, hs, hrm, hcw, hinv⟩ := pR_inv h0
      subst hkd
      exact w_cl (a9 := (Value.ref a :: As).toArray) (inv_cl0 hinv) hSS hk hn (fun k1 n1 K0 hM h1 h2 => run1 hcx hR hSS hls hch hcd hrm hcw hlen rfl hs (hd1 hsp) hM h1 h2) (fun r w' H1 locs1 cc1 ss1 k' n' hF hR1 hS1 e1 e2 => hS _ _ _ _ _ _ hF _ _ _ _ _ _ _ _ _ _ _ _ _ _ _ _ hcx hR1 hS1 hv hVl e1 e2)
    next =>
    split at h0
    next hkd =>
      obtain ⟨a, rest, rfl, hsp, hs, hrm, hcw, hinv⟩ := pR_inv h0
      subst hkd
      exact w_cl (a9 := (Value.ref a :: As).toArray) (inv_cl0 hinv) hSS hk hn (fun k1 n1 K0 hM h1 h2 => run12 hcx hR hSS hls hch hcd hrm hcw hlen rfl hs (hd1 hsp) hM h1 h2) (fun r w' H1 locs1 cc1 ss1 k' n' hF hR1 hS1 e1 e2 => hS _ _ _ _ _ _ hF _ _ _ _ _ _ _ _ _ _ _ _ _ _ _ _ hcx hR1 hS1 hv hVl e1 e2)
    next =>
    split at h0
    next hkd =>
      obtain ⟨a, rest, rfl, hsp, hy, hs, hrm, hcw, hinv⟩ := pR_inv h0
      subst hkd
      exact w_cl (a9 := (Value.ref a :: As).toArray) (inv_cl0 hinv) hSS hk hn (fun k1 n1 K0 hM h1 h2 => run14 hcx hR hSS hls hch hcd hy hrm hcw hlen rfl hs (hd1 hsp) hM h1 h2) (fun r w' H1 locs1 cc1 ss1 k' n' hF hR1 hS1 e1 e2 => hS _ _ _ _ _ _ hF _ _ _ _ _ _ _ _ _ _ _ _ _ _ _ _ hcx hR1 hS1 hv hVl e1 e2)
    next =>
    split at h0
    next hkd =>
      obtain ⟨a, rest, rfl, hsp, hs, hrm, hcw, hinv⟩ := pR_inv h0
      subst hkd
      exact w_cl (a9 := (Value.ref a :: As).toArray) (inv_cl0 hinv) hSS hk hn (fun k1 n1 K0 hM h1 h2 => run13 hcx hR hSS hls hch hcd hrm hcw hlen rfl hs (hd2 hsp) hM h1 h2) (fun r w' H1 locs1 cc1 ss1 k' n' hF hR1 hS1 e1 e2 => hS _ _ _ _ _ _ hF _ _ _ _ _ _ _ _ _ _ _ _ _ _ _ _ hcx hR1 hS1 hv hVl e1 e2)
    next => cases h0
  next => cases h
theorem snd_nat {g : Ge} {M : Mi} {K : Option Value → Wd → Prop} {S : Sp} {pc : Nat} {V : List (Option Value)} {st : List Value} {w : Wd} {k n : Nat} (hS : ∀ pc V st w k n, S pc V st w k n → wF g M K pc V st w k n) {p : Program} {l : Launch} {e : Env} {s : State} {m : MethodId} {args : Array Value} {below : List Frame} {meth : Method} {c : Code} {H : Heap} {locs : List Loc} {cells slots : Nat} {ls : Array Slot} {c0 n0 : Nat}
    (hcx : Cx g M p s m args meth c) (hR : Rep g w H) (hSS : va_S (fun q => gB g ≤ q) s.heap H locs) (hv : vh ls V) (hVl : V.length = mL M) (hk : cells + k ≤ c0) (hn : slots + n ≤ n0) {i q : Nat} (hq : plN (mO M) i = q) (hd0 : q ≠ 7 → decode (mC M) pc = .ok (.invokestatic i, 3)) (hd1 : q = 7 → decode (mC M) pc = .ok (.invokevirtual i, 3))
    (h : stNat g M S pc V st w k n q) : W p l e (rmM M c0 n0) s m args below meth c H locs cells slots (MQ below (Qk g K) args s c0 n0 (fun q => gB g ≤ q)) (F0 m pc ls st) := by
  obtain ⟨hx, hb, hr, hml, hown, hts, hlocks, hnm, hKG, hKS⟩ := id hcx
  have hls : c.maxLocals = ls.size := by rw [hml, hv.1, hVl]
  unfold stNat at h
  split at h
  next =>
    have hw := plN_ok hq (by decide)
    obtain ⟨len, st1, rfl, h1⟩ := pI_inv h
    obtain ⟨dp, st2, rfl, h2⟩ := pI_inv h1
    obtain ⟨b, st3, rfl, h3⟩ := pR_inv h2
    obtain ⟨sp, st4, rfl, h4⟩ := pI_inv h3
    obtain ⟨a, st5, rfl, hrm, hcw, g1, g2, g3, g4, g5, hB, hab, h5⟩ := pR_inv h4
    have hloc : (st5.map fun v => v.category).sum + (nativeFrameWords "java/lang/System" "arraycopy" 5 + 11) ≤ (rmM M c0 n0).locals := by
      have h9 : nativeFrameWords "java/lang/System" "arraycopy" 5 = 7 := by decide
      rw [h9]
      have := hrm.2
      unfold cwd at hcw
      show _ ≤ mW M
      omega
    rcases h5 with ⟨hb1, h6⟩ | ⟨hb1, h6⟩ | ⟨hb1, hf, h6⟩
    · exact w_copy hx hb hls hown (hts _ (hw _ (by simp [natWords, natY]))) (hts _ (hw _ (by simp [natWords, natY]))) (hts _ (hw _ (by simp [natWords, natY]))) (hts _ (hw _ (by simp [natWords, natC]))) hKG hR hSS (t := 100) (by decide) (by decide) (hab.trans hb1) hb1 hB g1 g2 g3 g4 g5 (fun _ _ => rfl) (oneOff_cpI _ _ _ _ _ _) (fun j => wv_cpI _ _ _ _ _ _ _) hrm.1 hloc (hd0 (by decide)) (fun H1 locs1 hR1 hS1 => hS _ _ _ _ _ _ h6 _ _ _ _ _ _ _ _ _ _ _ _ _ _ _ _ hcx hR1 hS1 hv hVl hk hn)
    · exact w_copy hx hb hls hown (hts _ (hw _ (by simp [natWords, natY]))) (hts _ (hw _ (by simp [natWords, natY]))) (hts _ (hw _ (by simp [natWords, natY]))) (hts _ (hw _ (by simp [natWords, natC]))) hKG hR hSS (t := 101) (by decide) (by decide) (hab.trans hb1) hb1 hB g1 g2 g3 g4 g5 (fun _ _ => rfl) (oneOff_cpL _ _ _ _ _ _) (fun j => wv_cpL _ _ _ _ _ _ _) hrm.1 hloc (hd0 (by decide)) (fun H1 locs1 hR1 hS1 => hS _ _ _ _ _ _ h6 _ _ _ _ _ _ _ _ _ _ _ _ _ _ _ _ hcx hR1 hS1 hv hVl hk hn)
    · exact w_copy hx hb hls hown (hts _ (hw _ (by simp [natWords, natY]))) (hts _ (hw _ (by simp [natWords, natY]))) (hts _ (hw _ (by simp [natWords, natY]))) (hts _ (hw _ (by simp [natWords, natC]))) hKG hR hSS (t := 103) (by decide) (by decide) (hab.trans hb1) hb1 hB g1 g2 g3 g4 g5 hf (oneOff_cpI _ _ _ _ _ _) (fun j => wv_cpI _ _ _ _ _ _ _) hrm.1 hloc (hd0 (by decide)) (fun H1 locs1 hR1 hS1 => hS _ _ _ _ _ _ h6 _ _ _ _ _ _ _ _ _ _ _ _ _ _ _ _ hcx hR1 hS1 hv hVl hk hn)
  next =>
    have hw := plN_ok hq (by decide)
    obtain ⟨x, st1, rfl, hrm, hcw, h1⟩ := pD_inv h
    exact vn_d2l hx hb hls hown (hts _ (hw _ (by simp [natWords, natY]))) (hts _ (hw _ (by simp [natWords, natY]))) (hts _ (hw _ (by simp [natWords, natY]))) (hts _ (hw _ (by simp [natWords, natC]))) hrm.1 (by have := hrm.2; unfold cwd at hcw; show _ ≤ mW M; omega) (hd0 (by decide)) (hS _ _ _ _ _ _ h1 _ _ _ _ _ _ _ _ _ _ _ _ _ _ _ _ hcx hR hSS hv hVl hk hn)
  next =>
    have hw := plN_ok hq (by decide)
    obtain ⟨x, st1, rfl, hrm, hcw, hsn, h1⟩ := pL_inv h
    exact vn_l2d hx hb hls hown (hts _ (hw _ (by simp [natWords, natY]))) (hts _ (hw _ (by simp [natWords, natY]))) (hts _ (hw _ (by simp [natWords, natY]))) (hts _ (hw _ (by simp [natWords, natC]))) hsn hrm.1 (by have := hrm.2; unfold cwd at hcw; show _ ≤ mW M; omega) (hd0 (by decide)) (hS _ _ _ _ _ _ h1 _ _ _ _ _ _ _ _ _ _ _ _ _ _ _ _ hcx hR hSS hv hVl hk hn)
  next =>
    have hw := plN_ok hq (by decide)
    obtain ⟨x, st1, rfl, hrm, hcw, h1⟩ := pF_inv h
    exact vn_f2i hx hb hls hown (hts _ (hw _ (by simp [natWords, natY]))) (hts _ (hw _ (by simp [natWords, natY]))) (hts _ (hw _ (by simp [natWords, natY]))) (hts _ (hw _ (by simp [natWords, natC]))) hrm.1 (by have := hrm.2; unfold cwd at hcw; show _ ≤ mW M; omega) (hd0 (by decide)) (hS _ _ _ _ _ _ h1 _ _ _ _ _ _ _ _ _ _ _ _ _ _ _ _ hcx hR hSS hv hVl hk hn)
  next =>
    have hw := plN_ok hq (by decide)
    obtain ⟨a, st1, rfl, hrm, hcw, ha, hB, hf, hk1, hn1, h1⟩ := pR_inv h
    exact w_clone hx hb hls hown (hts _ (hw _ (by simp [natWords]))) (hts _ (hw _ (by simp [natWords]))) (hts _ (hw _ (by simp [natWords]))) (hts _ (hw _ (by simp [natWords]))) (hts _ (hw _ (by simp [natWords]))) hKG hR hSS ha hB hf hrm.1 (by have := hrm.2; unfold cwd at hcw; show _ ≤ mW M; omega) (by show cells + 1 ≤ c0; omega) (by show slots + _ ≤ n0; omega) (hd1 rfl) (fun H1 hR1 hS1 => hS _ _ _ _ _ _ h1 _ _ _ _ _ _ _ _ _ _ _ _ _ _ _ _ hcx hR1 hS1 hv hVl (by omega) (by omega))
  next =>
    have hw := plN_ok hq (by decide)
    obtain ⟨x, st1, rfl, hrm, hcw, hsn, h1⟩ := pI_inv h
    exact vn_i2f hx hb hls hown (hts _ (hw _ (by simp [natWords, natY]))) (hts _ (hw _ (by simp [natWords, natY]))) (hts _ (hw _ (by simp [natWords, natY]))) (hts _ (hw _ (by simp [natWords, natC]))) hsn hrm.1 (by have := hrm.2; unfold cwd at hcw; show _ ≤ mW M; omega) (hd0 (by decide)) (hS _ _ _ _ _ _ h1 _ _ _ _ _ _ _ _ _ _ _ _ _ _ _ _ hcx hR hSS hv hVl hk hn)
  next => cases h
theorem kt_long {c f : Nat} (h : fk c f = 1) : clY c f = .long := by
  unfold fk at h
  cases hty : clY c f <;> rw [hty] at h <;> first | rfl | (simp [kt] at h)
theorem kt_ref {ty : FieldType} (h : kt ty = 2) (x : Option Nat) : narrow ty (va_rf x) = va_rf x ∧ fits ty (va_rf x) = true := by
  cases ty <;> first | (simp [kt] at h; done) | skip
  all_goals cases x <;> exact ⟨rfl, rfl⟩
theorem kt_lt (ty : FieldType) : kt ty < 3 := by cases ty <;> simp [kt]
theorem fk_2 {c f t : Nat} (hf : fk c f = t) (h0 : ¬ t = 0) (h1 : ¬ t = 1) : t = 2 := by
  have := kt_lt (clY c f)
  unfold fk at hf
  omega
theorem pfin_of {g : Ge} {M : Mi} {p : Program} {s : State} {m : MethodId} {args : Array Value} {meth : Method} {c0 : Code} (hcx : Cx g M p s m args meth c0) {c f : Nat} {q : vw_C} (hq : cls[c]? = some q) (h : pfin M c f) : (q.2.1 f).2.2.2 = false ∨ (meth.name = "<init>" ∧ (q.2.1 f).1 = oN (mO M)) := by
  unfold pfin clT at h
  rw [hq] at h
  rcases h with h | ⟨h, h2⟩
  · exact Or.inl h
  · exact Or.inr ⟨hcx.2.2.2.2.2.2.2.1 h, h2⟩
theorem nC_cls {c : Nat} (h : nC.elem c = true) : ∃ q : vw_C, cls[c]? = some q ∧ clN c = q.1 ∧ clZ c = q.2.2 := by
  have hm := List.elem_iff.mp h
  have hl : ∀ c ∈ nC, ∃ q : vw_C, cls[c]? = some q := by
    intro c hc
    have : c < 15 := (by decide : ∀ c ∈ nC, c < 15) c hc
    exact ⟨_, List.getElem?_eq_getElem this⟩
  obtain ⟨q, hq⟩ := hl c hm
  exact ⟨q, hq, by unfold clN; rw [hq], by unfold clZ; rw [hq]⟩
theorem ac_ok (ty : FieldType) (h : ty = .int ∨ ty = .long ∨ ty = .boolean ∨ ty = .byte) : Cond.arrayClass ty ∈ GL := by
  rcases h with rfl | rfl | rfl | rfl
  · exact gl_mem 1061 (by decide +kernel) rfl
  · exact gl_mem 1112 (by decide +kernel) rfl
  · exact gl_mem 1171 (by decide +kernel) rfl
  · exact gl_mem 2039 (by decide +kernel) rfl
section SND
variable {g : Ge} {M : Mi} {K : Option Value → Wd → Prop} {S : Sp} {len pc : Nat} {V : List (Option Value)} {st : List Value} {w : Wd} {k n : Nat}
set_option maxHeartbeats 4000000 in
theorem snd_ops (hS : ∀ pc V st w k n, S pc V st w k n → wF g M K pc V st w k n) {ins : Instr} (hd : decode (mC M) pc = .ok (ins, len)) (hl : iln ins len = true)
    (h : stp g M K S ins len pc V st w k n) : wF g M K pc V st w k n := by
  intro p l e s m args below meth c H locs cells slots ls c0 n0 hcx hR hSS hv hVl hk hn
  obtain ⟨hx, hb, hr, hml, hown, hts, hlocks, hnm, hKG, hKS⟩ := id hcx
  cases ins <;> simp only [stp] at h <;> first | (exact absurd h id) | (simp only [iln, beq_iff_eq] at hl; subst hl) | skip
  case aconst_null => exact lv_null hx hb hd (hS _ _ _ _ _ _ h _ _ _ _ _ _ _ _ _ _ _ _ _ _ _ _ hcx hR hSS hv hVl hk hn)
  case iconst => exact lv_iconst hx hb hd rfl (hS _ _ _ _ _ _ h _ _ _ _ _ _ _ _ _ _ _ _ _ _ _ _ hcx hR hSS hv hVl hk hn)
  case bipush => exact lv_bipush hx hb hd rfl (hS _ _ _ _ _ _ h _ _ _ _ _ _ _ _ _ _ _ _ _ _ _ _ hcx hR hSS hv hVl hk hn)
  case sipush => exact lv_sipush hx hb hd rfl (hS _ _ _ _ _ _ h _ _ _ _ _ _ _ _ _ _ _ _ _ _ _ _ hcx hR hSS hv hVl hk hn)
  case lconst => exact lv_lconst hx hb hd rfl (hS _ _ _ _ _ _ h _ _ _ _ _ _ _ _ _ _ _ _ _ _ _ _ hcx hR hSS hv hVl hk hn)
  case iload => obtain ⟨x, hg, h1⟩ := ldI_inv h; exact lv_iload hx hb hd (hv.get hg) (hS _ _ _ _ _ _ h1 _ _ _ _ _ _ _ _ _ _ _ _ _ _ _ _ hcx hR hSS hv hVl hk hn)
  case iload_n => obtain ⟨x, hg, h1⟩ := ldI_inv h; exact lv_iload_n hx hb hd rfl (hv.get hg) (hS _ _ _ _ _ _ h1 _ _ _ _ _ _ _ _ _ _ _ _ _ _ _ _ hcx hR hSS hv hVl hk hn)
  case lload => obtain ⟨x, hg, h1⟩ := ldL_inv h; exact lv_lload hx hb hd (hv.get hg) (hS _ _ _ _ _ _ h1 _ _ _ _ _ _ _ _ _ _ _ _ _ _ _ _ hcx hR hSS hv hVl hk hn)
  case lload_n => obtain ⟨x, hg, h1⟩ := ldL_inv h; exact lv_lload_n hx hb hd rfl (hv.get hg) (hS _ _ _ _ _ _ h1 _ _ _ _ _ _ _ _ _ _ _ _ _ _ _ _ hcx hR hSS hv hVl hk hn)
  case fload_n => obtain ⟨x, hg, h1⟩ := ldF_inv h; exact lv_fload_n hx hb hd rfl (hv.get hg) (hS _ _ _ _ _ _ h1 _ _ _ _ _ _ _ _ _ _ _ _ _ _ _ _ hcx hR hSS hv hVl hk hn)
  case dload_n => obtain ⟨x, hg, h1⟩ := ldD_inv h; exact lv_dload_n hx hb hd rfl (hv.get hg) (hS _ _ _ _ _ _ h1 _ _ _ _ _ _ _ _ _ _ _ _ _ _ _ _ hcx hR hSS hv hVl hk hn)
  case aload =>
    obtain ⟨x, hg, h1⟩ := ldA_inv h
    replace h := h1
    cases x with
    | none => exact lv_aloadN hx hb hd (hv.get hg) (hS _ _ _ _ _ _ h _ _ _ _ _ _ _ _ _ _ _ _ _ _ _ _ hcx hR hSS hv hVl hk hn)
    | some a => exact lv_aload hx hb hd (hv.get hg) (hS _ _ _ _ _ _ h _ _ _ _ _ _ _ _ _ _ _ _ _ _ _ _ hcx hR hSS hv hVl hk hn)
  case aload_n =>
    obtain ⟨x, hg, h1⟩ := ldA_inv h
    replace h := h1
    cases x with
    | none => exact lv_aload_nN hx hb hd rfl (hv.get hg) (hS _ _ _ _ _ _ h _ _ _ _ _ _ _ _ _ _ _ _ _ _ _ _ hcx hR hSS hv hVl hk hn)
    | some a => exact lv_aload_n hx hb hd rfl (hv.get hg) (hS _ _ _ _ _ _ h _ _ _ _ _ _ _ _ _ _ _ _ _ _ _ _ hcx hR hSS hv hVl hk hn)
  case istore => obtain ⟨x, st1, rfl, hlt, h1⟩ := pI_inv h; exact lv_istore hx hb hd hv.has hlt rfl (fun ls hl => hS _ _ _ _ _ _ h1 _ _ _ _ _ _ _ _ _ _ _ _ _ _ _ _ hcx hR hSS (vh.st1 hl) ((setL_len _ _ _).trans hVl) hk hn)
  case istore_n => obtain ⟨x, st1, rfl, hlt, h1⟩ := pI_inv h; exact lv_istore_n hx hb hd rfl hv.has hlt rfl (fun ls hl => hS _ _ _ _ _ _ h1 _ _ _ _ _ _ _ _ _ _ _ _ _ _ _ _ hcx hR hSS (vh.st1 hl) ((setL_len _ _ _).trans hVl) hk hn)
  case lstore => obtain ⟨x, st1, rfl, hlt, h1⟩ := pL_inv h; exact lv_lstore hx hb hd hv.has hlt rfl (fun ls hl => hS _ _ _ _ _ _ h1 _ _ _ _ _ _ _ _ _ _ _ _ _ _ _ _ hcx hR hSS (vh.st2 hl) ((setL2_len _ _ _).trans hVl) hk hn)
  case lstore_n => obtain ⟨x, st1, rfl, hlt, h1⟩ := pL_inv h; exact lv_lstore_n hx hb hd rfl hv.has hlt rfl (fun ls hl => hS _ _ _ _ _ _ h1 _ _ _ _ _ _ _ _ _ _ _ _ _ _ _ _ hcx hR hSS (vh.st2 hl) ((setL2_len _ _ _).trans hVl) hk hn)
  case astore =>
    obtain ⟨x, st1, rfl, hlt, h1⟩ := pA_inv h
    replace h := h1
    cases x with
    | none => exact lv_astoreN hx hb hd hv.has hlt rfl (fun ls hl => hS _ _ _ _ _ _ h _ _ _ _ _ _ _ _ _ _ _ _ _ _ _ _ hcx hR hSS (vh.st1 hl) ((setL_len _ _ _).trans hVl) hk hn)
    | some a => exact lv_astore hx hb hd hv.has hlt rfl (fun ls hl => hS _ _ _ _ _ _ h _ _ _ _ _ _ _ _ _ _ _ _ _ _ _ _ hcx hR hSS (vh.st1 hl) ((setL_len _ _ _).trans hVl) hk hn)
  case astore_n =>
    obtain ⟨x, st1, rfl, hlt, h1⟩ := pA_inv h
    replace h := h1
    cases x with
    | none => exact lv_astore_nN hx hb hd rfl hv.has hlt rfl (fun ls hl => hS _ _ _ _ _ _ h _ _ _ _ _ _ _ _ _ _ _ _ _ _ _ _ hcx hR hSS (vh.st1 hl) ((setL_len _ _ _).trans hVl) hk hn)
    | some a => exact lv_astore_n hx hb hd rfl hv.has hlt rfl (fun ls hl => hS _ _ _ _ _ _ h _ _ _ _ _ _ _ _ _ _ _ _ _ _ _ _ hcx hR hSS (vh.st1 hl) ((setL_len _ _ _).trans hVl) hk hn)
  case iinc ix c9 =>
    obtain ⟨x, hg, h1⟩ := ldI_inv h
    replace h := h1
    have hlt := getL_lt hg
    have hm : (ix, Value.int x) ∈ lvOf V := lvOf_mem.mpr (by
      unfold getL at hg
      cases hV : V[ix]? with
      | none => rw [hV] at hg; cases hg
      | some o => rw [hV] at hg; exact congrArg some hg)
    obtain ⟨j, hj⟩ := List.getElem?_of_mem hm
    exact lv_iinc hx hb hd hv.has hj rfl hlt rfl (fun ls hl => hS _ _ _ _ _ _ h _ _ _ _ _ _ _ _ _ _ _ _ _ _ _ _ hcx hR hSS (vh.st1 hl) ((setL_len _ _ _).trans hVl) hk hn)
  case dup => obtain ⟨x, st1, rfl, hc, h1⟩ := pV_inv h; exact lv_dup hx hb hd hc (hS _ _ _ _ _ _ h1 _ _ _ _ _ _ _ _ _ _ _ _ _ _ _ _ hcx hR hSS hv hVl hk hn)
  case dup_x1 => obtain ⟨x, st1, rfl, hc, h1⟩ := pV_inv h; obtain ⟨y, st2, rfl, hc2, h2⟩ := pV_inv h1; exact lv_dup_x1 hx hb hd hc hc2 (hS _ _ _ _ _ _ h2 _ _ _ _ _ _ _ _ _ _ _ _ _ _ _ _ hcx hR hSS hv hVl hk hn)
  case dup2 =>
    unfold dup2K at h
    split at h
    · exact lv_dup2_2 hx hb hd rfl (hS _ _ _ _ _ _ h _ _ _ _ _ _ _ _ _ _ _ _ _ _ _ _ hcx hR hSS hv hVl hk hn)
    · exact lv_dup2_11 hx hb hd h.1 h.2.1 (hS _ _ _ _ _ _ h.2.2 _ _ _ _ _ _ _ _ _ _ _ _ _ _ _ _ hcx hR hSS hv hVl hk hn)
    · cases h
  case pop => obtain ⟨x, st1, rfl, hc, h1⟩ := pV_inv h; exact lv_pop hx hb hd hc (hS _ _ _ _ _ _ h1 _ _ _ _ _ _ _ _ _ _ _ _ _ _ _ _ hcx hR hSS hv hVl hk hn)
  case iadd => obtain ⟨y, st1, rfl, h1⟩ := pI_inv h; obtain ⟨x, st2, rfl, h2⟩ := pI_inv h1; exact lv_iadd hx hb hd (hS _ _ _ _ _ _ h2 _ _ _ _ _ _ _ _ _ _ _ _ _ _ _ _ hcx hR hSS hv hVl hk hn)
  case isub => obtain ⟨y, st1, rfl, h1⟩ := pI_inv h; obtain ⟨x, st2, rfl, h2⟩ := pI_inv h1; exact lv_isub hx hb hd (hS _ _ _ _ _ _ h2 _ _ _ _ _ _ _ _ _ _ _ _ _ _ _ _ hcx hR hSS hv hVl hk hn)
  case imul => obtain ⟨y, st1, rfl, h1⟩ := pI_inv h; obtain ⟨x, st2, rfl, h2⟩ := pI_inv h1; exact lv_imul hx hb hd (hS _ _ _ _ _ _ h2 _ _ _ _ _ _ _ _ _ _ _ _ _ _ _ _ hcx hR hSS hv hVl hk hn)
  case idiv => obtain ⟨y, st1, rfl, h1⟩ := pI_inv h; obtain ⟨x, st2, rfl, hz, h2⟩ := pI_inv h1; exact lv_idiv hx hb hd hz (hS _ _ _ _ _ _ h2 _ _ _ _ _ _ _ _ _ _ _ _ _ _ _ _ hcx hR hSS hv hVl hk hn)
  case irem => obtain ⟨y, st1, rfl, h1⟩ := pI_inv h; obtain ⟨x, st2, rfl, hz, h2⟩ := pI_inv h1; exact lv_irem hx hb hd hz (hS _ _ _ _ _ _ h2 _ _ _ _ _ _ _ _ _ _ _ _ _ _ _ _ hcx hR hSS hv hVl hk hn)
  case ineg => obtain ⟨x, st1, rfl, h1⟩ := pI_inv h; exact lv_ineg hx hb hd (hS _ _ _ _ _ _ h1 _ _ _ _ _ _ _ _ _ _ _ _ _ _ _ _ hcx hR hSS hv hVl hk hn)
  case iand => obtain ⟨y, st1, rfl, h1⟩ := pI_inv h; obtain ⟨x, st2, rfl, h2⟩ := pI_inv h1; exact lv_iand hx hb hd (hS _ _ _ _ _ _ h2 _ _ _ _ _ _ _ _ _ _ _ _ _ _ _ _ hcx hR hSS hv hVl hk hn)
  case ior => obtain ⟨y, st1, rfl, h1⟩ := pI_inv h; obtain ⟨x, st2, rfl, h2⟩ := pI_inv h1; exact lv_ior hx hb hd (hS _ _ _ _ _ _ h2 _ _ _ _ _ _ _ _ _ _ _ _ _ _ _ _ hcx hR hSS hv hVl hk hn)
  case ishl => obtain ⟨y, st1, rfl, h1⟩ := pI_inv h; obtain ⟨x, st2, rfl, h2⟩ := pI_inv h1; exact lv_ishl hx hb hd (hS _ _ _ _ _ _ h2 _ _ _ _ _ _ _ _ _ _ _ _ _ _ _ _ hcx hR hSS hv hVl hk hn)
  case ishr => obtain ⟨y, st1, rfl, h1⟩ := pI_inv h; obtain ⟨x, st2, rfl, h2⟩ := pI_inv h1; exact lv_ishr hx hb hd (hS _ _ _ _ _ _ h2 _ _ _ _ _ _ _ _ _ _ _ _ _ _ _ _ hcx hR hSS hv hVl hk hn)
  case iushr => obtain ⟨y, st1, rfl, h1⟩ := pI_inv h; obtain ⟨x, st2, rfl, h2⟩ := pI_inv h1; exact lv_iushr hx hb hd rfl (hS _ _ _ _ _ _ h2 _ _ _ _ _ _ _ _ _ _ _ _ _ _ _ _ hcx hR hSS hv hVl hk hn)
  case i2l => obtain ⟨x, st1, rfl, h1⟩ := pI_inv h; exact lv_i2l hx hb hd rfl (hS _ _ _ _ _ _ h1 _ _ _ _ _ _ _ _ _ _ _ _ _ _ _ _ hcx hR hSS hv hVl hk hn)
  case i2b => obtain ⟨x, st1, rfl, h1⟩ := pI_inv h; exact lv_i2b hx hb hd rfl (hS _ _ _ _ _ _ h1 _ _ _ _ _ _ _ _ _ _ _ _ _ _ _ _ hcx hR hSS hv hVl hk hn)
  case i2c => obtain ⟨x, st1, rfl, h1⟩ := pI_inv h; exact lv_i2c hx hb hd rfl (hS _ _ _ _ _ _ h1 _ _ _ _ _ _ _ _ _ _ _ _ _ _ _ _ hcx hR hSS hv hVl hk hn)
  case i2s => obtain ⟨x, st1, rfl, h1⟩ := pI_inv h; exact lv_i2s hx hb hd rfl (hS _ _ _ _ _ _ h1 _ _ _ _ _ _ _ _ _ _ _ _ _ _ _ _ hcx hR hSS hv hVl hk hn)
  case i2f => obtain ⟨x, st1, rfl, h1⟩ := pI_inv h; exact lv_i2f hx hb hd (hS _ _ _ _ _ _ h1 _ _ _ _ _ _ _ _ _ _ _ _ _ _ _ _ hcx hR hSS hv hVl hk hn)
  case i2d => obtain ⟨x, st1, rfl, h1⟩ := pI_inv h; exact lv_i2d hx hb hd (hS _ _ _ _ _ _ h1 _ _ _ _ _ _ _ _ _ _ _ _ _ _ _ _ hcx hR hSS hv hVl hk hn)
  case l2i => obtain ⟨x, st1, rfl, h1⟩ := pL_inv h; exact lv_l2i hx hb hd rfl (hS _ _ _ _ _ _ h1 _ _ _ _ _ _ _ _ _ _ _ _ _ _ _ _ hcx hR hSS hv hVl hk hn)
  case l2f => obtain ⟨x, st1, rfl, h1⟩ := pL_inv h; exact lv_l2f hx hb hd (hS _ _ _ _ _ _ h1 _ _ _ _ _ _ _ _ _ _ _ _ _ _ _ _ hcx hR hSS hv hVl hk hn)
  case l2d => obtain ⟨x, st1, rfl, h1⟩ := pL_inv h; exact lv_l2d hx hb hd (hS _ _ _ _ _ _ h1 _ _ _ _ _ _ _ _ _ _ _ _ _ _ _ _ hcx hR hSS hv hVl hk hn)
  case f2d => obtain ⟨x, st1, rfl, hz, h1⟩ := pF_inv h; exact lv_f2d hx hb hd hz (hS _ _ _ _ _ _ h1 _ _ _ _ _ _ _ _ _ _ _ _ _ _ _ _ hcx hR hSS hv hVl hk hn)
  case fdiv => obtain ⟨y, st1, rfl, h1⟩ := pF_inv h; obtain ⟨x, st2, rfl, hz, h2⟩ := pF_inv h1; exact lv_fdiv hx hb hd hz (hS _ _ _ _ _ _ h2 _ _ _ _ _ _ _ _ _ _ _ _ _ _ _ _ hcx hR hSS hv hVl hk hn)
  case ddiv => obtain ⟨y, st1, rfl, h1⟩ := pD_inv h; obtain ⟨x, st2, rfl, hz, h2⟩ := pD_inv h1; exact lv_ddiv hx hb hd hz (hS _ _ _ _ _ _ h2 _ _ _ _ _ _ _ _ _ _ _ _ _ _ _ _ hcx hR hSS hv hVl hk hn)
  case dcmp => obtain ⟨y, st1, rfl, h1⟩ := pD_inv h; obtain ⟨x, st2, rfl, h2⟩ := pD_inv h1; exact lv_dcmp hx hb hd (hS _ _ _ _ _ _ h2 _ _ _ _ _ _ _ _ _ _ _ _ _ _ _ _ hcx hR hSS hv hVl hk hn)
  case fcmp => obtain ⟨y, st1, rfl, h1⟩ := pF_inv h; obtain ⟨x, st2, rfl, h2⟩ := pF_inv h1; exact lv_fcmp hx hb hd (hS _ _ _ _ _ _ h2 _ _ _ _ _ _ _ _ _ _ _ _ _ _ _ _ hcx hR hSS hv hVl hk hn)
  case ladd => obtain ⟨y, st1, rfl, h1⟩ := pL_inv h; obtain ⟨x, st2, rfl, h2⟩ := pL_inv h1; exact lv_ladd hx hb hd (hS _ _ _ _ _ _ h2 _ _ _ _ _ _ _ _ _ _ _ _ _ _ _ _ hcx hR hSS hv hVl hk hn)
  case lsub => obtain ⟨y, st1, rfl, h1⟩ := pL_inv h; obtain ⟨x, st2, rfl, h2⟩ := pL_inv h1; exact lv_lsub hx hb hd (hS _ _ _ _ _ _ h2 _ _ _ _ _ _ _ _ _ _ _ _ _ _ _ _ hcx hR hSS hv hVl hk hn)
  case lmul => obtain ⟨y, st1, rfl, h1⟩ := pL_inv h; obtain ⟨x, st2, rfl, h2⟩ := pL_inv h1; exact lv_lmul hx hb hd (hS _ _ _ _ _ _ h2 _ _ _ _ _ _ _ _ _ _ _ _ _ _ _ _ hcx hR hSS hv hVl hk hn)
  case lneg => obtain ⟨x, st1, rfl, h1⟩ := pL_inv h; exact lv_lneg hx hb hd (hS _ _ _ _ _ _ h1 _ _ _ _ _ _ _ _ _ _ _ _ _ _ _ _ hcx hR hSS hv hVl hk hn)
  case land => obtain ⟨y, st1, rfl, h1⟩ := pL_inv h; obtain ⟨x, st2, rfl, h2⟩ := pL_inv h1; exact lv_land hx hb hd (hS _ _ _ _ _ _ h2 _ _ _ _ _ _ _ _ _ _ _ _ _ _ _ _ hcx hR hSS hv hVl hk hn)
  case lor => obtain ⟨y, st1, rfl, h1⟩ := pL_inv h; obtain ⟨x, st2, rfl, h2⟩ := pL_inv h1; exact lv_lor hx hb hd (hS _ _ _ _ _ _ h2 _ _ _ _ _ _ _ _ _ _ _ _ _ _ _ _ hcx hR hSS hv hVl hk hn)
  case lshl => obtain ⟨y, st1, rfl, h1⟩ := pI_inv h; obtain ⟨x, st2, rfl, h2⟩ := pL_inv h1; exact lv_lshl hx hb hd rfl (hS _ _ _ _ _ _ h2 _ _ _ _ _ _ _ _ _ _ _ _ _ _ _ _ hcx hR hSS hv hVl hk hn)
  case lshr => obtain ⟨y, st1, rfl, h1⟩ := pI_inv h; obtain ⟨x, st2, rfl, h2⟩ := pL_inv h1; exact lv_lshr hx hb hd rfl (hS _ _ _ _ _ _ h2 _ _ _ _ _ _ _ _ _ _ _ _ _ _ _ _ hcx hR hSS hv hVl hk hn)
  case lushr => obtain ⟨y, st1, rfl, h1⟩ := pI_inv h; obtain ⟨x, st2, rfl, h2⟩ := pL_inv h1; exact lv_lushr hx hb hd rfl (hS _ _ _ _ _ _ h2 _ _ _ _ _ _ _ _ _ _ _ _ _ _ _ _ hcx hR hSS hv hVl hk hn)
  case lcmp => obtain ⟨y, st1, rfl, h1⟩ := pL_inv h; obtain ⟨x, st2, rfl, h2⟩ := pL_inv h1; exact W.lcmp hx hb hd (hS _ _ _ _ _ _ h2 _ _ _ _ _ _ _ _ _ _ _ _ _ _ _ _ hcx hR hSS hv hVl hk hn)
  case ldc =>
    split at h
    next v hv9 => exact lv_ldc hx hb hown (hts _ (plkT_ok hv9)) hd (hS _ _ _ _ _ _ h _ _ _ _ _ _ _ _ _ _ _ _ _ _ _ _ hcx hR hSS hv hVl hk hn)
    next hv9 =>
      obtain ⟨hany, h1⟩ := h
      obtain ⟨q, hq, hqq⟩ := List.any_eq_true.mp hany
      simp only [Bool.and_eq_true] at hqq
      have e1 := Nat.eq_of_beq_eq_true hqq.1
      have e2 := Nat.eq_of_beq_eq_true hqq.2
      have hZ := hKG.2.2.1 q hq
      rw [e1, e2] at hZ
      exact va_ldcS hx hb hown hZ hd (hS _ _ _ _ _ _ h1 _ _ _ _ _ _ _ _ _ _ _ _ _ _ _ _ hcx hR hSS hv hVl hk hn)
  case ldc_w =>
    split at h
    next v hv9 => exact lv_ldcw hx hb hown (hts _ (plkT_ok hv9)) hd (hS _ _ _ _ _ _ h _ _ _ _ _ _ _ _ _ _ _ _ _ _ _ _ hcx hR hSS hv hVl hk hn)
    next => cases h
  case ldc2_w =>
    split at h
    next v hv9 => exact lv_ldc2 hx hb hown (hts _ (pllT_ok hv9)) hd (hS _ _ _ _ _ _ h _ _ _ _ _ _ _ _ _ _ _ _ _ _ _ _ hcx hR hSS hv hVl hk hn)
    next => cases h
  case ifCond cd off =>
    obtain ⟨x, st1, rfl, t, ht, h1, h2⟩ := pI_inv h
    cases cd
    case eq => exact lv_if_eq hx hb hd ht (fun q => hS _ _ _ _ _ _ (h1 q) _ _ _ _ _ _ _ _ _ _ _ _ _ _ _ _ hcx hR hSS hv hVl hk hn) (fun q => hS _ _ _ _ _ _ (h2 q) _ _ _ _ _ _ _ _ _ _ _ _ _ _ _ _ hcx hR hSS hv hVl hk hn)
    case ne => exact lv_if_ne hx hb hd ht (fun q => hS _ _ _ _ _ _ (h1 q) _ _ _ _ _ _ _ _ _ _ _ _ _ _ _ _ hcx hR hSS hv hVl hk hn) (fun q => hS _ _ _ _ _ _ (h2 (fun z => z q)) _ _ _ _ _ _ _ _ _ _ _ _ _ _ _ _ hcx hR hSS hv hVl hk hn)
    case lt => exact lv_if_lt hx hb hd ht (fun q => hS _ _ _ _ _ _ (h1 q) _ _ _ _ _ _ _ _ _ _ _ _ _ _ _ _ hcx hR hSS hv hVl hk hn) (fun q => hS _ _ _ _ _ _ (h2 q) _ _ _ _ _ _ _ _ _ _ _ _ _ _ _ _ hcx hR hSS hv hVl hk hn)
    case ge => exact lv_if_ge hx hb hd ht (fun q => hS _ _ _ _ _ _ (h1 q) _ _ _ _ _ _ _ _ _ _ _ _ _ _ _ _ hcx hR hSS hv hVl hk hn) (fun q => hS _ _ _ _ _ _ (h2 q) _ _ _ _ _ _ _ _ _ _ _ _ _ _ _ _ hcx hR hSS hv hVl hk hn)
    case gt => exact lv_if_gt hx hb hd ht (fun q => hS _ _ _ _ _ _ (h1 q) _ _ _ _ _ _ _ _ _ _ _ _ _ _ _ _ hcx hR hSS hv hVl hk hn) (fun q => hS _ _ _ _ _ _ (h2 q) _ _ _ _ _ _ _ _ _ _ _ _ _ _ _ _ hcx hR hSS hv hVl hk hn)
    case le => exact lv_if_le hx hb hd ht (fun q => hS _ _ _ _ _ _ (h1 q) _ _ _ _ _ _ _ _ _ _ _ _ _ _ _ _ hcx hR hSS hv hVl hk hn) (fun q => hS _ _ _ _ _ _ (h2 q) _ _ _ _ _ _ _ _ _ _ _ _ _ _ _ _ hcx hR hSS hv hVl hk hn)
  case if_icmp cd off =>
    obtain ⟨y, st1, rfl, h0⟩ := pI_inv h
    obtain ⟨x, st2, rfl, t, ht, h1, h2⟩ := pI_inv h0
    cases cd
    case eq => exact lv_icmp_eq hx hb hd ht (fun q => hS _ _ _ _ _ _ (h1 q) _ _ _ _ _ _ _ _ _ _ _ _ _ _ _ _ hcx hR hSS hv hVl hk hn) (fun q => hS _ _ _ _ _ _ (h2 q) _ _ _ _ _ _ _ _ _ _ _ _ _ _ _ _ hcx hR hSS hv hVl hk hn)
    case ne => exact lv_icmp_ne hx hb hd ht (fun q => hS _ _ _ _ _ _ (h1 q) _ _ _ _ _ _ _ _ _ _ _ _ _ _ _ _ hcx hR hSS hv hVl hk hn) (fun q => hS _ _ _ _ _ _ (h2 (fun z => z q)) _ _ _ _ _ _ _ _ _ _ _ _ _ _ _ _ hcx hR hSS hv hVl hk hn)
    case lt => exact lv_icmp_lt hx hb hd ht (fun q => hS _ _ _ _ _ _ (h1 q) _ _ _ _ _ _ _ _ _ _ _ _ _ _ _ _ hcx hR hSS hv hVl hk hn) (fun q => hS _ _ _ _ _ _ (h2 q) _ _ _ _ _ _ _ _ _ _ _ _ _ _ _ _ hcx hR hSS hv hVl hk hn)
    case ge => exact lv_icmp_ge hx hb hd ht (fun q => hS _ _ _ _ _ _ (h1 q) _ _ _ _ _ _ _ _ _ _ _ _ _ _ _ _ hcx hR hSS hv hVl hk hn) (fun q => hS _ _ _ _ _ _ (h2 q) _ _ _ _ _ _ _ _ _ _ _ _ _ _ _ _ hcx hR hSS hv hVl hk hn)
    case gt => exact lv_icmp_gt hx hb hd ht (fun q => hS _ _ _ _ _ _ (h1 q) _ _ _ _ _ _ _ _ _ _ _ _ _ _ _ _ hcx hR hSS hv hVl hk hn) (fun q => hS _ _ _ _ _ _ (h2 q) _ _ _ _ _ _ _ _ _ _ _ _ _ _ _ _ hcx hR hSS hv hVl hk hn)
    case le => exact lv_icmp_le hx hb hd ht (fun q => hS _ _ _ _ _ _ (h1 q) _ _ _ _ _ _ _ _ _ _ _ _ _ _ _ _ hcx hR hSS hv hVl hk hn) (fun q => hS _ _ _ _ _ _ (h2 q) _ _ _ _ _ _ _ _ _ _ _ _ _ _ _ _ hcx hR hSS hv hVl hk hn)
  case if_acmp cd off =>
    obtain ⟨y, st1, rfl, h0⟩ := pA_inv h
    obtain ⟨x, st2, rfl, t, ht, h1, h2⟩ := pA_inv h0
    cases cd
    case eq => exact lv_acmp_eq hx hb hd ht (fun q => hS _ _ _ _ _ _ (h1 q) _ _ _ _ _ _ _ _ _ _ _ _ _ _ _ _ hcx hR hSS hv hVl hk hn) (fun q => hS _ _ _ _ _ _ (h2 q) _ _ _ _ _ _ _ _ _ _ _ _ _ _ _ _ hcx hR hSS hv hVl hk hn)
    case ne => exact lv_acmp_ne hx hb hd ht (fun q => hS _ _ _ _ _ _ (h2 q) _ _ _ _ _ _ _ _ _ _ _ _ _ _ _ _ hcx hR hSS hv hVl hk hn) (fun q => hS _ _ _ _ _ _ (h1 q) _ _ _ _ _ _ _ _ _ _ _ _ _ _ _ _ hcx hR hSS hv hVl hk hn)
  case ifnull off =>
    obtain ⟨x, st1, rfl, t, ht, h1, h2⟩ := pA_inv h
    cases x with
    | none => exact lv_ifnullN hx hb hd ht (hS _ _ _ _ _ _ (h1 rfl) _ _ _ _ _ _ _ _ _ _ _ _ _ _ _ _ hcx hR hSS hv hVl hk hn)
    | some a => exact lv_ifnull hx hb hd (hS _ _ _ _ _ _ (h2 (fun q => by cases q)) _ _ _ _ _ _ _ _ _ _ _ _ _ _ _ _ hcx hR hSS hv hVl hk hn)
  case ifnonnull off =>
    obtain ⟨x, st1, rfl, t, ht, h1, h2⟩ := pA_inv h
    cases x with
    | none => exact lv_ifnonnullN hx hb hd (hS _ _ _ _ _ _ (h2 rfl) _ _ _ _ _ _ _ _ _ _ _ _ _ _ _ _ hcx hR hSS hv hVl hk hn)
    | some a => exact lv_ifnonnull hx hb hd ht (hS _ _ _ _ _ _ (h1 (fun q => by cases q)) _ _ _ _ _ _ _ _ _ _ _ _ _ _ _ _ hcx hR hSS hv hVl hk hn)
  case goto off =>
    obtain ⟨t, ht, h1⟩ := h
    exact lv_goto hx hb hd ht (hS _ _ _ _ _ _ h1 _ _ _ _ _ _ _ _ _ _ _ _ _ _ _ _ hcx hR hSS hv hVl hk hn)
  case tableswitch dflt lo hi offs =>
    obtain ⟨x, st1, rfl, t, ht, h1⟩ := pI_inv h
    rcases ht with ⟨h2, h3⟩ | ⟨h2, h3, off, h4, h5⟩
    · exact lv_tableOut hx hb hd h2 h3 (hS _ _ _ _ _ _ h1 _ _ _ _ _ _ _ _ _ _ _ _ _ _ _ _ hcx hR hSS hv hVl hk hn)
    · exact lv_tableIn hx hb hd h2 h3 h4 h5 (hS _ _ _ _ _ _ h1 _ _ _ _ _ _ _ _ _ _ _ _ _ _ _ _ hcx hR hSS hv hVl hk hn)
  case lookupswitch dflt ps =>
    obtain ⟨x, st1, rfl, hp, t, ht, h1⟩ := pI_inv h
    exact lv_lookup hx hb hd hp rfl ht (hS _ _ _ _ _ _ h1 _ _ _ _ _ _ _ _ _ _ _ _ _ _ _ _ hcx hR hSS hv hVl hk hn)
  case iaload =>
    obtain ⟨j, st1, rfl, h1⟩ := pI_inv h
    obtain ⟨a, st2, rfl, hs, hin, h2⟩ := pR_inv h1
    exact w_iald hx hb hKG hR hs hin hd (hS _ _ _ _ _ _ h2 _ _ _ _ _ _ _ _ _ _ _ _ _ _ _ _ hcx hR hSS hv hVl hk hn)
  case laload =>
    obtain ⟨j, st1, rfl, h1⟩ := pI_inv h
    obtain ⟨a, st2, rfl, hs, hin, h2⟩ := pR_inv h1
    exact w_lald hx hb hKG hR hs hin hd (hS _ _ _ _ _ _ h2 _ _ _ _ _ _ _ _ _ _ _ _ _ _ _ _ hcx hR hSS hv hVl hk hn)
  case baload =>
    obtain ⟨j, st1, rfl, h1⟩ := pI_inv h
    obtain ⟨a, st2, rfl, hs, hin, h2⟩ := pR_inv h1
    rcases hs with hs | hs
    · exact w_zald hx hb hKG hR hs hin hd (hS _ _ _ _ _ _ h2 _ _ _ _ _ _ _ _ _ _ _ _ _ _ _ _ hcx hR hSS hv hVl hk hn)
    · exact w_bald hx hb hKG hR hs hin hd (hS _ _ _ _ _ _ h2 _ _ _ _ _ _ _ _ _ _ _ _ _ _ _ _ hcx hR hSS hv hVl hk hn)
  case aaload =>
    obtain ⟨j, st1, rfl, h1⟩ := pI_inv h
    obtain ⟨a, st2, rfl, h3, h4, hin, h2⟩ := pR_inv h1
    exact w_aald hx hb hKG hR rfl h3 h4 hin hd (hS _ _ _ _ _ _ h2 _ _ _ _ _ _ _ _ _ _ _ _ _ _ _ _ hcx hR hSS hv hVl hk hn)
  case iastore =>
    obtain ⟨x, st1, rfl, h1⟩ := pI_inv h
    obtain ⟨j, st2, rfl, h2⟩ := pI_inv h1
    obtain ⟨a, st3, rfl, hs, hin, hB, h3⟩ := pR_inv h2
    exact w_iast hx hb hKG hR hSS hB hs hin hd (fun H1 locs1 hR1 hS1 => hS _ _ _ _ _ _ h3 _ _ _ _ _ _ _ _ _ _ _ _ _ _ _ _ hcx hR1 hS1 hv hVl hk hn)
  case lastore =>
    obtain ⟨x, st1, rfl, h1⟩ := pL_inv h
    obtain ⟨j, st2, rfl, h2⟩ := pI_inv h1
    obtain ⟨a, st3, rfl, hs, hin, hB, h3⟩ := pR_inv h2
    exact w_last hx hb hKG hR hSS hB hs hin hd (fun H1 locs1 hR1 hS1 => hS _ _ _ _ _ _ h3 _ _ _ _ _ _ _ _ _ _ _ _ _ _ _ _ hcx hR1 hS1 hv hVl hk hn)
  case bastore =>
    obtain ⟨x, st1, rfl, h1⟩ := pI_inv h
    obtain ⟨j, st2, rfl, h2⟩ := pI_inv h1
    obtain ⟨a, st3, rfl, hin, hB, h3⟩ := pR_inv h2
    rcases h3 with ⟨hs, h3⟩ | ⟨hs, h3⟩
    · exact w_zast hx hb hKG hR hSS hB hs hin hd (fun H1 locs1 hR1 hS1 => hS _ _ _ _ _ _ h3 _ _ _ _ _ _ _ _ _ _ _ _ _ _ _ _ hcx hR1 hS1 hv hVl hk hn)
    · exact w_bast hx hb hKG hR hSS hB hs hin hd (fun H1 locs1 hR1 hS1 => hS _ _ _ _ _ _ h3 _ _ _ _ _ _ _ _ _ _ _ _ _ _ _ _ hcx hR1 hS1 hv hVl hk hn)
  case aastore =>
    obtain ⟨x, st1, rfl, h1⟩ := pA_inv h
    obtain ⟨j, st2, rfl, h2⟩ := pI_inv h1
    obtain ⟨a, st3, rfl, h4, h5, hin, hB, ho, h3⟩ := pR_inv h2
    exact w_aast hx hb hKG hR hSS hB rfl h4 h5 hin ho hd (fun H1 locs1 hR1 hS1 => hS _ _ _ _ _ _ h3 _ _ _ _ _ _ _ _ _ _ _ _ _ _ _ _ hcx hR1 hS1 hv hVl hk hn)
  case arraylength =>
    obtain ⟨a, st1, rfl, h1, h2, h3⟩ := pR_inv h
    exact w_alen hx hb hKG hR rfl h1 h2 hd (hS _ _ _ _ _ _ h3 _ _ _ _ _ _ _ _ _ _ _ _ _ _ _ _ hcx hR hSS hv hVl hk hn)
  case getfield i =>
    obtain ⟨a, st1, rfl, hs, h100, h1⟩ := pR_inv h
    rcases hp : plF (mO M) i with ⟨c9, k9, t9⟩
    rw [hp] at hs h1
    obtain ⟨q, hq, hkk, hf, hl⟩ := plF_ok hp (by rw [← (show (wsh w a).1 = c9 from hs)]; exact h100)
    simp only at h1
    rw [← hf] at h1
    exact w_get hx hb hts hown hKG hR hs hq hkk (fun h13 => by have h14 : c9 = 13 := h13; subst h14; exact plF_13 hp) hl hd (hS _ _ _ _ _ _ h1 _ _ _ _ _ _ _ _ _ _ _ _ _ _ _ _ hcx hR hSS hv hVl hk hn)
  case putfield i =>
    split at h
    next cc f hpl =>
      obtain ⟨x, st1, rfl, h1⟩ := pI_inv h
      obtain ⟨a, st2, rfl, hs, h100, hB, hfin, hn1, hf1, h2⟩ := pR_inv h1
      obtain ⟨q, hq, hkk, hf, hl⟩ := plF_ok hpl h100
      exact w_put hx hb hts hown hKG hR hs hq hkk hl (pfin_of hcx hq hfin) hn1 hf1 hd (oneOff_sI _ _ _ _) (fun j => wv_sI _ _ _ _ _ _ (fun e => by rw [e]; exact hf)) hSS hB (fun H1 locs1 hR1 hS1 => hS _ _ _ _ _ _ h2 _ _ _ _ _ _ _ _ _ _ _ _ _ _ _ _ hcx hR1 hS1 hv hVl hk hn)
    next cc f hpl =>
      obtain ⟨x, st1, rfl, h1⟩ := pL_inv h
      obtain ⟨a, st2, rfl, hs, h100, hB, hfin, h2⟩ := pR_inv h1
      obtain ⟨q, hq, hkk, hf, hl⟩ := plF_ok hpl h100
      have hty : clY cc f = .long := kt_long hf
      exact w_put hx hb hts hown hKG hR hs hq hkk hl (pfin_of hcx hq hfin) (by rw [hty]; rfl) (by rw [hty]; rfl) hd (oneOff_sL _ _ _ _) (fun j => wv_sL _ _ _ _ _ _ (fun e => by rw [e]; exact hf)) hSS hB (fun H1 locs1 hR1 hS1 => hS _ _ _ _ _ _ h2 _ _ _ _ _ _ _ _ _ _ _ _ _ _ _ _ hcx hR1 hS1 hv hVl hk hn)
    next cc f t9 h8 h9 hpl =>
      obtain ⟨x, st1, rfl, h1⟩ := pA_inv h
      obtain ⟨a, st2, rfl, hs, h100, hB, hfin, h2⟩ := pR_inv h1
      obtain ⟨q, hq, hkk, hf, hl⟩ := plF_ok hpl h100
      have hty := kt_ref (ty := clY cc f) (by show fk cc f = 2; rw [hf]; exact fk_2 hf h8 h9) x
      exact w_put hx hb hts hown hKG hR hs hq hkk hl (pfin_of hcx hq hfin) hty.1 hty.2 hd (oneOff_sP _ _ _ _) (fun j => wv_sP _ _ _ _ _ _ (fun e => by rw [e, hf]; exact fk_2 hf h8 h9)) hSS hB (fun H1 locs1 hR1 hS1 => hS _ _ _ _ _ _ h2 _ _ _ _ _ _ _ _ _ _ _ _ _ _ _ _ hcx hR1 hS1 hv hVl hk hn)
  case getstatic i =>
    split at h
    next j hj =>
      obtain ⟨h1, h2⟩ := plZ_ok hj
      exact w_gets hx hb hts hown hKS hSS h1 h2 hd (hS _ _ _ _ _ _ h _ _ _ _ _ _ _ _ _ _ _ _ _ _ _ _ hcx hR hSS hv hVl hk hn)
    next => cases h
  case new i =>
    obtain ⟨hn1, hk1, hz1, h1⟩ := h
    obtain ⟨hi1, hi2⟩ := nC_ok hn1
    obtain ⟨q, hq, hqn, hqz⟩ := nC_cls hn1
    have hl1 := plC_ok (o := mO M) (i := i) rfl (Nat.lt_of_lt_of_le (cls_lt hq) (by decide))
    rw [hqn] at hl1 hi1 hi2
    rw [hqz] at hi1 h1 hz1
    exact w_new hx hb hts hown hKG hR hSS hq hl1 hi1 hi2 (by show cells + 1 ≤ c0; omega) (by show slots + q.2.2 ≤ n0; omega) hd (fun H1 hR1 hS1 => hS _ _ _ _ _ _ h1 _ _ _ _ _ _ _ _ _ _ _ _ _ _ _ _ hcx hR1 hS1 hv hVl (by omega) (by omega))
  case newarray ty =>
    obtain ⟨m9, st1, rfl, h1, h2, h3, h4, h5⟩ := pI_inv h
    cases ty <;> simp only at h5 <;> first | (exact absurd h5 id) | skip
    case int => exact w_newa (atype := .int) hx hb hKG hR hSS (t := 100) (by decide) (by decide) rfl (hts _ (ac_ok .int (by decide))) h1 h2 (by show cells + 1 ≤ c0; omega) (by show slots + _ ≤ n0; omega) hd (fun H1 hR1 hS1 => hS _ _ _ _ _ _ h5 _ _ _ _ _ _ _ _ _ _ _ _ _ _ _ _ hcx hR1 hS1 hv hVl (by omega) (by omega))
    case long => exact w_newa (atype := .long) hx hb hKG hR hSS (t := 101) (by decide) (by decide) rfl (hts _ (ac_ok .long (by decide))) h1 h2 (by show cells + 1 ≤ c0; omega) (by show slots + _ ≤ n0; omega) hd (fun H1 hR1 hS1 => hS _ _ _ _ _ _ h5 _ _ _ _ _ _ _ _ _ _ _ _ _ _ _ _ hcx hR1 hS1 hv hVl (by omega) (by omega))
    case boolean => exact w_newa (atype := .boolean) hx hb hKG hR hSS (t := 102) (by decide) (by decide) rfl (hts _ (ac_ok .boolean (by decide))) h1 h2 (by show cells + 1 ≤ c0; omega) (by show slots + _ ≤ n0; omega) hd (fun H1 hR1 hS1 => hS _ _ _ _ _ _ h5 _ _ _ _ _ _ _ _ _ _ _ _ _ _ _ _ hcx hR1 hS1 hv hVl (by omega) (by omega))
    case byte => exact w_newa (atype := .byte) hx hb hKG hR hSS (t := 103) (by decide) (by decide) rfl (hts _ (ac_ok .byte (by decide))) h1 h2 (by show cells + 1 ≤ c0; omega) (by show slots + _ ≤ n0; omega) hd (fun H1 hR1 hS1 => hS _ _ _ _ _ _ h5 _ _ _ _ _ _ _ _ _ _ _ _ _ _ _ _ hcx hR1 hS1 hv hVl (by omega) (by omega))
  case anewarray i =>
    obtain ⟨m9, st1, rfl, h1, h2, h3, h4, h5⟩ := pI_inv h
    split at h5
    next hc => exact w_anew hx hb hts hown hKG hR hSS (t := 104) (by decide) (by decide) rfl (plC_ok hc (by decide)) h1 h2 (by show cells + 1 ≤ c0; omega) (by show slots + _ ≤ n0; omega) hd (fun H1 hR1 hS1 => hS _ _ _ _ _ _ h5 _ _ _ _ _ _ _ _ _ _ _ _ _ _ _ _ hcx hR1 hS1 hv hVl (by omega) (by omega))
    next hc => exact w_anew hx hb hts hown hKG hR hSS (t := 105) (by decide) (by decide) rfl (plC_ok hc (by decide)) h1 h2 (by show cells + 1 ≤ c0; omega) (by show slots + _ ≤ n0; omega) hd (fun H1 hR1 hS1 => hS _ _ _ _ _ _ h5 _ _ _ _ _ _ _ _ _ _ _ _ _ _ _ _ hcx hR1 hS1 hv hVl (by omega) (by omega))
    next hc => exact w_anew hx hb hts hown hKG hR hSS (t := 106) (by decide) (by decide) rfl (plC_ok hc (by decide)) h1 h2 (by show cells + 1 ≤ c0; omega) (by show slots + _ ≤ n0; omega) hd (fun H1 hR1 hS1 => hS _ _ _ _ _ _ h5 _ _ _ _ _ _ _ _ _ _ _ _ _ _ _ _ hcx hR1 hS1 hv hVl (by omega) (by omega))
    next => cases h5
  case multianewarray i d =>
    obtain ⟨y, st1, rfl, h1⟩ := pI_inv h
    obtain ⟨x, st2, rfl, rfl, rfl, rfl, hp, hk1, hn1, h2⟩ := pI_inv h1
    obtain ⟨ho, hc⟩ := plA_ok hp
    rcases hc with ⟨rfl, hq⟩ | ⟨rfl, hq⟩
    · rw [hq] at h2
      exact w_multi (to := 107) (ti := 100) (ty := .int) hx hb hts hown hKG hR hSS (Or.inl ⟨rfl, rfl, rfl⟩) (by rw [ho, show "[[" ++ FieldType.int.toString = "[[I" from by decide]; exact ckL_ok mul_w _ List.mem_cons_self) (by show cells + 9 ≤ c0; omega) (by show slots + 136 ≤ n0; omega) hd (fun H1 locs1 hR1 hS1 => hS _ _ _ _ _ _ h2 _ _ _ _ _ _ _ _ _ _ _ _ _ _ _ _ hcx hR1 hS1 hv hVl (by omega) (by omega))
    · rw [hq] at h2
      exact w_multi (to := 108) (ti := 101) (ty := .long) hx hb hts hown hKG hR hSS (Or.inr ⟨rfl, rfl, rfl⟩) (by rw [ho, show "[[" ++ FieldType.long.toString = "[[J" from by decide]; exact ckL_ok mul_w _ (List.mem_cons_of_mem _ List.mem_cons_self)) (by show cells + 9 ≤ c0; omega) (by show slots + 136 ≤ n0; omega) hd (fun H1 locs1 hR1 hS1 => hS _ _ _ _ _ _ h2 _ _ _ _ _ _ _ _ _ _ _ _ _ _ _ _ hcx hR1 hS1 hv hVl (by omega) (by omega))
  case ireturn =>
    obtain ⟨x, st1, rfl, rfl, ⟨ty, h1, h2⟩, h3⟩ := pI_inv h
    refine W.widen (k := c0) (n := n0) (by omega) (by omega) ?_
    exact W.zret hx hb (hr.trans h1) h2 (w_end hR hSS h3) hSS.2.2 hd
  case lreturn =>
    obtain ⟨x, st1, rfl, rfl, h1, h3⟩ := pL_inv h
    refine W.widen (k := c0) (n := n0) (by omega) (by omega) ?_
    exact W.lret hx hb (hr.trans h1) (w_end hR hSS h3) hSS.2.2 hd
  case dreturn =>
    obtain ⟨x, st1, rfl, rfl, h1, h3⟩ := pD_inv h
    refine W.widen (k := c0) (n := n0) (by omega) (by omega) ?_
    exact W.dret hx hb (hr.trans h1) (w_end hR hSS h3) hSS.2.2 hd
  case areturn =>
    obtain ⟨x, st1, rfl, rfl, ⟨rt, h1, h2⟩, h3⟩ := pA_inv h
    refine W.widen (k := c0) (n := n0) (by omega) (by omega) ?_
    refine W.aret hx hb (hr.trans h1) h2 ?_ (w_end hR hSS h3) hSS.2.2 hd
    cases x with
    | none => exact Or.inl rfl
    | some a => exact Or.inr ⟨a, rfl⟩
  case return_ =>
    obtain ⟨rfl, h1, h3⟩ := h
    refine W.widen (k := c0) (n := n0) (by omega) (by omega) ?_
    exact W.vret hx hb (hr.trans h1) (w_end hR hSS h3) hSS.2.2 hd
  case checkcast i =>
    obtain ⟨a, st1, rfl, ha, hB, hl, h1⟩ := pR_inv h
    exact w_castB hx hb hown (hts _ hl) hKG hR ha hB hd (hS _ _ _ _ _ _ h1 _ _ _ _ _ _ _ _ _ _ _ _ _ _ _ _ hcx hR hSS hv hVl hk hn)
  case invokestatic i =>
    split at h
    next => exact snd_inv hS hcx hR hSS hv hVl hk hn (fun _ => hd) (fun q => by cases q) (fun q => by cases q) h
    next h9 => exact snd_nat hS hcx hR hSS hv hVl hk hn (i := i) rfl (fun _ => hd) (fun q => absurd q h.1) h.2
  case invokevirtual i =>
    split at h
    next h9 => exact snd_nat hS hcx hR hSS hv hVl hk hn (i := i) h9 (fun q => absurd rfl q) (fun _ => hd) h
    next => exact snd_inv hS hcx hR hSS hv hVl hk hn (fun q => by cases q) (fun _ => hd) (fun q => by cases q) h
  case invokespecial i =>
    split at h
    next h9 =>
      have hw := plN_ok h9 (by decide)
      obtain ⟨a, st1, rfl, hrm, hcw, h1⟩ := pR_inv h
      exact W.objInit hx hb hown (hts _ (hw _ (by simp [natWords]))) (hts _ (hw _ (by simp [natWords]))) (hts _ (hw _ (by simp [natWords]))) rfl (by show ls.size = _; rw [hml, hv.1, hVl]) rfl hd hrm.1 (by have := hrm.2; unfold cwd at hcw; show 2 * 0 + _ + 12 ≤ mW M; omega) (hS _ _ _ _ _ _ h1 _ _ _ _ _ _ _ _ _ _ _ _ _ _ _ _ hcx hR hSS hv hVl hk hn)
    next => exact snd_inv hS hcx hR hSS hv hVl hk hn (fun q => by cases q) (fun q => by cases q) (fun _ => hd) h
end SND
