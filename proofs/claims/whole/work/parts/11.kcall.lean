section KINDS
variable {p : Program} {l : Launch} {e : Env} {s : State} {m : MethodId} {args : Array Value} {below : List Frame} {meth : Method} {c : Code} {H : Heap} {locs : List Loc} {cells slots : Nat} {Q : State → Prop}
variable {g : Ge} {M M' : Mi} {w : Wd} {pc k n : Nat} {ls : Array Slot} {st rest av : List Value} {c0 n0 i rc np k1 n1 a : Nat} {is : List Nat} {K0 : Option Value → Wd → Prop}
theorem run0 (hcx : Cx g M p s m args meth c) (hR : Rep g w H) (hSS : va_S (fun q => gB g ≤ q) s.heap H locs) (hls : ls.size = mL M) (hch : mChk (mO M) i 0 rc np M' is = true) (hcd : Cond.code (mN M') (mC M') (mL M') (mR M') ∈ GL) (hrm : rmOk M M') (hcw : cwd rest ≤ 8) (hl : av.length = np) (hst : st = av.reverse ++ rest) (hd : decode (mC M) pc = .ok (.invokestatic i, 3))
    (hM : Met l (mN M') (wsM M') (rmM M' k1 n1) (va_Pc av (fun U => RU g w U)) (Qk g K0) k1 n1 (fun q => gB g ≤ q)) (h1 : cells + k1 ≤ c0) (h2 : slots + n1 ≤ n0) : va_Run p l e (rmM M c0 n0) s m args below meth c H locs cells slots k1 n1 (F0 m pc ls st) rest (Qk g K0 av.toArray) (fun q => gB g ≤ q) := by
  obtain ⟨hx, hb, hr, hml, hown, hts, hlocks, hnm, hKG, hKS⟩ := id hcx
  exact va_runS (As := av) (rest := rest) (Ts := GL) ⟨hx, hb, hml, hown, hts⟩ hM ⟨callB_of np hts (good_ws hcd) rfl rfl rfl (hts _ (mw hch (by simp [mWords]))) (hts _ (mw hch (by simp [mWords]))) (mp hch) hrm, hts _ (mw hch (by simp [mWords]))⟩ ⟨ru_blind, fun U hU hW => ⟨rfl, ru_at hcx hR hSS U hU hW⟩⟩ rfl hl hls hst (cw_ok hcw) hd ⟨h1, h2⟩
theorem nest_of {kd : Nat} (hKG : KG g s) (hkd : kd = 3 ∨ kd = 4) (hch : mChk (mO M) i kd rc np M' is = true) : va_Nw (.methodLinkNest (oN (mO M)) i (mN M') "RowMarshal") s := by
  unfold mChk at hch
  simp only [Bool.and_eq_true] at hch
  have h := hch.1.1.1.1.2
  have hb : (kd == 3 || kd == 4) = true := by rcases hkd with rfl | rfl <;> rfl
  rw [hb] at h
  simp only [Bool.not_true, Bool.false_or] at h
  obtain ⟨q, hq, hqq⟩ := List.any_eq_true.mp h
  simp only [Bool.and_eq_true, beq_iff_eq, decide_eq_true_eq] at hqq
  have := hKG.2.2.2.1 q hq
  rw [hqq.1.1, hqq.1.2, hqq.2] at this
  exact this
theorem run3 (hcx : Cx g M p s m args meth c) (hR : Rep g w H) (hSS : va_S (fun q => gB g ≤ q) s.heap H locs) (hls : ls.size = mL M) (hch : mChk (mO M) i 3 rc np M' is = true) (hcd : Cond.code (mN M') (mC M') (mL M') (mR M') ∈ GL) (hrm : rmOk M M') (hcw : cwd rest ≤ 8) (hl : av.length = np) (hst : st = av.reverse ++ rest) (hd : decode (mC M) pc = .ok (.invokestatic i, 3))
    (hM : Met l (mN M') (wsM M') (rmM M' k1 n1) (va_Pc av (fun U => RU g w U)) (Qk g K0) k1 n1 (fun q => gB g ≤ q)) (h1 : cells + k1 ≤ c0) (h2 : slots + n1 ≤ n0) : va_Run p l e (rmM M c0 n0) s m args below meth c H locs cells slots k1 n1 (F0 m pc ls st) rest (Qk g K0 av.toArray) (fun q => gB g ≤ q) := by
  obtain ⟨hx, hb, hr, hml, hown, hts, hlocks, hnm, hKG, hKS⟩ := id hcx
  exact va_runSN (As := av) (rest := rest) (Ts := GL) ⟨hx, hb, hml, hown, hts⟩ hM ⟨va_cnB np hts (good_ws hcd) rfl rfl rfl (nest_of hKG (Or.inl rfl) hch) (hts _ (mw hch (by simp [mWords]))) (mp hch) hrm, hts _ (mw hch (by simp [mWords])), trivial⟩ ⟨ru_blind, fun U hU hW => ⟨rfl, ru_at hcx hR hSS U hU hW⟩⟩ rfl hl hls hst (cw_ok hcw) hd ⟨h1, h2⟩
theorem init_of {kd : Nat} (hkd : kd = 2 ∨ kd = 4) (hch : mChk (mO M) i kd rc np M' is = true) : (mN M').name = "<init>" ∧ mR M' = none := by
  unfold mChk at hch
  simp only [Bool.and_eq_true] at hch
  have h := hch.1.1.1.2
  have hb : (kd == 2 || kd == 4) = true := by rcases hkd with rfl | rfl <;> rfl
  rw [hb] at h
  simp only [Bool.not_true, Bool.false_or, Bool.and_eq_true, decide_eq_true_eq] at h
  exact h
theorem run2 (hcx : Cx g M p s m args meth c) (hR : Rep g w H) (hSS : va_S (fun q => gB g ≤ q) s.heap H locs) (hls : ls.size = mL M) (hch : mChk (mO M) i 2 rc np M' is = true) (hcd : Cond.code (mN M') (mC M') (mL M') (mR M') ∈ GL) (hrm : rmOk M M') (hcw : cwd rest ≤ 8) (hl : av.length = np) (hst : st = av.reverse ++ .ref a :: rest) (hd : decode (mC M) pc = .ok (.invokespecial i, 3))
    (hM : Met l (mN M') (wsM M') (rmM M' k1 n1) (va_Pc (.ref a :: av) (fun U => RU g w U)) (Qk g K0) k1 n1 (fun q => gB g ≤ q)) (h1 : cells + k1 ≤ c0) (h2 : slots + n1 ≤ n0) : va_Run p l e (rmM M c0 n0) s m args below meth c H locs cells slots k1 n1 (F0 m pc ls st) rest (Qk g K0 (Value.ref a :: av).toArray) (fun q => gB g ≤ q) := by
  obtain ⟨hx, hb, hr, hml, hown, hts, hlocks, hnm, hKG, hKS⟩ := id hcx
  obtain ⟨hi1, hi2⟩ := init_of (Or.inl rfl) hch
  have hw : wsM M' = Cond.code (mN M') (mC M') (mL M') none :: GL := by unfold wsM; rw [hi2]
  exact va_runI (As := av) (rest := rest) (Ts := GL) ⟨hx, hb, hml, hown, hts⟩ hM ⟨callB_of np hts (good_ws hcd) hw rfl rfl (hts _ (mw hch (by simp [mWords]))) (hts _ (mw hch (by simp [mWords]))) (mp hch) hrm, hi1, hts _ (mw hch (by simp [mWords]))⟩ ⟨ru_blind, fun U hU hW => ⟨rfl, ru_at hcx hR hSS U hU hW⟩⟩ rfl hl hls hst (cw_ok hcw) hd ⟨h1, h2⟩
theorem run4 (hcx : Cx g M p s m args meth c) (hR : Rep g w H) (hSS : va_S (fun q => gB g ≤ q) s.heap H locs) (hls : ls.size = mL M) (hch : mChk (mO M) i 4 rc np M' is = true) (hcd : Cond.code (mN M') (mC M') (mL M') (mR M') ∈ GL) (hrm : rmOk M M') (hcw : cwd rest ≤ 8) (hl : av.length = np) (hst : st = av.reverse ++ .ref a :: rest) (hd : decode (mC M) pc = .ok (.invokespecial i, 3))
    (hM : Met l (mN M') (wsM M') (rmM M' k1 n1) (va_Pc (.ref a :: av) (fun U => RU g w U)) (Qk g K0) k1 n1 (fun q => gB g ≤ q)) (h1 : cells + k1 ≤ c0) (h2 : slots + n1 ≤ n0) : va_Run p l e (rmM M c0 n0) s m args below meth c H locs cells slots k1 n1 (F0 m pc ls st) rest (Qk g K0 (Value.ref a :: av).toArray) (fun q => gB g ≤ q) := by
  obtain ⟨hx, hb, hr, hml, hown, hts, hlocks, hnm, hKG, hKS⟩ := id hcx
  obtain ⟨hi1, hi2⟩ := init_of (Or.inr rfl) hch
  have hw : wsM M' = Cond.code (mN M') (mC M') (mL M') none :: GL := by unfold wsM; rw [hi2]
  exact va_runIN (As := av) (rest := rest) (Ts := GL) ⟨hx, hb, hml, hown, hts⟩ hM ⟨va_cnB np hts (good_ws hcd) hw rfl rfl (nest_of hKG (Or.inr rfl) hch) (hts _ (mw hch (by simp [mWords]))) (mp hch) hrm, hi1, hts _ (mw hch (by simp [mWords]))⟩ ⟨ru_blind, fun U hU hW => ⟨rfl, ru_at hcx hR hSS U hU hW⟩⟩ rfl hl hls hst (cw_ok hcw) hd ⟨h1, h2⟩
theorem zrecv_of (hKG : KG g s) (hR : Rep g w H) {ci : Nat} {q : vw_C} (hs : (wsh w a).1 = ci) (hq : cls[ci]? = some q) : ∃ cellB : Cell, H[a]? = some cellB ∧ cellB.vm.isStatics = false ∧ s.vm.findClass q.1 = some cellB.cls := by
  obtain ⟨cell, q1, q2, q3, q4⟩ := hR.ob hs hq
  exact ⟨cell, q1, q3, by rw [q2]; exact (hKG.1 _ _ hq).2.1⟩
theorem run1 (hcx : Cx g M p s m args meth c) (hR : Rep g w H) (hSS : va_S (fun q => gB g ≤ q) s.heap H locs) (hls : ls.size = mL M) (hch : mChk (mO M) i 1 rc np M' is = true) (hcd : Cond.code (mN M') (mC M') (mL M') (mR M') ∈ GL) (hrm : rmOk M M') (hcw : cwd rest ≤ 8) (hl : av.length = np) (hst : st = av.reverse ++ .ref a :: rest) (hs : (wsh w a).1 = mO M') (hd : decode (mC M) pc = .ok (.invokevirtual i, 3))
    (hM : Met l (mN M') (wsM M') (rmM M' k1 n1) (va_Pc (.ref a :: av) (fun U => RU g w U)) (Qk g K0) k1 n1 (fun q => gB g ≤ q)) (h1 : cells + k1 ≤ c0) (h2 : slots + n1 ≤ n0) : va_Run p l e (rmM M c0 n0) s m args below meth c H locs cells slots k1 n1 (F0 m pc ls st) rest (Qk g K0 (Value.ref a :: av).toArray) (fun q => gB g ≤ q) := by
  obtain ⟨hx, hb, hr, hml, hown, hts, hlocks, hnm, hKG, hKS⟩ := id hcx
  have hq : ∃ q : vw_C, cls[mO M']? = some q ∧ q.1 = (mN M').cls := by
    have h9 := hch
    unfold mChk at h9
    simp only [Bool.and_eq_true] at h9
    have h := h9.1.1.2
    simp only [beq_self_eq_true, Bool.not_true, Bool.false_or, decide_eq_true_eq] at h
    cases hc : cls[mO M']? with
    | none => rw [hc] at h; cases h
    | some q => rw [hc] at h; exact ⟨q, rfl, Option.some.inj h⟩
  obtain ⟨q, hq, hqc⟩ := hq
  have hrec := zrecv_of hKG hR hs hq
  rw [hqc] at hrec
  exact va_runV (As := av) (rest := rest) (Ts := GL) (C := (mN M').cls) ⟨hx, hb, hml, hown, hts⟩ hM ⟨callB_of np hts (good_ws hcd) rfl rfl rfl (hts _ (mw hch (by simp [mWords]))) (hts _ (mw hch (by simp [mWords]))) (mp hch) hrm, hts _ (mw hch (by simp [mWords])), hts _ (mw hch (by simp [mWords]))⟩ ⟨ru_blind, hrec, fun U hU hW => ⟨rfl, ru_at hcx hR hSS U hU hW⟩⟩ rfl hl hls hst (cw_ok hcw) hd ⟨h1, h2⟩
theorem run12 (hcx : Cx g M p s m args meth c) (hR : Rep g w H) (hSS : va_S (fun q => gB g ≤ q) s.heap H locs) (hls : ls.size = mL M) (hch : mChk (mO M) i 12 rc np M' is = true) (hcd : Cond.code (mN M') (mC M') (mL M') (mR M') ∈ GL) (hrm : rmOk M M') (hcw : cwd rest ≤ 8) (hl : av.length = np) (hst : st = av.reverse ++ .ref a :: rest) (hs : (wsh w a).1 = 14) (hd : decode (mC M) pc = .ok (.invokevirtual i, 3))
    (hM : Met l (mN M') (wsM M') (rmM M' k1 n1) (va_Pc (.ref a :: av) (fun U => RU g w U)) (Qk g K0) k1 n1 (fun q => gB g ≤ q)) (h1 : cells + k1 ≤ c0) (h2 : slots + n1 ≤ n0) : va_Run p l e (rmM M c0 n0) s m args below meth c H locs cells slots k1 n1 (F0 m pc ls st) rest (Qk g K0 (Value.ref a :: av).toArray) (fun q => gB g ≤ q) := by
  obtain ⟨hx, hb, hr, hml, hown, hts, hlocks, hnm, hKG, hKS⟩ := id hcx
  have hcls : (mN M').cls = "java/lang/AbstractStringBuilder" := by
    have h9 := hch
    unfold mChk at h9
    simp only [Bool.and_eq_true] at h9
    have h := h9.1.2
    simpa using h
  have hrec := zrecv_of hKG hR hs (q := (RJ4, TJ4, 4)) rfl
  have hT : GoodIn GL (va_wsU (oN (mO M)) i "java/lang/StringBuilder" (mN M').cls (mN M') (mN M') (wsM M')) := by
    intro x hx
    unfold va_wsU at hx
    rcases List.mem_append.mp hx with h | h
    · exact gl_goodIn (fun _ h => h) (fun y hy => mw hch (by simp [mWords] at hy ⊢; rcases hy with h | h | h | h | h <;> simp [h])) x h
    · exact good_ws hcd x h
  have hm := mp hch
  exact va_runU (As := av) (rest := rest) (Ts := GL) (C := "java/lang/StringBuilder") ⟨hx, hb, hml, hown, hts⟩ hM (va_cwU np hts hT rfl rfl rfl rfl ⟨hm.1, hm.2.1, hm.2.2⟩ hrm) ⟨ru_blind, hrec, fun U hU hW => ⟨rfl, ru_at hcx hR hSS U hU hW⟩⟩ rfl hl hls hst (cw_ok hcw) hd ⟨h1, h2⟩
theorem run13 (hcx : Cx g M p s m args meth c) (hR : Rep g w H) (hSS : va_S (fun q => gB g ≤ q) s.heap H locs) (hls : ls.size = mL M) (hch : mChk (mO M) i 13 rc np M' is = true) (hcd : Cond.code (mN M') (mC M') (mL M') (mR M') ∈ GL) (hrm : rmOk M M') (hcw : cwd rest ≤ 8) (hl : av.length = np) (hst : st = av.reverse ++ .ref a :: rest) (hs : (wsh w a).1 = 14) (hd : decode (mC M) pc = .ok (.invokespecial i, 3))
    (hM : Met l (mN M') (wsM M') (rmM M' k1 n1) (va_Pc (.ref a :: av) (fun U => RU g w U)) (Qk g K0) k1 n1 (fun q => gB g ≤ q)) (h1 : cells + k1 ≤ c0) (h2 : slots + n1 ≤ n0) : va_Run p l e (rmM M c0 n0) s m args below meth c H locs cells slots k1 n1 (F0 m pc ls st) rest (Qk g K0 (Value.ref a :: av).toArray) (fun q => gB g ≤ q) := by
  obtain ⟨hx, hb, hr, hml, hown, hts, hlocks, hnm, hKG, hKS⟩ := id hcx
  have hni : (mN M').name ≠ "<init>" := by
    have h9 := hch
    unfold mChk at h9
    simp only [Bool.and_eq_true] at h9
    have h := h9.2
    simpa using h
  have hrec := zrecv_of hKG hR hs (q := (RJ4, TJ4, 4)) rfl
  have hT : GoodIn GL (va_wsSU (oN (mO M)) i (mN M') (wsM M')) := by
    intro x hx
    unfold va_wsSU at hx
    rcases List.mem_append.mp hx with h | h
    · exact gl_goodIn (fun _ h => h) (fun y hy => mw hch (by simp [mWords] at hy ⊢; rcases hy with h | h | h | h | h <;> simp [h])) x h
    · exact good_ws hcd x h
  have hm := mp hch
  exact va_runSU (As := av) (rest := rest) (Ts := GL) (C := "java/lang/StringBuilder") (hKG.1 14 (RJ4, TJ4, 4) rfl).2 ⟨hx, hb, hml, hown, hts⟩ hM (va_cwSU np hts hT rfl rfl rfl ⟨hni, hm.2.2⟩ hrm) ⟨ru_blind, hrec, fun U hU hW => ⟨rfl, ru_at hcx hR hSS U hU hW⟩⟩ rfl hl hls hst (cw_ok hcw) hd ⟨h1, h2⟩
theorem run14 (hcx : Cx g M p s m args meth c) (hR : Rep g w H) (hSS : va_S (fun q => gB g ≤ q) s.heap H locs) (hls : ls.size = mL M) (hch : mChk (mO M) i 14 rc np M' is = true) (hcd : Cond.code (mN M') (mC M') (mL M') (mR M') ∈ GL) (hy : mN M' = yJ4_length_8abf5) (hrm : rmOk M M') (hcw : cwd rest ≤ 8) (hl : av.length = np) (hst : st = av.reverse ++ .ref a :: rest) (hs : (wsh w a).1 = 14) (hd : decode (mC M) pc = .ok (.invokevirtual i, 3))
    (hM : Met l (mN M') (wsM M') (rmM M' k1 n1) (va_Pc (.ref a :: av) (fun U => RU g w U)) (Qk g K0) k1 n1 (fun q => gB g ≤ q)) (h1 : cells + k1 ≤ c0) (h2 : slots + n1 ≤ n0) : va_Run p l e (rmM M c0 n0) s m args below meth c H locs cells slots k1 n1 (F0 m pc ls st) rest (Qk g K0 (Value.ref a :: av).toArray) (fun q => gB g ≤ q) := by
  obtain ⟨hx, hb, hr, hml, hown, hts, hlocks, hnm, hKG, hKS⟩ := id hcx
  have hrec := zrecv_of hKG hR hs (q := (RJ4, TJ4, 4)) rfl
  have hT : GoodIn GL (va_wsO (oN (mO M)) i "java/lang/StringBuilder" "java/lang/AbstractStringBuilder" (mxN (mN M')) (mN M') (wsM M')) := by
    intro x hx
    unfold va_wsO at hx
    rcases List.mem_append.mp hx with h | h
    · exact gl_goodIn (fun _ h => h) (fun y hy => mw hch (by simp [mWords, mxN] at hy ⊢; rcases hy with h | h | h | h | h | h <;> simp [h])) x h
    · exact good_ws hcd x h
  have hm := mp hch
  have hx0 := cdx_length
  rw [← hy] at hx0
  exact va_runU (As := av) (rest := rest) (Ts := GL) (C := "java/lang/StringBuilder") ⟨hx, hb, hml, hown, hts⟩ hM (va_cwO np hts hT rfl rfl rfl hx0 ⟨by decide, by decide, hm.2.2⟩ hrm) ⟨ru_blind, hrec, fun U hU hW => ⟨rfl, ru_at hcx hR hSS U hU hW⟩⟩ rfl hl hls hst (cw_ok hcw) hd ⟨h1, h2⟩
end KINDS
