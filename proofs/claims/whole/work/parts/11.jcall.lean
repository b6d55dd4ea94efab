section CALLS
variable {p : Program} {l : Launch} {e : Env} {s : State} {m : MethodId} {args : Array Value} {below : List Frame} {meth : Method} {c : Code} {H : Heap} {locs : List Loc} {cells slots : Nat} {Q : State → Prop}
variable {g : Ge} {M M' : Mi} {w : Wd} {pc k n : Nat} {ls : Array Slot} {st rest av : List Value} {c0 n0 : Nat}
theorem KG.same {u U : State} (hv : U.vm = u.vm) (h : KG g u) : KG g U := by
  have ha : u.vm.Alike U.vm := by rw [hv]; exact Vm.Alike.refl u.vm
  refine ⟨fun c q hq => u_Kn_moved ha (h.1 c q hq), fun t h1 h2 => ⟨arrOfT_moved ha (h.2.1 t h1 h2).1, (h.2.1 t h1 h2).2.moved ha⟩, fun q hq => (h.2.2.1 q hq).same hv, fun q hq => (h.2.2.2.1 q hq).same rfl hv.symm, fun C hC => (h.2.2.2.2.1 C hC).moved ha, h.2.2.2.2.2.1.moved ha, h.2.2.2.2.2.2.1.moved ha, h.2.2.2.2.2.2.2.1.same rfl hv.symm, fun a t h1 h2 h3 => arrOfT_moved ha (h.2.2.2.2.2.2.2.2 a t h1 h2 h3)⟩
theorem ru_blind : FrameBlind (va_Pc av (fun U => RU g w U)) := by
  intro a U gg mk q
  obtain ⟨q0, q1, q2, q3⟩ := q
  exact ⟨q0, q1, q2.same rfl, fun x hx => (q3 x hx).moved (Vm.Alike.refl U.vm)⟩
theorem ru_at (hcx : Cx g M p s m args meth c) (hR : Rep g w H) (hSS : va_S (fun q => gB g ≤ q) s.heap H locs) (U : State) (hU : U.heap = H) (hW : s.WarmedH U.vm) : RU g w U := by
  obtain ⟨hx, hb, hr, hml, hown, hts, hlocks, hnm, hKG, hKS⟩ := hcx
  refine ⟨by rw [hU]; exact hR, hKG.warm hW, ?_⟩
  rw [hU]
  exact (hKS.kept (fun a h1 h2 => hSS.2.1 a h1 h2)).warm hW
theorem w_run {R : Room} {gf : JFrame} {mc ms : Nat} {Qa : State → Outcome → State → Prop} {free : Addr → Prop} (h : va_Run p l e R s m args below meth c H locs cells slots mc ms gf rest Qa free)
    (kk : ∀ (v : Option Value) (st₀ t : State) (locs1 : List Loc), st₀.heap = H → Qa st₀ (.returned v) t → (∀ q ∈ locs1, q ∈ locs ∨ free q.base) → W p l e R s m args below meth c t.heap locs1 (cells + mc) (slots + ms) Q { gf with pc := gf.pc + 3, stack := v.toList ++ rest }) : W p l e R s m args below meth c H locs cells slots Q gf := by
  intro T hT X
  obtain ⟨v, st₀, t, T', L, e1, X', hL, e2, e3, hq, go⟩ := h T hT X
  obtain ⟨t', a1, b1⟩ := kk v st₀ t (locs ++ L) e1 hq (fun q hq => by
    rcases List.mem_append.mp hq with h | h
    · exact Or.inl h
    · exact Or.inr (hL q h)) T' e2 X'
  exact ⟨t', go t' a1, b1⟩
theorem w_cl {F : Option Value → Wd → Nat → Nat → Prop} {a9 : Array Value} (hc : cl0 g M' av w k n F) (hSS : va_S (fun q => gB g ≤ q) s.heap H locs) (hk : cells + k ≤ c0) (hn : slots + n ≤ n0)
    (run : ∀ (k1 n1 : Nat) (K0 : Option Value → Wd → Prop), Met l (mN M') (wsM M') (rmM M' k1 n1) (va_Pc av (fun U => RU g w U)) (Qk g K0) k1 n1 (fun q => gB g ≤ q) → cells + k1 ≤ c0 → slots + n1 ≤ n0 →
      va_Run p l e (rmM M c0 n0) s m args below meth c H locs cells slots k1 n1 (F0 m pc ls st) rest (Qk g K0 a9) (fun q => gB g ≤ q))
    (kk : ∀ (r : Option Value) (w' : Wd) (H1 : Heap) (locs1 : List Loc) (cells1 slots1 k' n' : Nat), F r w' k' n' → Rep g w' H1 → va_S (fun q => gB g ≤ q) s.heap H1 locs1 → cells1 + k' ≤ c0 → slots1 + n' ≤ n0 →
      W p l e (rmM M c0 n0) s m args below meth c H1 locs1 cells1 slots1 Q (F0 m (pc + 3) ls (r.toList ++ rest))) : W p l e (rmM M c0 n0) s m args below meth c H locs cells slots Q (F0 m pc ls st) := by
  obtain ⟨k1, n1, K0, h1, h2, h3, h4⟩ := hc
  refine w_run (run k1 n1 K0 (h3 l) (by omega) (by omega)) (fun v st₀ t locs1 e1 hq hl => ?_)
  obtain ⟨r, w', e2, hR1, hK, hF⟩ := hq
  cases e2
  refine kk v w' t.heap locs1 _ _ (k - k1) (n - n1) (h4 v w' hK) hR1 ⟨?_, ?_, ?_⟩ (by omega) (by omega)
  · have := hF.1
    rw [e1] at this
    exact Nat.le_trans hSS.1 this
  · intro q hq hB
    have h5 := hF.2 q (by rw [e1]; exact Nat.lt_of_lt_of_le hq hSS.1) hB
    rw [e1] at h5
    exact h5.trans (hSS.2.1 q hq hB)
  · intro q hq
    rcases hl q hq with h | h
    · exact hSS.2.2 q h
    · exact h
/-- what a call's answer is, by its kind -/
theorem inv_cl0 {rc : Nat} {F : List Value → Wd → Nat → Nat → Prop} (h : inv g rc M' av w k n F) : cl0 g M' av w k n fun r w' k' n' => F r.toList w' k' n' := by
  unfold inv at h
  split at h
  · obtain ⟨k1, n1, K0, h1, h2, h3, h4⟩ := h
    refine ⟨k1, n1, K0, h1, h2, h3, fun r w' hK => ?_⟩
    obtain ⟨rfl, h⟩ := h4 r w' hK
    exact h
  · obtain ⟨k1, n1, K0, h1, h2, h3, h4⟩ := h
    refine ⟨k1, n1, K0, h1, h2, h3, fun r w' hK => ?_⟩
    obtain ⟨x, rfl, h⟩ := h4 r w' hK
    exact h
  · obtain ⟨k1, n1, K0, h1, h2, h3, h4⟩ := h
    refine ⟨k1, n1, K0, h1, h2, h3, fun r w' hK => ?_⟩
    obtain ⟨x, rfl, h⟩ := h4 r w' hK
    exact h
  · obtain ⟨k1, n1, K0, h1, h2, h3, h4⟩ := h
    refine ⟨k1, n1, K0, h1, h2, h3, fun r w' hK => ?_⟩
    obtain ⟨x, rfl, h⟩ := h4 r w' hK
    exact h
  · obtain ⟨k1, n1, K0, h1, h2, h3, h4⟩ := h
    refine ⟨k1, n1, K0, h1, h2, h3, fun r w' hK => ?_⟩
    obtain ⟨x, rfl, h⟩ := h4 r w' hK
    exact h
  · cases h
theorem good_ws (hc : Cond.code (mN M') (mC M') (mL M') (mR M') ∈ GL) : GoodIn GL (wsM M') := gl_goodIn (fun _ h => h) (fun w hw => by
  rcases List.mem_cons.mp hw with h | h
  · rw [h]; exact hc
  · exact h)
theorem mw {o i kd rc np : Nat} {is : List Nat} (h : mChk o i kd rc np M' is = true) {x : Cond} (hx : x ∈ mWords o i kd M') : x ∈ GL := by
  unfold mChk at h
  simp only [Bool.and_eq_true] at h
  exact ckL_ok h.1.1.1.1.1.1.1.1 x hx
theorem mp {o i kd rc np : Nat} {is : List Nat} (h : mChk o i kd rc np M' is = true) : (mN M').cls ≠ "java/lang/invoke/MethodHandle" ∧ (mN M').cls ≠ "java/lang/invoke/VarHandle" ∧ (parseMethodDescriptor (mN M').desc).map (fun d => d.parameters.length) = some np := by
  unfold mChk at h
  simp only [Bool.and_eq_true, decide_eq_true_eq] at h
  exact ⟨h.1.1.1.1.1.2.1, h.1.1.1.1.1.2.2, h.1.1.1.1.1.1.2⟩
theorem cw_ok (hc : cwd rest ≤ 8) : 2 * (F0 m pc ls st).monitorRoom + (rest.map fun v => v.category).sum ≤ 8 := by
  have : (F0 m pc ls st).monitorRoom = 0 := rfl
  rw [this]
  unfold cwd at hc
  omega
end CALLS
