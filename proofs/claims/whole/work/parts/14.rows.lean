/-! a method's locals at its entry -/
def entL : List Value → List (Option Value)
  | [] => []
  | .long x :: vs => some (.long x) :: none :: entL vs
  | .double x :: vs => some (.double x) :: none :: entL vs
  | v :: vs => some v :: entL vs
def entV (av : List Value) (n : Nat) : List (Option Value) := entL av ++ List.replicate (n - (entL av).length) none
theorem entL_1 {v : Value} (h : v.category = 1) (vs : List Value) : entL (v :: vs) = some v :: entL vs := by
  cases v <;> first | rfl | (simp [Value.category] at h)
theorem entL_2 {v : Value} (h : v.category = 2) (vs : List Value) : entL (v :: vs) = some v :: none :: entL vs := by
  cases v <;> first | rfl | (simp [Value.category] at h)
theorem entL_len (av : List Value) : (entL av).length = (lg_sl av).length := by
  induction av with
  | nil => rfl
  | cons v vs ih =>
    rcases lv_cat v with h | h
    · rw [entL_1 h]
      unfold lg_sl at ih ⊢
      simp [h, ih]
    · rw [entL_2 h]
      unfold lg_sl at ih ⊢
      simp [h, ih]
theorem entL_args (av : List Value) : ∀ (o i : Nat) (u : Value), (entL av)[i]? = some (some u) → (o + i, u) ∈ lv_args o av := by
  induction av with
  | nil => intro o i u h; simp [entL] at h
  | cons v vs ih =>
    intro o i u h
    rcases lv_cat v with hc | hc
    · rw [entL_1 hc] at h
      unfold lv_args
      cases i with
      | zero =>
        simp at h
        subst h
        exact List.mem_cons_self
      | succ i =>
        simp at h
        have := ih (o + 1) i u h
        rw [show o + 1 + i = o + (i + 1) by omega] at this
        refine List.mem_cons_of_mem _ ?_
        simpa [hc] using this
    · rw [entL_2 hc] at h
      unfold lv_args
      match i, h with
      | 0, h =>
        simp at h
        subst h
        exact List.mem_cons_self
      | 1, h => simp at h
      | i + 2, h =>
        simp at h
        have := ih (o + 2) i u h
        rw [show o + 2 + i = o + (i + 2) by omega] at this
        refine List.mem_cons_of_mem _ ?_
        simpa [hc] using this
theorem Met_ofF {l : Launch} {y : MethodName} {ws ws' : List Cond} {rm : Room} {Pc : Array Value → State → Prop} {Qc : Array Value → State → Outcome → State → Prop} {mc ms : Nat} {free : Addr → Prop} {cc : ByteArray} {maxL : Nat} {ret : Option FieldType}
    (hy : plainFor y = true) (hw : ws = Cond.code y cc maxL ret :: ws')
    (body : ∀ p e s m args below meth c s₁, BodyLoose p l y (headSpec ws rm) cc maxL ret e s m args below meth c s₁ → c.maxLocals = maxL → Pc args s →
      W p l e (headSpec ws rm).room s m args below meth c s.heap [] 0 0 (MQ below Qc args s mc ms free) (entryFrame m args maxL)) : Met l y ws rm Pc Qc mc ms free := by
  refine MetFree.of_bodySF (code := cc) (maxLocals := maxL) (ret := ret) hy ?_ ?_
  · intro args s m h hn
    obtain ⟨meth, c, h1, h2, h3, h4, h5, h6, -, -⟩ := Cond.code_spec hn (atoms_spec (ws := ws) h _ (by rw [hw]; exact List.mem_cons_self))
    exact ⟨meth, c, h1, h2, h3, h4, h5, h6⟩
  · intro p e s m args below meth c s₁ B hml hP _
    have hh0 : s₁.heap = s.heap := by rw [B.state]; rfl
    obtain ⟨t, a1, o, b1, b2, b3⟩ := body p e s m args below meth c s₁ B hml hP s₁ hh0 (Stand.of_body B)
    exact ⟨t, o, a1, b1, b2, ⟨b3.1, b3.2⟩⟩
theorem Cl_of_R {g : Ge} {M : Mi} {K : Option Value → Wd → Prop} {av : List Value} {w : Wd} {k n : Nat} (hy : plainFor (mN M) = true) (ho : (mN M).cls = oN (mO M)) (hlen : (entL av).length ≤ mL M) (h : R g M K 0 (entV av (mL M)) [] w k n) : Cl g M k n av w K := by
  intro l
  refine Met_ofF (cc := mC M) (maxL := mL M) (ret := mR M) hy rfl ?_
  intro p e s m args below meth c s₁ B hml hv
  obtain ⟨rfl, hRU⟩ := hv
  have hl := lv_entry av (n := mL M) (by rw [← entL_len]; exact hlen)
  rw [lg_entry_eq]
  generalize (lg_sl av ++ List.replicate (mL M - (lg_sl av).length) Slot.unset).toArray = ls at hl ⊢
  have hown : s.vm.findClass (mN M).cls = some m.cls := findClass_of_methodNamed B.named
  rw [ho] at hown
  have hts := atoms_spec (ws := wsM M) B.pre
  have hcx : Cx g M p s m av.toArray meth c := ⟨B.exec, B.bytes, B.returns, hml, hown, fun w hw => hts w (List.mem_cons_of_mem _ hw), B.notSynchronized, fun h => (name_of_methodNamed B.named B.method).1.trans h, hRU.2.1, hRU.2.2⟩
  refine R_sound h p l e s m av.toArray below meth c s.heap [] 0 0 ls k n hcx hRU.1 va_S.rf ⟨?_, hl.2.1, fun i v hi => ?_⟩ ?_ (by omega) (by omega)
  · rw [hl.1]
    unfold entV
    simp
    omega
  · unfold entV at hi
    by_cases h1 : i < (entL av).length
    · rw [List.getElem?_append_left h1] at hi
      have := entL_args av 0 i v hi
      rw [Nat.zero_add] at this
      exact hl.2.2 (i, v) this
    · rw [List.getElem?_append_right (by omega)] at hi
      have := List.eq_of_mem_replicate (List.mem_of_getElem? hi)
      cases this
  · unfold entV
    simp
    omega
/-! one instruction, as an equation -/
section EQ
variable {g : Ge} {M M' : Mi} {K : Option Value → Wd → Prop} {pc i c f t kd rc np : Nat} {off : Int} (V : List (Option Value)) (st : List Value) (w : Wd) (k n : Nat)
theorem R_getI (hd : decode (mC M) pc = .ok (.getfield i, 3)) (hp : plF (mO M) i = (c, f, 0)) (hc : c < 100) : R g M K pc V st w k n = pR st fun a st => (wsh w a).1 = c ∧ R g M K (pc + 3) V (.int (wI w a f) :: st) w k n := by
  rw [R_at hd rfl]
  simp only [stp, hp]
  congr 1
  funext a st
  apply propext
  constructor
  · rintro ⟨h1, h2, h3⟩; exact ⟨h1, h3⟩
  · rintro ⟨h1, h3⟩; exact ⟨h1, by omega, h3⟩
theorem R_getL (hd : decode (mC M) pc = .ok (.getfield i, 3)) (hp : plF (mO M) i = (c, f, 1)) (hc : c < 100) : R g M K pc V st w k n = pR st fun a st => (wsh w a).1 = c ∧ R g M K (pc + 3) V (.long (wL w a f) :: st) w k n := by
  rw [R_at hd rfl]
  simp only [stp, hp]
  congr 1
  funext a st
  apply propext
  constructor
  · rintro ⟨h1, h2, h3⟩; exact ⟨h1, h3⟩
  · rintro ⟨h1, h3⟩; exact ⟨h1, by omega, h3⟩
theorem R_getR (hd : decode (mC M) pc = .ok (.getfield i, 3)) (hp : plF (mO M) i = (c, f, 2)) (hc : c < 100) : R g M K pc V st w k n = pR st fun a st => (wsh w a).1 = c ∧ R g M K (pc + 3) V (va_rf (wP w a f) :: st) w k n := by
  rw [R_at hd rfl]
  simp only [stp, hp]
  congr 1
  funext a st
  apply propext
  constructor
  · rintro ⟨h1, h2, h3⟩; exact ⟨h1, h3⟩
  · rintro ⟨h1, h3⟩; exact ⟨h1, by omega, h3⟩
theorem R_putI (hd : decode (mC M) pc = .ok (.putfield i, 3)) (hp : plF (mO M) i = (c, f, 0)) (hc : c < 100) (hf : pfin M c f) (hty : clY c f = .int) : R g M K pc V st w k n = pI st fun x st => pR st fun a st => (wsh w a).1 = c ∧ gB g ≤ a ∧ R g M K (pc + 3) V st (sI w a f x) k n := by
  rw [R_at hd rfl]
  simp only [stp, hp, hty]
  congr 1
  funext x st
  congr 1
  funext a st
  apply propext
  constructor
  · rintro ⟨h1, h2, h3, h4, h5, h6, h7⟩; exact ⟨h1, h3, h7⟩
  · rintro ⟨h1, h3, h7⟩; exact ⟨h1, hc, h3, hf, rfl, rfl, h7⟩
/-- a number that a field of a narrow type takes as it is -/
def zN (ty : FieldType) (x : Int32) : Prop := narrow ty (.int x) = .int x ∧ fits ty (.int x) = true
theorem R_putZ {ty : FieldType} (hd : decode (mC M) pc = .ok (.putfield i, 3)) (hp : plF (mO M) i = (c, f, 0)) (hc : c < 100) (hf : pfin M c f) (hty : clY c f = ty) : R g M K pc V st w k n = pI st fun x st => pR st fun a st => (wsh w a).1 = c ∧ gB g ≤ a ∧ zN ty x ∧ R g M K (pc + 3) V st (sI w a f x) k n := by
  rw [R_at hd rfl]
  simp only [stp, hp, hty]
  congr 1
  funext x st
  congr 1
  funext a st
  apply propext
  constructor
  · rintro ⟨h1, h2, h3, h4, h5, h6, h7⟩; exact ⟨h1, h3, ⟨h5, h6⟩, h7⟩
  · rintro ⟨h1, h3, ⟨h5, h6⟩, h7⟩; exact ⟨h1, hc, h3, hf, h5, h6, h7⟩
theorem R_putL (hd : decode (mC M) pc = .ok (.putfield i, 3)) (hp : plF (mO M) i = (c, f, 1)) (hc : c < 100) (hf : pfin M c f) : R g M K pc V st w k n = pL st fun x st => pR st fun a st => (wsh w a).1 = c ∧ gB g ≤ a ∧ R g M K (pc + 3) V st (sL w a f x) k n := by
  rw [R_at hd rfl]
  simp only [stp, hp]
  congr 1
  funext x st
  congr 1
  funext a st
  apply propext
  constructor
  · rintro ⟨h1, h2, h3, h4, h7⟩; exact ⟨h1, h3, h7⟩
  · rintro ⟨h1, h3, h7⟩; exact ⟨h1, hc, h3, hf, h7⟩
theorem R_putR (hd : decode (mC M) pc = .ok (.putfield i, 3)) (hp : plF (mO M) i = (c, f, 2)) (hc : c < 100) (hf : pfin M c f) : R g M K pc V st w k n = pA st fun x st => pR st fun a st => (wsh w a).1 = c ∧ gB g ≤ a ∧ R g M K (pc + 3) V st (sP w a f x) k n := by
  rw [R_at hd rfl]
  simp only [stp, hp]
  congr 1
  funext x st
  congr 1
  funext a st
  apply propext
  constructor
  · rintro ⟨h1, h2, h3, h4, h7⟩; exact ⟨h1, h3, h7⟩
  · rintro ⟨h1, h3, h7⟩; exact ⟨h1, hc, h3, hf, h7⟩
theorem jmp_eq {t : Nat} {F : Nat → Prop} (h : (pc : Int) + off = (t : Int)) : jmp pc off F = F t := by
  apply propext
  constructor
  · rintro ⟨t', h1, h2⟩
    have : t' = t := by have := h1.symm.trans h; omega
    rw [← this]
    exact h2
  · intro q; exact ⟨t, h, q⟩
theorem R_goto (hd : decode (mC M) pc = .ok (.goto off, 3)) (ht : (pc : Int) + off = (t : Int)) : R g M K pc V st w k n = R g M K t V st w k n := by
  rw [R_at hd rfl]
  exact jmp_eq ht
theorem R_if {cd : ClassFile.Cond} (hd : decode (mC M) pc = .ok (.ifCond cd off, 3)) (ht : (pc : Int) + off = (t : Int)) : R g M K pc V st w k n = pI st fun x st => (condI cd x 0 → R g M K t V st w k n) ∧ (¬ condI cd x 0 → R g M K (pc + 3) V st w k n) := by
  rw [R_at hd rfl]
  simp only [stp, jmp_eq ht]
theorem R_icmp {cd : ClassFile.Cond} (hd : decode (mC M) pc = .ok (.if_icmp cd off, 3)) (ht : (pc : Int) + off = (t : Int)) : R g M K pc V st w k n = pI st fun y st => pI st fun x st => (condI cd x y → R g M K t V st w k n) ∧ (¬ condI cd x y → R g M K (pc + 3) V st w k n) := by
  rw [R_at hd rfl]
  simp only [stp, jmp_eq ht]
theorem R_acmp {cd : ACond} (hd : decode (mC M) pc = .ok (.if_acmp cd off, 3)) (ht : (pc : Int) + off = (t : Int)) : R g M K pc V st w k n = pA st fun y st => pA st fun x st => (x = y → R g M K (if cd = .eq then t else pc + 3) V st w k n) ∧ (¬ x = y → R g M K (if cd = .eq then pc + 3 else t) V st w k n) := by
  rw [R_at hd rfl]
  simp only [stp, jmp_eq ht]
theorem R_null (hd : decode (mC M) pc = .ok (.ifnull off, 3)) (ht : (pc : Int) + off = (t : Int)) : R g M K pc V st w k n = pA st fun x st => (x = none → R g M K t V st w k n) ∧ (¬ x = none → R g M K (pc + 3) V st w k n) := by
  rw [R_at hd rfl]
  simp only [stp, jmp_eq ht]
theorem R_nonnull (hd : decode (mC M) pc = .ok (.ifnonnull off, 3)) (ht : (pc : Int) + off = (t : Int)) : R g M K pc V st w k n = pA st fun x st => (¬ x = none → R g M K t V st w k n) ∧ (x = none → R g M K (pc + 3) V st w k n) := by
  rw [R_at hd rfl]
  simp only [stp, jmp_eq ht]
theorem R_ldcI {v : Int32} (hd : decode (mC M) pc = .ok (.ldc i, 2)) (hp : plkT (mO M) i = some v) : R g M K pc V st w k n = R g M K (pc + 2) V (.int v :: st) w k n := by
  rw [R_at hd rfl]
  simp only [stp, hp]
theorem R_ldcS (hd : decode (mC M) pc = .ok (.ldc i, 2)) (hp : plkT (mO M) i = none) (hs : strT.any (fun q => Nat.beq q.1 (mO M) && Nat.beq q.2.1 i) = true) : R g M K pc V st w k n = R g M K (pc + 2) V (.ref (gA g (mO M) i) :: st) w k n := by
  rw [R_at hd rfl]
  simp only [stp, hp, hs, true_and]
theorem R_ldcW {v : Int32} (hd : decode (mC M) pc = .ok (.ldc_w i, 3)) (hp : plkT (mO M) i = some v) : R g M K pc V st w k n = R g M K (pc + 3) V (.int v :: st) w k n := by
  rw [R_at hd rfl]
  simp only [stp, hp]
theorem R_ldcL {v : Int64} (hd : decode (mC M) pc = .ok (.ldc2_w i, 3)) (hp : pllT (mO M) i = some v) : R g M K pc V st w k n = R g M K (pc + 3) V (.long v :: st) w k n := by
  rw [R_at hd rfl]
  simp only [stp, hp]
theorem R_gets {j : Nat} (hd : decode (mC M) pc = .ok (.getstatic i, 3)) (hp : plZ (mO M) i = some j) : R g M K pc V st w k n = R g M K (pc + 3) V (staV g (stQ j) :: st) w k n := by
  rw [R_at hd rfl]
  simp only [stp, hp]
theorem R_new (hd : decode (mC M) pc = .ok (.new i, 3)) (hp : plC (mO M) i = c) (hn : nC.elem c = true) {z : Nat} (hz : clZ c = z) : R g M K pc V st w k n = (1 ≤ k ∧ z ≤ n ∧ R g M K (pc + 3) V (.ref (wn w) :: st) (nw w c 0) (k - 1) (n - z)) := by
  rw [R_at hd rfl]
  simp only [stp, hp, hn, hz, true_and]
theorem R_invS (hd : decode (mC M) pc = .ok (.invokestatic i, 3)) (hpn : plN (mO M) i = 0) (hp : plM (mO M) i = some (kd, rc, np, M')) (hk : kd = 0 ∨ kd = 3) (hrm : rmOk M M') : R g M K pc V st w k n = popA np [] st fun av rest => cwd rest ≤ 8 ∧ inv g rc M' av w k n fun vs w' k' n' => R g M K (pc + 3) V (vs ++ rest) w' k' n' := by
  rw [R_at hd rfl]
  simp only [stp, hpn, hp, if_true, stInv, hk, hrm, true_and]
theorem R_invV (hd : decode (mC M) pc = .ok (.invokevirtual i, 3)) (hpn : plN (mO M) i = 0) (hp : plM (mO M) i = some (1, rc, np, M')) (hrm : rmOk M M') : R g M K pc V st w k n = popA np [] st fun av rest => pR rest fun a rest => (wsh w a).1 = mO M' ∧ cwd rest ≤ 8 ∧ inv g rc M' (.ref a :: av) w k n fun vs w' k' n' => R g M K (pc + 3) V (vs ++ rest) w' k' n' := by
  rw [R_at hd rfl]
  simp [stp, hpn, hp, stInv, hrm]
theorem R_invI (hd : decode (mC M) pc = .ok (.invokespecial i, 3)) (hpn : plN (mO M) i = 0) (hp : plM (mO M) i = some (kd, rc, np, M')) (hk : kd = 2 ∨ kd = 4) (hrm : rmOk M M') : R g M K pc V st w k n = popA np [] st fun av rest => pR rest fun a rest => cwd rest ≤ 8 ∧ inv g rc M' (.ref a :: av) w k n fun vs w' k' n' => R g M K (pc + 3) V (vs ++ rest) w' k' n' := by
  rw [R_at hd rfl]
  rcases hk with rfl | rfl <;> simp [stp, hpn, hp, stInv, hrm]
theorem R_invU (hd : decode (mC M) pc = .ok (.invokevirtual i, 3)) (hpn : plN (mO M) i = 0) (hp : plM (mO M) i = some (12, rc, np, M')) (hrm : rmOk M M') : R g M K pc V st w k n = popA np [] st fun av rest => pR rest fun a rest => (wsh w a).1 = 14 ∧ cwd rest ≤ 8 ∧ inv g rc M' (.ref a :: av) w k n fun vs w' k' n' => R g M K (pc + 3) V (vs ++ rest) w' k' n' := by
  rw [R_at hd rfl]
  simp [stp, hpn, hp, stInv, hrm]
theorem R_invO (hd : decode (mC M) pc = .ok (.invokevirtual i, 3)) (hpn : plN (mO M) i = 0) (hp : plM (mO M) i = some (14, rc, np, M')) (hy : mN M' = yJ4_length_8abf5) (hrm : rmOk M M') : R g M K pc V st w k n = popA np [] st fun av rest => pR rest fun a rest => (wsh w a).1 = 14 ∧ cwd rest ≤ 8 ∧ inv g rc M' (.ref a :: av) w k n fun vs w' k' n' => R g M K (pc + 3) V (vs ++ rest) w' k' n' := by
  rw [R_at hd rfl]
  simp [stp, hpn, hp, stInv, hrm, hy]
theorem R_invP (hd : decode (mC M) pc = .ok (.invokespecial i, 3)) (hpn : plN (mO M) i = 0) (hp : plM (mO M) i = some (13, rc, np, M')) (hrm : rmOk M M') : R g M K pc V st w k n = popA np [] st fun av rest => pR rest fun a rest => (wsh w a).1 = 14 ∧ cwd rest ≤ 8 ∧ inv g rc M' (.ref a :: av) w k n fun vs w' k' n' => R g M K (pc + 3) V (vs ++ rest) w' k' n' := by
  rw [R_at hd rfl]
  simp [stp, hpn, hp, stInv, hrm]
theorem R_obj (hd : decode (mC M) pc = .ok (.invokespecial i, 3)) (hpn : plN (mO M) i = 1) (hrm : rmN M 20) : R g M K pc V st w k n = pR st fun _ st => cwd st ≤ 8 ∧ R g M K (pc + 3) V st w k n := by
  rw [R_at hd rfl]
  simp only [stp, hpn, if_true, hrm, true_and]
theorem R_nat {q : Nat} (hd : decode (mC M) pc = .ok (.invokestatic i, 3)) (hpn : plN (mO M) i = q) (h0 : q ≠ 0) (h7 : q ≠ 7) : R g M K pc V st w k n = stNat g M (R g M K) pc V st w k n q := by
  rw [R_at hd rfl]
  simp only [stp, hpn, if_neg h0, h7, not_false_eq_true, true_and]
/-- a switch as a chain of cases -/
def swi (x : Int32) (cs : List (Int32 × Nat)) (d : Nat) (F : Nat → Prop) : Prop := match cs with
  | [] => F d
  | (v, t) :: cs => (x = v → F t) ∧ (¬ x = v → swi x cs d F)
end EQ
