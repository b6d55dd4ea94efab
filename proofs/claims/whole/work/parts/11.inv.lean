/-! what follows if a taking holds -/
theorem pI_inv {st : List Value} {F : Int32 → List Value → Prop} (h : pI st F) : ∃ x st', st = .int x :: st' ∧ F x st' := by
  unfold pI at h
  split at h
  · exact ⟨_, _, rfl, h⟩
  · cases h
theorem pL_inv {st : List Value} {F : Int64 → List Value → Prop} (h : pL st F) : ∃ x st', st = .long x :: st' ∧ F x st' := by
  unfold pL at h
  split at h
  · exact ⟨_, _, rfl, h⟩
  · cases h
theorem pF_inv {st : List Value} {F : UInt32 → List Value → Prop} (h : pF st F) : ∃ x st', st = .float x :: st' ∧ F x st' := by
  unfold pF at h
  split at h
  · exact ⟨_, _, rfl, h⟩
  · cases h
theorem pD_inv {st : List Value} {F : UInt64 → List Value → Prop} (h : pD st F) : ∃ x st', st = .double x :: st' ∧ F x st' := by
  unfold pD at h
  split at h
  · exact ⟨_, _, rfl, h⟩
  · cases h
theorem pA_inv {st : List Value} {F : Option Nat → List Value → Prop} (h : pA st F) : ∃ x st', st = va_rf x :: st' ∧ F x st' := by
  unfold pA at h
  split at h
  · exact ⟨none, _, rfl, h⟩
  · exact ⟨some _, _, rfl, h⟩
  · cases h
theorem pR_inv {st : List Value} {F : Nat → List Value → Prop} (h : pR st F) : ∃ x st', st = .ref x :: st' ∧ F x st' := by
  unfold pR at h
  split at h
  · exact ⟨_, _, rfl, h⟩
  · cases h
theorem pV_inv {st : List Value} {F : Value → List Value → Prop} (h : pV st F) : ∃ x st', st = x :: st' ∧ x.category = 1 ∧ F x st' := by
  unfold pV at h
  split at h
  · exact ⟨_, _, rfl, h.1, h.2⟩
  · cases h
theorem ldI_inv {o : Option Value} {F : Int32 → Prop} (h : ldI o F) : ∃ x, o = some (.int x) ∧ F x := by
  unfold ldI at h
  split at h
  · exact ⟨_, rfl, h⟩
  · cases h
theorem ldL_inv {o : Option Value} {F : Int64 → Prop} (h : ldL o F) : ∃ x, o = some (.long x) ∧ F x := by
  unfold ldL at h
  split at h
  · exact ⟨_, rfl, h⟩
  · cases h
theorem ldF_inv {o : Option Value} {F : UInt32 → Prop} (h : ldF o F) : ∃ x, o = some (.float x) ∧ F x := by
  unfold ldF at h
  split at h
  · exact ⟨_, rfl, h⟩
  · cases h
theorem ldD_inv {o : Option Value} {F : UInt64 → Prop} (h : ldD o F) : ∃ x, o = some (.double x) ∧ F x := by
  unfold ldD at h
  split at h
  · exact ⟨_, rfl, h⟩
  · cases h
theorem ldA_inv {o : Option Value} {F : Option Nat → Prop} (h : ldA o F) : ∃ x, o = some (va_rf x) ∧ F x := by
  unfold ldA at h
  split at h
  · exact ⟨none, rfl, h⟩
  · exact ⟨some _, rfl, h⟩
  · cases h
theorem popA_inv : ∀ (i : Nat) (av st : List Value) {F : List Value → List Value → Prop}, popA i av st F → ∃ As rest, As.length = i ∧ st = As.reverse ++ rest ∧ F (As ++ av) rest
  | 0, av, st, F, h => ⟨[], st, rfl, rfl, h⟩
  | i + 1, av, [], F, h => by cases h
  | i + 1, av, v :: st, F, h => by
    obtain ⟨As, rest, h1, h2, h3⟩ := popA_inv i (v :: av) st h
    refine ⟨As ++ [v], rest, by simp [h1], by simp [h2], by simpa using h3⟩
/-- the length that an instruction of ours has -/
def iln (ins : Instr) (len : Nat) : Bool := match ins with
  | .iload _ | .lload _ | .aload _ | .istore _ | .lstore _ | .astore _ | .bipush _ | .ldc _ | .newarray _ => len == 2
  | .sipush _ | .ldc_w _ | .ldc2_w _ | .iinc _ _ | .ifCond _ _ | .if_icmp _ _ | .if_acmp _ _ | .ifnull _ | .ifnonnull _ | .goto _ | .getfield _ | .putfield _ | .getstatic _ | .new _ | .anewarray _ | .checkcast _ | .invokestatic _ | .invokevirtual _ | .invokespecial _ => len == 3
  | .multianewarray _ _ => len == 4
  | .tableswitch _ _ _ _ | .lookupswitch _ _ => true
  | _ => len == 1
/-- the method's surroundings at the machine -/
def Cx (g : Ge) (M : Mi) (p : Program) (s : State) (m : MethodId) (args : Array Value) (meth : Method) (c : Code) : Prop :=
  p.tables.exec = Jvm.exec ∧ c.code = mC M ∧ meth.sig.returnType = mR M ∧ c.maxLocals = mL M ∧ s.vm.findClass (oN (mO M)) = some m.cls ∧ (∀ w ∈ GL, w.before args s = true) ∧ meth.locks = false ∧ ((mN M).name = "<init>" → meth.name = "<init>") ∧ KG g s ∧ KS g s s.heap
def wF (g : Ge) (M : Mi) (K : Option Value → Wd → Prop) : Sp := fun pc V st w k n =>
  ∀ (p : Program) (l : Launch) (e : Env) (s : State) (m : MethodId) (args : Array Value) (below : List Frame) (meth : Method) (c : Code) (H : Heap) (locs : List Loc) (cells slots : Nat) (ls : Array Slot) (c0 n0 : Nat),
    Cx g M p s m args meth c → Rep g w H → va_S (fun q => gB g ≤ q) s.heap H locs → vh ls V → V.length = mL M → cells + k ≤ c0 → slots + n ≤ n0 →
    W p l e (rmM M c0 n0) s m args below meth c H locs cells slots (MQ below (Qk g K) args s c0 n0 (fun q => gB g ≤ q)) (F0 m pc ls st)
theorem w_end {g : Ge} {w : Wd} {H : Heap} {s : State} {locs : List Loc} {args : Array Value} {K : Option Value → Wd → Prop} {r : Option Value} (hR : Rep g w H) (hS : va_S (fun q => gB g ≤ q) s.heap H locs) (hK : K r w) (t : State) (ht : t.heap = H) (_ : s.WarmedH t.vm) : Qk g K args s (.returned r) t :=
  ⟨r, w, rfl, by rw [ht]; exact hR, hK, hS.F ht⟩
