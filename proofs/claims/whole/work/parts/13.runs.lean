theorem pI_mono {st : List Value} {F F' : Int32 → List Value → Prop} (h : ∀ x st, F x st → F' x st) : pI st F → pI st F' := by
  intro q; obtain ⟨x, st1, rfl, q1⟩ := pI_inv q; exact h _ _ q1
theorem pL_mono {st : List Value} {F F' : Int64 → List Value → Prop} (h : ∀ x st, F x st → F' x st) : pL st F → pL st F' := by
  intro q; obtain ⟨x, st1, rfl, q1⟩ := pL_inv q; exact h _ _ q1
theorem pF_mono {st : List Value} {F F' : UInt32 → List Value → Prop} (h : ∀ x st, F x st → F' x st) : pF st F → pF st F' := by
  intro q; obtain ⟨x, st1, rfl, q1⟩ := pF_inv q; exact h _ _ q1
theorem pD_mono {st : List Value} {F F' : UInt64 → List Value → Prop} (h : ∀ x st, F x st → F' x st) : pD st F → pD st F' := by
  intro q; obtain ⟨x, st1, rfl, q1⟩ := pD_inv q; exact h _ _ q1
theorem pA_rf (o : Option Nat) (st : List Value) (F : Option Nat → List Value → Prop) : pA (va_rf o :: st) F = F o st := by cases o <;> rfl
theorem pA_mono {st : List Value} {F F' : Option Nat → List Value → Prop} (h : ∀ x st, F x st → F' x st) : pA st F → pA st F' := by
  intro q; obtain ⟨x, st1, rfl, q1⟩ := pA_inv q; rw [pA_rf]; exact h _ _ q1
theorem pR_mono {st : List Value} {F F' : Nat → List Value → Prop} (h : ∀ x st, F x st → F' x st) : pR st F → pR st F' := by
  intro q; obtain ⟨x, st1, rfl, q1⟩ := pR_inv q; exact h _ _ q1
theorem pV_mono {st : List Value} {F F' : Value → List Value → Prop} (h : ∀ x st, F x st → F' x st) : pV st F → pV st F' := by
  intro q; obtain ⟨x, st1, rfl, q0, q1⟩ := pV_inv q; exact ⟨q0, h _ _ q1⟩
theorem ldI_mono {o : Option Value} {F F' : Int32 → Prop} (h : ∀ x, F x → F' x) : ldI o F → ldI o F' := by
  intro q; obtain ⟨x, rfl, q1⟩ := ldI_inv q; exact h _ q1
theorem ldL_mono {o : Option Value} {F F' : Int64 → Prop} (h : ∀ x, F x → F' x) : ldL o F → ldL o F' := by
  intro q; obtain ⟨x, rfl, q1⟩ := ldL_inv q; exact h _ q1
theorem ldF_mono {o : Option Value} {F F' : UInt32 → Prop} (h : ∀ x, F x → F' x) : ldF o F → ldF o F' := by
  intro q; obtain ⟨x, rfl, q1⟩ := ldF_inv q; exact h _ q1
theorem ldD_mono {o : Option Value} {F F' : UInt64 → Prop} (h : ∀ x, F x → F' x) : ldD o F → ldD o F' := by
  intro q; obtain ⟨x, rfl, q1⟩ := ldD_inv q; exact h _ q1
theorem ldA_rf (o : Option Nat) (F : Option Nat → Prop) : ldA (some (va_rf o)) F = F o := by cases o <;> rfl
theorem ldA_mono {o : Option Value} {F F' : Option Nat → Prop} (h : ∀ x, F x → F' x) : ldA o F → ldA o F' := by
  intro q; obtain ⟨x, rfl, q1⟩ := ldA_inv q; rw [ldA_rf]; exact h _ q1
theorem dup2K_mono {st : List Value} {F F' : List Value → Prop} (h : ∀ x, F x → F' x) : dup2K st F → dup2K st F' := by
  intro q
  unfold dup2K at q ⊢
  split at q
  · exact h _ q
  · next a b st hne =>
    cases a <;> first | exact ⟨q.1, q.2.1, h _ q.2.2⟩ | exact absurd rfl (hne _ _)
  · cases q
theorem popA_mono : ∀ (i : Nat) (av st : List Value) {F F' : List Value → List Value → Prop}, (∀ x y, F x y → F' x y) → popA i av st F → popA i av st F'
  | 0, av, st, F, F', h, q => h _ _ q
  | i + 1, av, [], F, F', h, q => by cases q
  | i + 1, av, v :: st, F, F', h, q => popA_mono i (v :: av) st h q
theorem cl0_mono {g : Ge} {M : Mi} {av : List Value} {w : Wd} {k n : Nat} {F F' : Option Value → Wd → Nat → Nat → Prop} (h : ∀ r w' k' n', F r w' k' n' → F' r w' k' n') : cl0 g M av w k n F → cl0 g M av w k n F' := by
  rintro ⟨k1, n1, K0, h1, h2, h3, h4⟩
  exact ⟨k1, n1, K0, h1, h2, h3, fun r w' q => h _ _ _ _ (h4 r w' q)⟩
theorem inv_mono {g : Ge} {rc : Nat} {M : Mi} {av : List Value} {w : Wd} {k n : Nat} {F F' : List Value → Wd → Nat → Nat → Prop} (h : ∀ r w' k' n', F r w' k' n' → F' r w' k' n') : inv g rc M av w k n F → inv g rc M av w k n F' := by
  intro q
  unfold inv at q ⊢
  split at q
  · exact cl0_mono (fun _ _ _ _ z => ⟨z.1, h _ _ _ _ z.2⟩) q
  · exact cl0_mono (fun _ _ _ _ z => by obtain ⟨x, z1, z2⟩ := z; exact ⟨x, z1, h _ _ _ _ z2⟩) q
  · exact cl0_mono (fun _ _ _ _ z => by obtain ⟨x, z1, z2⟩ := z; exact ⟨x, z1, h _ _ _ _ z2⟩) q
  · exact cl0_mono (fun _ _ _ _ z => by obtain ⟨x, z1, z2⟩ := z; exact ⟨x, z1, h _ _ _ _ z2⟩) q
  · exact cl0_mono (fun _ _ _ _ z => by obtain ⟨x, z1, z2⟩ := z; exact ⟨x, z1, h _ _ _ _ z2⟩) q
  · cases q
theorem jmp_mono {pc : Nat} {off : Int} {F F' : Nat → Prop} (h : ∀ t, F t → F' t) : jmp pc off F → jmp pc off F' := fun ⟨t, q1, q2⟩ => ⟨t, q1, h t q2⟩
theorem imp_mono {A B B' : Prop} (h : B → B') : (A → B) → (A → B') := fun q z => h (q z)
theorem ex_mono {α : Type} {F F' : α → Prop} (h : ∀ t, F t → F' t) : (∃ t, F t) → ∃ t, F' t := fun ⟨t, q⟩ => ⟨t, h t q⟩
section MONO
variable {g : Ge} {M : Mi} {K : Option Value → Wd → Prop} {S S' : Sp} {len pc : Nat} {V : List (Option Value)} {st : List Value} {w : Wd} {k n : Nat}
theorem stInv_mono (hS : ∀ pc V st w k n, S pc V st w k n → S' pc V st w k n) {q : Option (Nat × Nat × Nat × Mi)} {sp : Nat} : stInv g M S pc V st w k n q sp → stInv g M S' pc V st w k n q sp := by
  unfold stInv
  split
  · refine popA_mono _ _ _ (fun _ _ => ?_)
    repeat' (first | exact id | refine inv_mono (fun _ _ _ _ => hS _ _ _ _ _ _) | refine pR_mono (fun _ _ => ?_) | refine And.imp ?_ ?_ | split)
  · exact id
theorem stNat_mono (hS : ∀ pc V st w k n, S pc V st w k n → S' pc V st w k n) {q : Nat} : stNat g M S pc V st w k n q → stNat g M S' pc V st w k n q := by
  unfold stNat
  split <;> repeat' (first | exact id | exact hS _ _ _ _ _ _ | refine pI_mono (fun _ _ => ?_) | refine pL_mono (fun _ _ => ?_) | refine pF_mono (fun _ _ => ?_) | refine pD_mono (fun _ _ => ?_) | refine pR_mono (fun _ _ => ?_) | refine And.imp ?_ ?_ | refine Or.imp ?_ ?_)
set_option maxHeartbeats 4000000 in
theorem stp_mono (hS : ∀ pc V st w k n, S pc V st w k n → S' pc V st w k n) {ins : Instr} : stp g M K S ins len pc V st w k n → stp g M K S' ins len pc V st w k n := by
  cases ins <;> simp only [stp] <;> repeat' (first | exact id | exact hS _ _ _ _ _ _ | exact stInv_mono hS | exact stNat_mono hS | refine pI_mono (fun _ _ => ?_) | refine pL_mono (fun _ _ => ?_) | refine pF_mono (fun _ _ => ?_) | refine pD_mono (fun _ _ => ?_) | refine pA_mono (fun _ _ => ?_) | refine pR_mono (fun _ _ => ?_) | refine pV_mono (fun _ _ => ?_) | refine ldI_mono (fun _ => ?_) | refine ldL_mono (fun _ => ?_) | refine ldF_mono (fun _ => ?_) | refine ldD_mono (fun _ => ?_) | refine ldA_mono (fun _ => ?_) | refine dup2K_mono (fun _ => ?_) | refine And.imp ?_ ?_ | refine Or.imp ?_ ?_ | refine jmp_mono (fun _ => ?_) | refine imp_mono ?_ | refine ex_mono (fun _ => ?_) | split)
end MONO
/-- one step -/
def stx (g : Ge) (M : Mi) (K : Option Value → Wd → Prop) (S : Sp) : Sp := fun pc V st w k n => ∃ ins len, decode (mC M) pc = .ok (ins, len) ∧ iln ins len = true ∧ stp g M K S ins len pc V st w k n
/-- the least predicate that the steps allow: from here the method ends, with K -/
def R (g : Ge) (M : Mi) (K : Option Value → Wd → Prop) : Sp := fun pc V st w k n => ∀ Φ : Sp, (∀ pc V st w k n, stx g M K Φ pc V st w k n → Φ pc V st w k n) → Φ pc V st w k n
theorem stx_mono {g : Ge} {M : Mi} {K : Option Value → Wd → Prop} {S S' : Sp} (hS : ∀ pc V st w k n, S pc V st w k n → S' pc V st w k n) {pc : Nat} {V : List (Option Value)} {st : List Value} {w : Wd} {k n : Nat} : stx g M K S pc V st w k n → stx g M K S' pc V st w k n := fun ⟨i, l, h1, h2, h3⟩ => ⟨i, l, h1, h2, stp_mono hS h3⟩
theorem R_fold {g : Ge} {M : Mi} {K : Option Value → Wd → Prop} {pc : Nat} {V : List (Option Value)} {st : List Value} {w : Wd} {k n : Nat} (h : stx g M K (R g M K) pc V st w k n) : R g M K pc V st w k n := fun Φ hΦ => hΦ _ _ _ _ _ _ (stx_mono (fun _ _ _ _ _ _ q => q Φ hΦ) h)
theorem R_unfold {g : Ge} {M : Mi} {K : Option Value → Wd → Prop} {pc : Nat} {V : List (Option Value)} {st : List Value} {w : Wd} {k n : Nat} (h : R g M K pc V st w k n) : stx g M K (R g M K) pc V st w k n := h _ (fun _ _ _ _ _ _ q => stx_mono (fun _ _ _ _ _ _ z => R_fold z) q)
theorem R_at {g : Ge} {M : Mi} {K : Option Value → Wd → Prop} {pc : Nat} {ins : Instr} {len : Nat} (hd : decode (mC M) pc = .ok (ins, len)) (hl : iln ins len = true) (V : List (Option Value)) (st : List Value) (w : Wd) (k n : Nat) : R g M K pc V st w k n = stp g M K (R g M K) ins len pc V st w k n := by
  apply propext
  constructor
  · intro h
    obtain ⟨i, l, h1, h2, h3⟩ := R_unfold h
    cases hd.symm.trans h1
    exact h3
  · intro h
    exact R_fold ⟨ins, len, hd, hl, h⟩
theorem R_sound {g : Ge} {M : Mi} {K : Option Value → Wd → Prop} {pc : Nat} {V : List (Option Value)} {st : List Value} {w : Wd} {k n : Nat} (h : R g M K pc V st w k n) : wF g M K pc V st w k n := h _ (fun _ _ _ _ _ _ q => by
  obtain ⟨i, l, h1, h2, h3⟩ := q
  exact snd_ops (fun _ _ _ _ _ _ z => z) h1 h2 h3)
