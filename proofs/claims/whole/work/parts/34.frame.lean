/-! what a method changes: the cells (a, j) for which S holds -/
def Fr (S : Nat → Nat → Prop) (w w' : Wd) : Prop := wn w' = wn w ∧ wsh w' = wsh w ∧ wP w' = wP w ∧ ∀ a j, ¬ S a j → wI w' a j = wI w a j ∧ wL w' a j = wL w a j
theorem Fr.rf {S : Nat → Nat → Prop} {w : Wd} : Fr S w w := ⟨rfl, rfl, rfl, fun _ _ _ => ⟨rfl, rfl⟩⟩
theorem Fr.tr {S : Nat → Nat → Prop} {w w1 w2 : Wd} (h1 : Fr S w w1) (h2 : Fr S w1 w2) : Fr S w w2 := ⟨h2.1.trans h1.1, h2.2.1.trans h1.2.1, h2.2.2.1.trans h1.2.2.1, fun a j h => ⟨(h2.2.2.2 a j h).1.trans (h1.2.2.2 a j h).1, (h2.2.2.2 a j h).2.trans (h1.2.2.2 a j h).2⟩⟩
theorem Fr.mo {S S' : Nat → Nat → Prop} {w w1 : Wd} (h : Fr S w w1) (hs : ∀ a j, S a j → S' a j) : Fr S' w w1 := ⟨h.1, h.2.1, h.2.2.1, fun a j q => h.2.2.2 a j (fun z => q (hs a j z))⟩
theorem Fr.i {S : Nat → Nat → Prop} {w w1 : Wd} (h : Fr S w w1) {a k : Nat} (x : Int32) (hs : S a k) : Fr S w (sI w1 a k x) := by
  refine ⟨h.1, h.2.1, h.2.2.1, fun b j q => ⟨Eq.trans ?_ (h.2.2.2 b j q).1, (h.2.2.2 b j q).2⟩⟩
  show up2 (wI w1) a k x b j = wI w1 b j
  unfold up2
  exact if_neg (fun z => q (by rw [z.1, z.2]; exact hs))
theorem Fr.l {S : Nat → Nat → Prop} {w w1 : Wd} (h : Fr S w w1) {a k : Nat} (x : Int64) (hs : S a k) : Fr S w (sL w1 a k x) := by
  refine ⟨h.1, h.2.1, h.2.2.1, fun b j q => ⟨(h.2.2.2 b j q).1, Eq.trans ?_ (h.2.2.2 b j q).2⟩⟩
  show up2 (wL w1) a k x b j = wL w1 b j
  unfold up2
  exact if_neg (fun z => q (by rw [z.1, z.2]; exact hs))
theorem Fr.I {S : Nat → Nat → Prop} {w w1 : Wd} (h : Fr S w w1) (a j : Nat) (hs : ¬ S a j) : wI w1 a j = wI w a j := (h.2.2.2 a j hs).1
theorem Fr.L {S : Nat → Nat → Prop} {w w1 : Wd} (h : Fr S w w1) (a j : Nat) (hs : ¬ S a j) : wL w1 a j = wL w a j := (h.2.2.2 a j hs).2
theorem Fr.P {S : Nat → Nat → Prop} {w w1 : Wd} (h : Fr S w w1) : wP w1 = wP w := h.2.2.1
theorem Fr.sh {S : Nat → Nat → Prop} {w w1 : Wd} (h : Fr S w w1) : wsh w1 = wsh w := h.2.1
theorem Fr.n {S : Nat → Nat → Prop} {w w1 : Wd} (h : Fr S w w1) : wn w1 = wn w := h.1
theorem MS.fr {g : Ge} {m : Nat} {w w1 : Wd} (h : MS g m w) {S : Nat → Nat → Prop} (hf : Fr S w w1) : MS g m w1 := by
  unfold MS at h ⊢
  rw [hf.sh, hf.P]
  exact h
theorem XS.fr {g : Ge} {x : Nat} {w w1 : Wd} (h : XS g x w) {S : Nat → Nat → Prop} (hf : Fr S w w1) : XS g x w1 := by
  unfold XS at h ⊢
  rw [hf.sh, hf.P]
  exact h
/-! reading behind a write -/
theorem wI_ne {w : Wd} {a k b j : Nat} {x : Int32} (h : b ≠ a) : wI (sI w a k x) b j = wI w b j := by rw [wI_sI, up2_ne h]
theorem wL_ne {w : Wd} {a k b j : Nat} {x : Int64} (h : b ≠ a) : wL (sL w a k x) b j = wL w b j := by rw [wL_sL, up2_ne h]
theorem wP_ne {w : Wd} {a k b j : Nat} {x : Option Nat} (h : b ≠ a) : wP (sP w a k x) b j = wP w b j := by rw [wP_sP, up2_ne h]
theorem wI_at {w : Wd} {a k j : Nat} {x : Int32} : wI (sI w a k x) a j = if j = k then x else wI w a j := by rw [wI_sI, up2_at]
theorem wL_at {w : Wd} {a k j : Nat} {x : Int64} : wL (sL w a k x) a j = if j = k then x else wL w a j := by rw [wL_sL, up2_at]
theorem wP_at {w : Wd} {a k j : Nat} {x : Option Nat} : wP (sP w a k x) a j = if j = k then x else wP w a j := by rw [wP_sP, up2_at]
/-! two branches that end in one world -/
theorem br_K {α : Type} (K : α → Wd → Nat → Nat → Prop) (c : Prop) [Decidable c] (a b : α) (w : Wd) (k n : Nat) : ((c → K a w k n) ∧ (¬ c → K b w k n)) = K (if c then a else b) w k n := by
  apply propext
  by_cases h : c
  · rw [if_pos h]; exact ⟨fun z => z.1 h, fun z => ⟨fun _ => z, fun q => absurd h q⟩⟩
  · rw [if_neg h]; exact ⟨fun z => z.2 h, fun z => ⟨fun q => absurd q h, fun _ => z⟩⟩
theorem br_N {α : Type} (K : α → Wd → Nat → Nat → Prop) (c : Prop) [Decidable c] (a b : α) (w : Wd) (k n : Nat) : ((¬ c → K a w k n) ∧ (c → K b w k n)) = K (if c then b else a) w k n := by rw [And.comm, br_K]
/-! numbers -/
theorem i_nat {v : Int32} {c : Nat} (hc : c < 2147483648) (h0 : 0 ≤ v) (h1 : v ≤ nI c) : ∃ s, s ≤ c ∧ v = nI s := by
  obtain ⟨j, hj, rfl⟩ := nI_of (x := v) (by simp only [Int32.lt_iff_toInt_lt, Int32.le_iff_toInt_le] at *; omega)
  exact ⟨j, (ni_le hj hc).mp h1, rfl⟩
theorem ni_0 (a : Nat) (h : a < 2147483648) : (0 ≤ nI a) = True := eq_true (nI_pos' h)
theorem ni_0' (a : Nat) (h : a < 2147483648) : (nI a < 0) = False := eq_false (nI_pos h)
theorem ni_mul (a b : Nat) : nI a * nI b = nI (a * b) := (Int32.ofNat_mul a b).symm
theorem ni_sub {a b : Nat} (h : b ≤ a) : nI a - nI b = nI (a - b) := by
  obtain ⟨c, rfl⟩ : ∃ c, a = c + b := ⟨a - b, by omega⟩
  rw [← ni_add, Nat.add_sub_cancel]
  exact Int32.add_sub_cancel _ _
theorem ni_m1 (a : Nat) (h : a < 2147483648) : (nI a = -1) = False := eq_false (fun q => by
  have := congrArg Int32.toInt q
  rw [nI_toInt h] at this
  have e : (-1 : Int32).toInt = -1 := by decide
  omega)
theorem cI_mono {g : Ge} {M : Mi} {av : List Value} {w : Wd} {k n : Nat} {Q K : Int32 → Wd → Nat → Nat → Prop} (h : cI g M av w k n Q) (hq : ∀ x w' k' n', Q x w' k' n' → K x w' k' n') : cI g M av w k n K := cl0_mono (fun _ _ _ _ ⟨x, e, q⟩ => ⟨x, e, hq _ _ _ _ q⟩) h
theorem cL_mono {g : Ge} {M : Mi} {av : List Value} {w : Wd} {k n : Nat} {Q K : Int64 → Wd → Nat → Nat → Prop} (h : cL g M av w k n Q) (hq : ∀ x w' k' n', Q x w' k' n' → K x w' k' n') : cL g M av w k n K := cl0_mono (fun _ _ _ _ ⟨x, e, q⟩ => ⟨x, e, hq _ _ _ _ q⟩) h
theorem cV_mono {g : Ge} {M : Mi} {av : List Value} {w : Wd} {k n : Nat} {Q K : Wd → Nat → Nat → Prop} (h : cV g M av w k n Q) (hq : ∀ w' k' n', Q w' k' n' → K w' k' n') : cV g M av w k n K := cl0_mono (fun _ _ _ _ ⟨e, q⟩ => ⟨e, hq _ _ _ q⟩) h
theorem cR_mono {g : Ge} {M : Mi} {av : List Value} {w : Wd} {k n : Nat} {Q K : Option Nat → Wd → Nat → Nat → Prop} (h : cR g M av w k n Q) (hq : ∀ x w' k' n', Q x w' k' n' → K x w' k' n') : cR g M av w k n K := cl0_mono (fun _ _ _ _ ⟨x, e, q⟩ => ⟨x, e, hq _ _ _ _ q⟩) h
