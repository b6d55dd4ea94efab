theorem flT_13 : (flT.all fun q => !(q.2.1 == 13) || decide (q.2.2.1 < 2)) = true := by decide +kernel
theorem plF_13 {o i k t : Nat} (h : plF o i = (13, k, t)) : k < 2 := by
  unfold plF at h
  cases hf : flT.find? fun q => q.1.1 == o && q.1.2 == i with
  | none => rw [hf] at h; cases h
  | some q =>
    rw [hf] at h
    have h1 : q.2 = (13, k, t) := h
    have h2 := List.all_eq_true.mp flT_13 q (List.mem_of_find?_eq_some hf)
    rw [h1] at h2
    simpa using h2
/-! locals as a list: what each place holds, if it is known -/
def drop2 (o : Option Value) : Option Value := match o with
  | some (.long _) => none
  | some (.double _) => none
  | o => o
def setL : List (Option Value) → Nat → Value → List (Option Value)
  | [], _, _ => []
  | _ :: V, 0, v => some v :: V
  | o :: V, 1, v => drop2 o :: setL V 0 v
  | o :: V, i + 2, v => o :: setL V (i + 1) v
def setL2 : List (Option Value) → Nat → Value → List (Option Value)
  | [], _, _ => []
  | [_], 0, _ => [none]
  | _ :: _ :: V, 0, v => some v :: none :: V
  | o :: V, 1, v => drop2 o :: setL2 V 0 v
  | o :: V, i + 2, v => o :: setL2 V (i + 1) v
def getL (V : List (Option Value)) (i : Nat) : Option Value := (V[i]?).getD none
def vh (ls : Array Slot) (V : List (Option Value)) : Prop := ls.size = V.length ∧ lv_wf ls ∧ ∀ (i : Nat) (v : Value), V[i]? = some (some v) → ls[i]? = some (.val v)
theorem drop2_some {o : Option Value} {v : Value} (h : drop2 o = some v) : o = some v ∧ v.category = 1 := by
  unfold drop2 at h
  split at h
  · cases h
  · cases h
  · subst h
    refine ⟨rfl, ?_⟩
    cases v <;> first | rfl | simp_all
theorem setL_get (V : List (Option Value)) : ∀ (i : Nat) (v : Value) (j : Nat), (setL V i v)[j]? = if j = i then (if i < V.length then some (some v) else none) else if j + 1 = i then (V[j]?).map drop2 else V[j]? := by
  induction V with
  | nil => intro i v j; simp [setL]
  | cons o V ih =>
    intro i v j
    match i with
    | 0 =>
      cases j with
      | zero => simp [setL]
      | succ j => simp [setL]
    | 1 =>
      cases j with
      | zero => simp [setL]
      | succ j =>
        have := ih 0 v j
        simp only [setL, List.getElem?_cons_succ, this, List.length_cons]
        by_cases h : j = 0
        · subst h; simp
        · simp [h]
    | i + 2 =>
      cases j with
      | zero => simp [setL]
      | succ j =>
        have := ih (i + 1) v j
        simp only [setL, List.getElem?_cons_succ, this, List.length_cons, Nat.add_right_cancel_iff]
        have e : (i + 1 < V.length) = (i + 2 < V.length + 1) := by
          apply propext
          omega
        simp only [e, show (j + 1 = i + 2) = (j = i + 1) from propext (by omega)]
theorem setL_len (V : List (Option Value)) : ∀ (i : Nat) (v : Value), (setL V i v).length = V.length := by
  induction V with
  | nil => intro i v; simp [setL]
  | cons o V ih =>
    intro i v
    match i with
    | 0 => simp [setL]
    | 1 => simp [setL, ih]
    | i + 2 => simp [setL, ih]
theorem setL2_get (V : List (Option Value)) : ∀ (i : Nat) (v : Value) (j : Nat) (u : Value), (setL2 V i v)[j]? = some (some u) → (j = i ∧ u = v) ∨ (j ≠ i ∧ j ≠ i + 1 ∧ V[j]? = some (some u) ∧ (j + 1 = i → u.category = 1)) := by
  induction V with
  | nil => intro i v j u h; simp [setL2] at h
  | cons o V ih =>
    intro i v j u h
    match i with
    | 0 =>
      match V, h with
      | [], h =>
        cases j with
        | zero => simp [setL2] at h
        | succ j => simp [setL2] at h
      | o2 :: V2, h =>
        match j, h with
        | 0, h => simp [setL2] at h; exact Or.inl ⟨rfl, h.symm⟩
        | 1, h => simp [setL2] at h
        | j + 2, h =>
          simp [setL2] at h
          refine Or.inr ⟨by omega, by omega, by simpa using h, by omega⟩
    | 1 =>
      cases j with
      | zero =>
        simp [setL2] at h
        have := drop2_some h
        exact Or.inr ⟨by omega, by omega, by simp [this.1], fun _ => this.2⟩
      | succ j =>
        simp only [setL2, List.getElem?_cons_succ] at h
        rcases ih 0 v j u h with ⟨e1, e2⟩ | ⟨e1, e2, e3, e4⟩
        · exact Or.inl ⟨by omega, e2⟩
        · exact Or.inr ⟨by omega, by omega, by simpa using e3, by omega⟩
    | i + 2 =>
      cases j with
      | zero =>
        simp [setL2] at h
        exact Or.inr ⟨by omega, by omega, by simp [h], by omega⟩
      | succ j =>
        simp only [setL2, List.getElem?_cons_succ] at h
        rcases ih (i + 1) v j u h with ⟨e1, e2⟩ | ⟨e1, e2, e3, e4⟩
        · exact Or.inl ⟨by omega, e2⟩
        · exact Or.inr ⟨by omega, by omega, by simpa using e3, fun q => e4 (by omega)⟩
theorem setL2_len (V : List (Option Value)) : ∀ (i : Nat) (v : Value), (setL2 V i v).length = V.length := by
  induction V with
  | nil => intro i v; simp [setL2]
  | cons o V ih =>
    intro i v
    match i with
    | 0 =>
      match V with
      | [] => simp [setL2]
      | o2 :: V2 => simp [setL2]
    | 1 => simp [setL2, ih]
    | i + 2 => simp [setL2, ih]
def lvOf (V : List (Option Value)) : List (Nat × Value) := V.zipIdx.filterMap fun q => q.1.map fun v => (q.2, v)
theorem lvOf_mem {V : List (Option Value)} {i : Nat} {v : Value} : (i, v) ∈ lvOf V ↔ V[i]? = some (some v) := by
  unfold lvOf
  rw [List.mem_filterMap]
  constructor
  · rintro ⟨⟨o, j⟩, hm, h⟩
    cases o with
    | none => simp at h
    | some u =>
      simp at h
      obtain ⟨rfl, rfl⟩ := h
      have := List.mem_zipIdx_iff_getElem?.mp hm
      simpa using this
  · intro h
    refine ⟨(some v, i), ?_, by simp⟩
    exact List.mem_zipIdx_iff_getElem?.mpr (by simpa using h)
theorem vh.has {ls : Array Slot} {V : List (Option Value)} (h : vh ls V) : lv_has ls V.length (lvOf V) := ⟨h.1, h.2.1, fun q hq => h.2.2 q.1 q.2 (lvOf_mem.mp hq)⟩
theorem vh.st1 {ls : Array Slot} {V : List (Option Value)} {i : Nat} {v : Value} (h : lv_has ls V.length ((i, v) :: (lvOf V).filter (fun q => !(q.1 == i) && !(q.1 + 1 == i && q.2.category == 2)))) : vh ls (setL V i v) := by
  refine ⟨by rw [setL_len]; exact h.1, h.2.1, fun j u hj => ?_⟩
  rw [setL_get] at hj
  by_cases h1 : j = i
  · rw [if_pos h1] at hj
    split at hj
    · cases hj
      subst h1
      exact h.2.2 (j, v) List.mem_cons_self
    · cases hj
  · rw [if_neg h1] at hj
    refine h.2.2 (j, u) (List.mem_cons_of_mem _ (List.mem_filter.mpr ?_))
    by_cases h2 : j + 1 = i
    · rw [if_pos h2] at hj
      cases ho : V[j]? with
      | none => rw [ho] at hj; cases hj
      | some o =>
        rw [ho] at hj
        have h3 := drop2_some (Option.some.inj hj)
        refine ⟨lvOf_mem.mpr (by rw [ho, h3.1]), ?_⟩
        simp [h1, h3.2]
    · rw [if_neg h2] at hj
      exact ⟨lvOf_mem.mpr hj, by simp [h1, h2]⟩
theorem vh.st2 {ls : Array Slot} {V : List (Option Value)} {i : Nat} {v : Value} (h : lv_has ls V.length ((i, v) :: (lvOf V).filter (fun q => !(q.1 == i) && (!(q.1 == i + 1) && !(q.1 + 1 == i && q.2.category == 2))))) : vh ls (setL2 V i v) := by
  refine ⟨by rw [setL2_len]; exact h.1, h.2.1, fun j u hj => ?_⟩
  rcases setL2_get V i v j u hj with ⟨rfl, rfl⟩ | ⟨h1, h2, h3, h4⟩
  · exact h.2.2 (j, u) List.mem_cons_self
  · refine h.2.2 (j, u) (List.mem_cons_of_mem _ (List.mem_filter.mpr ⟨lvOf_mem.mpr h3, ?_⟩))
    by_cases h5 : j + 1 = i
    · simp [h1, h2, h4 h5]
    · simp [h1, h2, h5]
theorem vh.get {ls : Array Slot} {V : List (Option Value)} {i : Nat} {v : Value} (h : vh ls V) (hg : getL V i = some v) : ls[i]? = some (.val v) := by
  unfold getL at hg
  cases hV : V[i]? with
  | none => rw [hV] at hg; cases hg
  | some o =>
    rw [hV] at hg
    have : o = some v := hg
    subst this
    exact h.2.2 i v hV
theorem getL_lt {V : List (Option Value)} {i : Nat} {v : Value} (hg : getL V i = some v) : i < V.length := by
  unfold getL at hg
  cases hV : V[i]? with
  | none => rw [hV] at hg; cases hg
  | some o => exact (List.getElem?_eq_some_iff.mp hV).1
