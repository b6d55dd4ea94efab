/-! the world under stores and makings -/
theorem wn_sI (w : Wd) (a k : Nat) (x : Int32) : wn (sI w a k x) = wn w := rfl
theorem wn_sL (w : Wd) (a k : Nat) (x : Int64) : wn (sL w a k x) = wn w := rfl
theorem wn_sP (w : Wd) (a k : Nat) (x : Option Nat) : wn (sP w a k x) = wn w := rfl
theorem wsh_sI (w : Wd) (a k : Nat) (x : Int32) : wsh (sI w a k x) = wsh w := rfl
theorem wsh_sL (w : Wd) (a k : Nat) (x : Int64) : wsh (sL w a k x) = wsh w := rfl
theorem wsh_sP (w : Wd) (a k : Nat) (x : Option Nat) : wsh (sP w a k x) = wsh w := rfl
theorem wI_sI (w : Wd) (a k : Nat) (x : Int32) : wI (sI w a k x) = up2 (wI w) a k x := rfl
theorem wI_sL (w : Wd) (a k : Nat) (x : Int64) : wI (sL w a k x) = wI w := rfl
theorem wI_sP (w : Wd) (a k : Nat) (x : Option Nat) : wI (sP w a k x) = wI w := rfl
theorem wL_sI (w : Wd) (a k : Nat) (x : Int32) : wL (sI w a k x) = wL w := rfl
theorem wL_sL (w : Wd) (a k : Nat) (x : Int64) : wL (sL w a k x) = up2 (wL w) a k x := rfl
theorem wL_sP (w : Wd) (a k : Nat) (x : Option Nat) : wL (sP w a k x) = wL w := rfl
theorem wP_sI (w : Wd) (a k : Nat) (x : Int32) : wP (sI w a k x) = wP w := rfl
theorem wP_sL (w : Wd) (a k : Nat) (x : Int64) : wP (sL w a k x) = wP w := rfl
theorem wP_sP (w : Wd) (a k : Nat) (x : Option Nat) : wP (sP w a k x) = up2 (wP w) a k x := rfl
theorem up2_ne {α : Type} {f : Nat → Nat → α} {a k b : Nat} {x : α} (h : b ≠ a) : up2 f a k x b = f b := by
  funext j
  simp [up2, h]
theorem up2_at {α : Type} (f : Nat → Nat → α) (a k : Nat) (x : α) (j : Nat) : up2 f a k x a j = if j = k then x else f a j := by simp [up2]
/-- the world w' is w but for what address a holds -/
def oneOff (w w' : Wd) (a : Nat) : Prop := wn w' = wn w ∧ wsh w' = wsh w ∧ ∀ b, b ≠ a → wI w' b = wI w b ∧ wL w' b = wL w b ∧ wP w' b = wP w b
theorem oneOff_sI (w : Wd) (a k : Nat) (x : Int32) : oneOff w (sI w a k x) a := ⟨rfl, rfl, fun _ h => ⟨up2_ne h, rfl, rfl⟩⟩
theorem oneOff_sL (w : Wd) (a k : Nat) (x : Int64) : oneOff w (sL w a k x) a := ⟨rfl, rfl, fun _ h => ⟨rfl, up2_ne h, rfl⟩⟩
theorem oneOff_sP (w : Wd) (a k : Nat) (x : Option Nat) : oneOff w (sP w a k x) a := ⟨rfl, rfl, fun _ h => ⟨rfl, rfl, up2_ne h⟩⟩
/-- the value that slot j of address a has, by its kind t -/
def wv (w : Wd) (t a j : Nat) : Value := tv t (wI w a j) (wL w a j) (wP w a j)
theorem Rep.off {g : Ge} {w w' : Wd} {H H1 : Heap} {a : Nat} (h : Rep g w H) (ho : oneOff w w' a) (hz : H1.size = H.size) (hq : ∀ b, b ≠ a → H1[b]? = H[b]?) (ha : cOk g w' H1 a) : Rep g w' H1 := by
  obtain ⟨h1, h2, h3⟩ := ho
  refine ⟨by rw [hz, h1]; exact h.1, by rw [h1]; exact h.2.1, fun b => ?_⟩
  by_cases hb : b = a
  · subst hb
    exact ha
  · obtain ⟨e1, e2, e3⟩ := h3 b hb
    exact (h.2.2 b).kept (by rw [h2]) (fun _ => hq b hb) e1 e2 e3
theorem cls_lt {c : Nat} {q : vw_C} (h : cls[c]? = some q) : c < 15 := (List.getElem?_eq_some_iff.mp h).1
theorem Rep.ob {g : Ge} {w : Wd} {H : Heap} {a c : Nat} {q : vw_C} (h : Rep g w H) (hs : (wsh w a).1 = c) (hc : cls[c]? = some q) : ∃ cell : Cell, H[a]? = some cell ∧ cell.cls = cC g c ∧ cell.vm.isStatics = false ∧ cell.vm ≠ .unknown ∧ (gB g ≤ a → cell.vm = .none) ∧ ∀ k, k < q.2.2 → (gB g ≤ a ∨ c ≠ 13 ∨ k < 2) → cell.slots[cS g c k]? = some (wv w (fk c k) a k) := by
  have hl := cls_lt hc
  obtain ⟨q', cell, e1, e2⟩ := (h.2.2 a).1 (by omega)
  rw [hs] at e1 e2
  cases e1.symm.trans hc
  exact ⟨cell, e2⟩
theorem Rep.obN {g : Ge} {w : Wd} {H : Heap} {a c : Nat} {q : vw_C} (h : Rep g w H) (hB : gB g ≤ a) (hs : (wsh w a).1 = c) (hc : cls[c]? = some q) : t_OB a (cC g c) q.2.2 (cS g c) H (fun k => wv w (fk c k) a k) := by
  obtain ⟨cell, h1, h2, -, -, h3, h4⟩ := h.ob hs hc
  exact ⟨cell, h1, h2, h3 hB, fun k hk => h4 k hk (Or.inl hB)⟩
theorem Rep.ar {g : Ge} {w : Wd} {H : Heap} {a t : Nat} (h : Rep g w H) (hB : gB g ≤ a) (hs : (wsh w a).1 = t) (h1 : 100 ≤ t) (h2 : t < 109) : H[a]? = some (arrV (cC g t) (wsh w a).2 (fun j => wv w (ek t) a j)) := by
  obtain ⟨cell, e1, -, -, -, -, -, e2, -⟩ := (h.2.2 a).2 (by omega) (by omega)
  rw [hs] at e2
  rw [e1, e2 hB]
  rfl
theorem Rep.arO {g : Ge} {w : Wd} {s : State} {H : Heap} {a t : Nat} (h : Rep g w H) (hKG : KG g s) (hs : (wsh w a).1 = t) (h1 : 100 ≤ t) (h2 : t < 109) : ∃ cell : Cell, H[a]? = some cell ∧ s.isArrayOf cell (aty t) ∧ cell.vm ≠ .unknown ∧ (wsh w a).2 ≤ cell.slots.size ∧ cell.slots.size.toInt32 = (wsh w a).2.toInt32 ∧ ∀ j, j < (wsh w a).2 → cell.slots[j]? = some (wv w (ek t) a j) := by
  obtain ⟨cell, e1, e2, e3, e4, e5, e6, e7, e8⟩ := (h.2.2 a).2 (by omega) (by omega)
  rw [hs] at e6 e7 e8
  refine ⟨cell, e1, ⟨e2, ?_⟩, e3, e4, e5, e6⟩
  by_cases hB : gB g ≤ a
  · rw [e7 hB]
    exact ((hKG.2.1 t h1 h2).1 0 (fun _ => .null)).2
  · obtain ⟨f1, f2⟩ := e8 hB
    rw [f1]
    exact (hKG.2.2.2.2.2.2.2.2 a t h1 h2 f2 0 (fun _ => .null)).2
theorem Rep.putO {g : Ge} {w w' : Wd} {H H1 : Heap} {a c k : Nat} {q : vw_C} {cell : Cell} {v : Value} (h : Rep g w H) (hB : gB g ≤ a) (hs : (wsh w a).1 = c) (hc : cls[c]? = some q) (hk : k < q.2.2) (hcell : H[a]? = some cell) (hap : ∀ x y, x < q.2.2 → y < q.2.2 → x ≠ y → cS g c x ≠ cS g c y)
    (e1 : H1[a]? = some (cell.setSlot (cS g c k) v)) (e2 : H1.size = H.size) (e3 : ∀ b, b ≠ a → H1[b]? = H[b]?) (ho : oneOff w w' a) (hv : ∀ j, wv w' (fk c j) a j = if j = k then v else wv w (fk c j) a j) : Rep g w' H1 := by
  refine h.off ho e2 e3 ?_
  obtain ⟨cell', q1, q2, q3, q4⟩ := h.obN hB hs hc
  cases hcell.symm.trans q1
  have hl := cls_lt hc
  have hs' : (wsh w' a).1 = c := by rw [ho.2.1]; exact hs
  refine ⟨fun _ => cOb.new (q := q) (by rw [hs']; exact hc) ?_, fun h1 => by omega⟩
  rw [hs']
  refine ⟨_, e1, q2, q3, fun j hj => ?_⟩
  rw [t_set q4 hap hk v j hj]
  exact congrArg some (hv j).symm
theorem Rep.putA {g : Ge} {w w' : Wd} {H H1 : Heap} {a t k : Nat} {v : Value} (h : Rep g w H) (hB : gB g ≤ a) (hs : (wsh w a).1 = t) (h1 : 100 ≤ t) (h2 : t < 109)
    (e1 : H1[a]? = some ((arrV (cC g t) (wsh w a).2 (fun j => wv w (ek t) a j)).setSlot k v)) (e2 : H1.size = H.size) (e3 : ∀ b, b ≠ a → H1[b]? = H[b]?) (ho : oneOff w w' a) (hv : ∀ j, wv w' (ek t) a j = if j = k then v else wv w (ek t) a j) : Rep g w' H1 := by
  refine h.off ho e2 e3 ?_
  have hs' : (wsh w' a).1 = t := by rw [ho.2.1]; exact hs
  refine ⟨fun q => by omega, fun _ _ => cAr.new hB ?_⟩
  rw [hs']
  rw [e1, arrV_store]
  have : updV (fun j => wv w (ek t) a j) k v = (fun j => wv w' (ek t) a j) := by
    funext j
    rw [hv j]
    rfl
  rw [this, ho.2.1]
  rfl
theorem zu_ne {α : Type} {f : Nat → α} {a b : Nat} {x : α} (h : b ≠ a) : va_up f a x b = f b := if_neg h
theorem zu_at {α : Type} (f : Nat → α) (a : Nat) (x : α) : va_up f a x a = x := if_pos rfl
theorem Rep.push {g : Ge} {w : Wd} {H H1 : Heap} {t n : Nat} (h : Rep g w H) (hz : H1.size = wn w + 1) (hq : ∀ b, b < wn w → H1[b]? = H[b]?) (ha : cOk g (nw w t n) H1 (wn w)) : Rep g (nw w t n) H1 := by
  refine ⟨hz, Nat.le_succ_of_le h.2.1, fun b => ?_⟩
  by_cases hb : b = wn w
  · subst hb
    exact ha
  · exact (h.2.2 b).kept (zu_ne hb) (fun q => hq b (h.lt q)) (zu_ne hb) (zu_ne hb) (zu_ne hb)
theorem wv_new (w : Wd) (t n k j : Nat) : wv (nw w t n) k (wn w) j = tv k 0 0 none := by
  unfold wv nw wI wL wP wn
  simp only [zu_at]
