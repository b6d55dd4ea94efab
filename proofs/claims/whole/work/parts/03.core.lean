/-! the global words -/
/-- private methods of AbstractStringBuilder, called on a StringBuilder: selected are they themselves (proved at the start) -/
def xsel : List Cond := [yJ5_newCapacity_0f7a4, yJ5_ensureCapacityInternal_d00df, yJ5_putStringAt_47b60, yJ5_inflateIfNeededFor_a7421].map fun y => .selects "java/lang/StringBuilder" y y
def lw_tb2 : List Cond := lw_tbl ++ xsel
def GL : List Cond := lw_tb2.filter goodWord
/-- the tables' pieces; a word's place is 1000 times the piece's number, and its place there -/
def ch (j : Nat) : List Cond := match j with
  | 0 => k2_sels lw_privs
  | 1 => tables_1_1
  | 2 => tables_1_2
  | 3 => tables_1_3
  | 4 => tables_1_4
  | 5 => tables_1_5
  | 6 => tables_1_6
  | 7 => tables_1_7
  | 8 => tables_1_8
  | 9 => xsel
  | _ => []
theorem ch_sub : ∀ (j : Nat) (w : Cond), w ∈ ch j → w ∈ lw_tb2 := by
  intro j w h
  unfold lw_tb2 lw_tbl tables_1
  simp only [List.mem_append]
  unfold ch at h
  split at h
  · exact Or.inl (Or.inl h)
  · exact Or.inl (Or.inr (Or.inl h))
  · exact Or.inl (Or.inr (Or.inr (Or.inl h)))
  · exact Or.inl (Or.inr (Or.inr (Or.inr (Or.inl h))))
  · exact Or.inl (Or.inr (Or.inr (Or.inr (Or.inr (Or.inl h)))))
  · exact Or.inl (Or.inr (Or.inr (Or.inr (Or.inr (Or.inr (Or.inl h))))))
  · exact Or.inl (Or.inr (Or.inr (Or.inr (Or.inr (Or.inr (Or.inr (Or.inl h)))))))
  · exact Or.inl (Or.inr (Or.inr (Or.inr (Or.inr (Or.inr (Or.inr (Or.inr (Or.inl h))))))))
  · exact Or.inl (Or.inr (Or.inr (Or.inr (Or.inr (Or.inr (Or.inr (Or.inr (Or.inr h))))))))
  · exact Or.inr h
  · cases h
theorem gl_mem {w : Cond} (i : Nat) (h : (ch (i / 1000))[i % 1000]? = some w) (hg : goodWord w = true) : w ∈ GL := List.mem_filter.mpr ⟨ch_sub _ _ (List.mem_of_getElem? h), hg⟩
theorem gl_goodIn {Ts ws : List Cond} (hT : ∀ w ∈ GL, w ∈ Ts) (h : ∀ w ∈ ws, w ∈ GL) : GoodIn Ts ws := fun w hw => ⟨hT w (h w hw), good_of_word (List.mem_filter.mp (h w hw)).2⟩
/-- words by their places in lw_tbl, checked by the kernel -/
def ckW (ws : List (Nat × Cond)) : Bool := ws.all fun q => decide ((ch (q.1 / 1000))[q.1 % 1000]? = some q.2) && goodWord q.2
theorem ckW_ok {ws : List (Nat × Cond)} (h : ckW ws = true) {q : Nat × Cond} (hq : q ∈ ws) : q.2 ∈ GL := by
  have h1 := List.all_eq_true.mp h q hq
  simp only [Bool.and_eq_true, decide_eq_true_eq] at h1
  exact gl_mem q.1 h1.1 h1.2
/-! method infos -/
def mN (M : Mi) : MethodName := M.1
def mC (M : Mi) : ByteArray := M.2.1
def mL (M : Mi) : Nat := M.2.2.1
def mR (M : Mi) : Option FieldType := M.2.2.2.1
def mO (M : Mi) : Nat := M.2.2.2.2.1
def mF (M : Mi) : Nat := M.2.2.2.2.2.1
def mW (M : Mi) : Nat := M.2.2.2.2.2.2
def rmM (M : Mi) (k n : Nat) : Room := { frames := mF M, cells := k, slots := n, locals := mW M }
def wsM (M : Mi) : List Cond := Cond.code (mN M) (mC M) (mL M) (mR M) :: GL
/-! the typed world: next address, shapes (tag, length), ints, longs, references -/
abbrev Wd : Type := Nat × (Nat → Nat × Nat) × (Nat → Nat → Int32) × (Nat → Nat → Int64) × (Nat → Nat → Option Nat)
def wn (w : Wd) : Nat := w.1
def wsh (w : Wd) : Nat → Nat × Nat := w.2.1
def wI (w : Wd) : Nat → Nat → Int32 := w.2.2.1
def wL (w : Wd) : Nat → Nat → Int64 := w.2.2.2.1
def wP (w : Wd) : Nat → Nat → Option Nat := w.2.2.2.2
def up2 {α : Type} (f : Nat → Nat → α) (a k : Nat) (x : α) : Nat → Nat → α := fun b j => if b = a ∧ j = k then x else f b j
def sI (w : Wd) (a k : Nat) (x : Int32) : Wd := (wn w, wsh w, up2 (wI w) a k x, wL w, wP w)
def sL (w : Wd) (a k : Nat) (x : Int64) : Wd := (wn w, wsh w, wI w, up2 (wL w) a k x, wP w)
def sP (w : Wd) (a k : Nat) (x : Option Nat) : Wd := (wn w, wsh w, wI w, wL w, up2 (wP w) a k x)
def nw (w : Wd) (t n : Nat) : Wd := (wn w + 1, va_up (wsh w) (wn w) (t, n), va_up (wI w) (wn w) (fun _ => 0), va_up (wL w) (wn w) (fun _ => 0), va_up (wP w) (wn w) (fun _ => none))
def kt (ty : FieldType) : Nat := match ty with
  | .long => 1
  | .object _ => 2
  | .array _ => 2
  | _ => 0
def tv (t : Nat) (i : Int32) (l : Int64) (p : Option Nat) : Value := match t with
  | 0 => .int i
  | 1 => .long l
  | _ => va_rf p
def clT (c : Nat) : u_T := match cls[c]? with
  | some q => q.2.1
  | none => TX0
def clY (c : Nat) : Nat → FieldType := match c with
  | 0 => tyX0
  | 1 => tyX1
  | 2 => tyX2
  | 3 => tyX3
  | 4 => tyX4
  | 5 => tyX5
  | 6 => tyX6
  | 7 => tyX7
  | 8 => tyX8
  | 9 => tyX9
  | 10 => tyX10
  | 11 => tyX11
  | 12 => tyX12
  | 13 => tyJ0
  | _ => tyJ4
def fk (c k : Nat) : Nat := kt (clY c k)
/-- element types of the array tags 100 .. 108 -/
def aty (t : Nat) : FieldType := match t with
  | 100 => .int
  | 101 => .long
  | 102 => .boolean
  | 103 => .byte
  | 104 => .object "RowMarshal$Row"
  | 105 => .object "RowMarshal$Version"
  | 106 => .object "RowMarshal$Field"
  | 107 => .array .int
  | _ => .array .long
def ek (t : Nat) : Nat := kt (aty t)
/-! the surroundings: class ids and field slots, the base address, addresses of constants -/
abbrev Ge : Type := va_G × Nat × (Nat → Nat → Nat)
def gB (g : Ge) : Nat := g.2.1
def gA (g : Ge) : Nat → Nat → Nat := g.2.2
def cC (g : Ge) : Nat → ClassId := g.1.1
def cS (g : Ge) : Nat → Nat → Nat := g.1.2
def strT : List (Nat × Nat × String) := [(11, 64, ""), (10, 19, "bit"), (10, 21, "byte"), (10, 23, "sign"), (10, 25, "short"), (10, 27, "int"), (10, 29, "long"), (10, 31, "float"), (10, 33, "double"), (10, 35, "box"), (1, 57, "[]"), (12, 211, "bit"), (12, 213, "byte"), (12, 215, "sign"), (12, 216, "short"), (12, 218, "int"), (12, 220, "long"), (12, 222, "float"), (12, 224, "double"), (12, 226, "box")]
/-- statics: class, name, descriptor, reference (by gA g 1000 j; null if gA g 1001 j isn't 0) or number -/
def staT : List (String × String × String × Bool × Nat × Int32) := [("RowMarshal$Numbers", "WIDER", "[I", true, 0, 0), ("java/lang/String", "COMPACT_STRINGS", "Z", false, 0, 1), ("java/lang/Integer", "DigitOnes", "[B", true, 1, 0), ("java/lang/Integer", "DigitTens", "[B", true, 2, 0), ("jdk/internal/util/Preconditions", "SIOOBE_FORMATTER", "Ljava/util/function/BiFunction;", true, 3, 0)]
def staV (g : Ge) (q : String × String × String × Bool × Nat × Int32) : Value := if q.2.2.2.1 then (if gA g 1001 q.2.2.2.2.1 = 0 then .ref (gA g 1000 q.2.2.2.2.1) else .null) else .int q.2.2.2.2.2
/-- nest mates' links: own, pool entry, method -/
def nestT : List (Nat × Nat × MethodName) := [(11, 35, yX5_init), (5, 11, yX0_init), (5, 20, yX6_init), (11, 42, yX2_init), (11, 49, yX9_init), (11, 59, yX3_init), (8, 54, yX11_isSlot), (2, 59, yX11_isVersion)]
def va_AA (ty : FieldType) (U : State) : Prop := (Cond.arrayOver (.array ty)).before #[] U = true
theorem va_AA.moved {ty : FieldType} {u U : State} (hvm : u.vm.Alike U.vm) (h : va_AA ty u) : va_AA ty U := by
  unfold va_AA Cond.before at h
  simp only [Cond.holds, Cond.value, beq_iff_eq] at h
  cases hc : u.vm.findClass (FieldType.array ty).toString with
  | none => simp [hc] at h
  | some comp =>
    simp only [hc, Option.bind_some, Option.bind_eq_some_iff, Option.map_eq_some_iff] at h
    obtain ⟨c, h2, k, h3, hb⟩ := h
    obtain ⟨k', hk', he⟩ := hvm.2.2 _ _ h3
    have hi : (U.vm.classes.findIdx? fun (x : Class) => match x.kind with | .array component _ => component == comp | _ => false) = some c := by
      refine (va_idx_bare U.vm comp).symm.trans (Eq.trans ?_ ((va_idx_bare u.vm comp).trans h2))
      first | rw [hvm.bare_eq] | rw [← hvm.bare_eq]
    have f1 : U.vm.findClass (FieldType.array ty).toString = some comp := by rw [hvm.findClass]; exact hc
    have hkind : k'.kind = k.kind := by rw [he]
    unfold va_AA Cond.before Cond.holds
    simp only [Cond.value]
    rw [f1, Option.bind_some]
    refine (congrArg (fun o : Option Nat => (o.bind (fun c => (U.vm.classes[c]?).map fun (k : Class) => match k.kind with | .array _ t => decide (t = FieldType.array ty) && decide (U.vm.findClass ("[" ++ (FieldType.array ty).toString) = some c) | _ => false) == some true)) hi).trans ?_
    simp only [Option.bind_some, hk', Option.map_some, hkind, hvm.findClass, beq_iff_eq, Option.some.injEq]
    exact hb
def KG (g : Ge) (U : State) : Prop := (∀ (c : Nat) (q : vw_C), cls[c]? = some q → u_Kn U q.1 q.2.1 q.2.2 (cC g c) (cS g c)) ∧ (∀ t : Nat, 100 ≤ t → t < 109 → ArrOfT U (cC g t) (aty t) ∧ va_RA U (cC g t) (aty t)) ∧ (∀ q ∈ strT, vk_R (oN q.1) q.2.1 q.2.2 (gA g q.1 q.2.1) U) ∧ (∀ q ∈ nestT, va_Nw (.methodLinkNest (oN q.1) q.2.1 q.2.2 "RowMarshal") U) ∧ (∀ C ∈ ["RowMarshal$Row", "RowMarshal$Version", "RowMarshal$Field"], va_AO C U) ∧ va_AA .int U ∧ va_AA .long U ∧ va_Nw (.castable "[B" "java/lang/Cloneable") U ∧ ∀ a t : Nat, 100 ≤ t → t < 109 → gA g 2001 a = t → ArrOfT U (gA g 2000 a) (aty t)
def KS (g : Ge) (U : State) (H : Heap) : Prop := ∀ q ∈ staT, va_Z q.1 q.2.1 q.2.2.1 (staV g q) (fun a => gB g ≤ a) U H
theorem KG.warm {g : Ge} {s U : State} (hW : s.WarmedH U.vm) (h : KG g s) : KG g U :=
  ⟨fun c q hq => u_Kn_moved hW.alike (h.1 c q hq), fun t h1 h2 => ⟨arrOfT_moved hW.alike (h.2.1 t h1 h2).1, (h.2.1 t h1 h2).2.moved hW.alike⟩, fun q hq => (h.2.2.1 q hq).warm hW, fun q hq => (h.2.2.2.1 q hq).warmM hW, fun C hC => (h.2.2.2.2.1 C hC).moved hW.alike, h.2.2.2.2.2.1.moved hW.alike, h.2.2.2.2.2.2.1.moved hW.alike, h.2.2.2.2.2.2.2.1.warmC hW, fun a t h1 h2 h3 => arrOfT_moved hW.alike (h.2.2.2.2.2.2.2.2 a t h1 h2 h3)⟩
theorem KS.warm {g : Ge} {s U : State} {H : Heap} (hW : s.WarmedH U.vm) (h : KS g s H) : KS g U H := fun q hq => (h q hq).moved hW.alike
theorem KS.kept {g : Ge} {s : State} {H H1 : Heap} (h : KS g s H) (hk : ∀ a : Nat, a < H.size → ¬ gB g ≤ a → H1[a]? = H[a]?) : KS g s H1 := fun q hq => (h q hq).kept hk
/-! a cell as the world tells it; of a cell that was there before only what the premises say -/
def cOb (g : Ge) (w : Wd) (H : Heap) (a c : Nat) : Prop := ∃ (q : vw_C) (cell : Cell), cls[c]? = some q ∧ H[a]? = some cell ∧ cell.cls = cC g c ∧ cell.vm.isStatics = false ∧ cell.vm ≠ .unknown ∧ (gB g ≤ a → cell.vm = .none) ∧ ∀ k, k < q.2.2 → (gB g ≤ a ∨ c ≠ 13 ∨ k < 2) → cell.slots[cS g c k]? = some (tv (fk c k) (wI w a k) (wL w a k) (wP w a k))
def cAr (g : Ge) (w : Wd) (H : Heap) (a t n : Nat) : Prop := ∃ cell : Cell, H[a]? = some cell ∧ (∀ k, cell.vm ≠ .statics k) ∧ cell.vm ≠ .unknown ∧ n ≤ cell.slots.size ∧ cell.slots.size.toInt32 = n.toInt32 ∧ (∀ j, j < n → cell.slots[j]? = some (tv (ek t) (wI w a j) (wL w a j) (wP w a j))) ∧ (gB g ≤ a → cell = arrV (cC g t) n (fun j => tv (ek t) (wI w a j) (wL w a j) (wP w a j))) ∧ (¬ gB g ≤ a → cell.cls = gA g 2000 a ∧ gA g 2001 a = t)
theorem cAr.new {g : Ge} {w : Wd} {H : Heap} {a t n : Nat} (hB : gB g ≤ a) (h : H[a]? = some (arrV (cC g t) n (fun j => tv (ek t) (wI w a j) (wL w a j) (wP w a j)))) : cAr g w H a t n :=
  ⟨_, h, (fun k h => by cases h), (fun h => by cases h), by rw [arrV_size]; exact Nat.le_refl _, by rw [arrV_size], fun j hj => arrV_read _ _ hj, fun _ => rfl, fun h => absurd hB h⟩
theorem cOb.new {g : Ge} {w : Wd} {H : Heap} {a c : Nat} {q : vw_C} (hq : cls[c]? = some q) (h : t_OB a (cC g c) q.2.2 (cS g c) H (fun k => tv (fk c k) (wI w a k) (wL w a k) (wP w a k))) : cOb g w H a c := by
  obtain ⟨cell, h1, h2, h3, h4⟩ := h
  exact ⟨q, cell, hq, h1, h2, (by rw [h3]; rfl), (by rw [h3]; exact fun h => nomatch h), fun _ => h3, fun k hk _ => h4 k hk⟩
def cOk (g : Ge) (w : Wd) (H : Heap) (a : Nat) : Prop := ((wsh w a).1 < 100 → cOb g w H a (wsh w a).1) ∧ (100 ≤ (wsh w a).1 → (wsh w a).1 < 109 → cAr g w H a (wsh w a).1 (wsh w a).2)
def Rep (g : Ge) (w : Wd) (H : Heap) : Prop := H.size = wn w ∧ gB g ≤ wn w ∧ ∀ a, cOk g w H a
def RU (g : Ge) (w : Wd) (U : State) : Prop := Rep g w U.heap ∧ KG g U ∧ KS g U U.heap
theorem cOb.lt {g : Ge} {w : Wd} {H : Heap} {a c : Nat} (h : cOb g w H a c) : a < H.size := by
  obtain ⟨q, cell, -, h1, -⟩ := h
  exact (Array.getElem?_eq_some_iff.mp h1).1
theorem cAr.lt {g : Ge} {w : Wd} {H : Heap} {a t n : Nat} (h : cAr g w H a t n) : a < H.size := by
  obtain ⟨cell, h1, -⟩ := h
  exact (Array.getElem?_eq_some_iff.mp h1).1
theorem Rep.lt {g : Ge} {w : Wd} {H : Heap} (h : Rep g w H) {a : Nat} (ha : (wsh w a).1 < 109) : a < wn w := by
  rw [← h.1]
  by_cases h1 : (wsh w a).1 < 100
  · exact ((h.2.2 a).1 h1).lt
  · exact ((h.2.2 a).2 (by omega) ha).lt
theorem cOb.kept {g : Ge} {w w' : Wd} {H H1 : Heap} {a c : Nat} (h : cOb g w H a c) (hq : H1[a]? = H[a]?) (h1 : wI w' a = wI w a) (h2 : wL w' a = wL w a) (h3 : wP w' a = wP w a) : cOb g w' H1 a c := by
  unfold cOb
  rw [h1, h2, h3, hq]
  exact h
theorem cAr.kept {g : Ge} {w w' : Wd} {H H1 : Heap} {a t n : Nat} (h : cAr g w H a t n) (hq : H1[a]? = H[a]?) (h1 : wI w' a = wI w a) (h2 : wL w' a = wL w a) (h3 : wP w' a = wP w a) : cAr g w' H1 a t n := by
  unfold cAr
  rw [h1, h2, h3, hq]
  exact h
theorem cOk.kept {g : Ge} {w w' : Wd} {H H1 : Heap} {a : Nat} (h : cOk g w H a) (h0 : wsh w' a = wsh w a) (hq : (wsh w a).1 < 109 → H1[a]? = H[a]?) (h1 : wI w' a = wI w a) (h2 : wL w' a = wL w a) (h3 : wP w' a = wP w a) : cOk g w' H1 a := by
  unfold cOk
  rw [h0]
  exact ⟨fun q => (h.1 q).kept (hq (by omega)) h1 h2 h3, fun q1 q2 => (h.2 q1 q2).kept (hq q2) h1 h2 h3⟩
