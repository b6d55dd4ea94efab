/-! rows of rows: multianewarray of eight rows of sixteen -/
theorem mul_w : ckL [1119, 1121, 1061, 1112] [Cond.classLink (oN 2) 35 "[[I", Cond.classLink (oN 2) 40 "[[J", Cond.arrayClass .int, Cond.arrayClass .long] = true := by decide +kernel
def mulT (i : Nat) : FieldType := if i = 35 then .int else .long
theorem plA_ok {o i : Nat} (h : ¬ (plA o i).1 = 0) : oN o = oN 2 ∧ ((i = 35 ∧ plA o i = (107, 100)) ∨ (i = 40 ∧ plA o i = (108, 101))) := by
  unfold plA at h ⊢
  cases hf : maT.find? (fun q => Nat.beq q.1 o && Nat.beq q.2.1 i) with
  | none => rw [hf] at h; exact absurd rfl h
  | some e =>
    have hm := List.mem_of_find?_eq_some hf
    have hp := List.find?_some hf
    simp only [Bool.and_eq_true] at hp
    have h1 := Nat.eq_of_beq_eq_true hp.1
    have h2 := Nat.eq_of_beq_eq_true hp.2
    unfold maT at hm
    simp only [List.mem_cons, List.not_mem_nil, or_false] at hm
    rcases hm with rfl | rfl
    · exact ⟨by rw [← h1], Or.inl ⟨h2.symm, rfl⟩⟩
    · exact ⟨by rw [← h1], Or.inr ⟨h2.symm, rfl⟩⟩
def mfl (cA cB : ClassId) (dv : Value) (T : State) : Nat → State
  | 0 => T.pushCell { cls := cA, slots := Array.replicate 8 .null, vm := .none }
  | i + 1 => ((mfl cA cB dv T i).pushCell { cls := cB, slots := Array.replicate 16 dv, vm := .none }).setCell T.heap.size (((mfl cA cB dv T i).heap[T.heap.size]?.getD { cls := cA, slots := #[] }).setSlot i (.ref (mfl cA cB dv T i).heap.size))
theorem mfl_vm (cA cB : ClassId) (dv : Value) (T : State) : ∀ i, (mfl cA cB dv T i).vm = T.vm
  | 0 => rfl
  | i + 1 => mfl_vm cA cB dv T i
theorem mfl_top (cA cB : ClassId) (dv : Value) (T : State) (f : JFrame) : ∀ i, mfl cA cB dv (T.setTop f) i = (mfl cA cB dv T i).setTop f
  | 0 => rfl
  | i + 1 => by
    unfold mfl
    rw [mfl_top cA cB dv T f i]
    simp only [State.heap_setTop, State.pushCell_setTop, State.setCell_setTop]
theorem mwr_n (ti a : Nat) (w : Wd) : ∀ i, wn (mwr ti a i w) = wn w + i
  | 0 => rfl
  | i + 1 => by
    show wn (mwr ti a i w) + 1 = _
    rw [mwr_n ti a w i]
    omega
theorem mwr_sh (ti a : Nat) (w : Wd) (ha : a < wn w) : ∀ i, wsh (mwr ti a i w) a = wsh w a
  | 0 => rfl
  | i + 1 => by
    show va_up (wsh (mwr ti a i w)) (wn (mwr ti a i w)) (ti, 16) a = _
    rw [zu_ne (by rw [mwr_n]; omega)]
    exact mwr_sh ti a w ha i
theorem wv_nwo {w : Wd} {t n k a j : Nat} (h : a ≠ wn w) : wv (nw w t n) k a j = wv w k a j := by
  have e1 : wI (nw w t n) a = wI w a := zu_ne h
  have e2 : wL (nw w t n) a = wL w a := zu_ne h
  have e3 : wP (nw w t n) a = wP w a := zu_ne h
  unfold wv
  rw [e1, e2, e3]
theorem mul_new {E : CtlPost} {e : Env} {d : Bool} {acts : List Action} {U : State} {c comp : ClassId} {k : Class} {type : FieldType} {len : Nat} {init : Value} (hk : U.vm.classes[c]? = some k) (hkind : k.kind = .array comp type)
    (hl : ¬ len > e.platform.arrayLengthLimit) (hh : ¬ len * componentBytes type > e.platform.maxHeapBytes) (hfit : fits type init = true) (h1 : U.heap.size < e.platform.maxCells) (h2 : U.slotsUsed + len ≤ e.platform.maxSlots) {Q : Addr → Pre}
    (hq : ∀ acts', Q U.heap.size d acts' (U.pushCell { cls := c, slots := Array.replicate len init, vm := .none })) : wp (Jvm.newArray c len init) Q E e d acts U := by
  have hall : ∀ i v, (Array.replicate len init)[i]? = some v → U.fitsSlot c .none i v = true := fun i v hv => by
    rw [Array.getElem?_replicate] at hv
    split at hv
    · cases hv
      simp [State.fitsSlot, State.slotType?, hk, hkind, hfit]
    · cases hv
  simp only [Jvm.newArray, Jvm.arrayFits, wp_bind', W.ask, W.ite, hl, if_false, wp_pure', W.theClass, hk, hkind, hh, W.alloc, W.stop, Option.some.injEq, exists_eq_left', Array.size_replicate, not_false_eq_true, not_true_eq_false]
  first
    | exact ⟨h1, h2, hall, hq _⟩
    | (rw [if_neg (by omega)]; exact ⟨h1, h2, hall, hq _⟩)
section MULTI
variable {p : Program} {l : Launch} {e : Env} {R : Room} {s : State} {m : MethodId} {args : Array Value} {below : List Frame} {meth : Method} {c : Code} {H : Heap} {locs : List Loc} {cells slots : Nat} {Q : State → Prop}
variable {cc : ByteArray} {pc : Nat} {ls : Array Slot} {rest : List Value} {g : Ge} {w : Wd} {H0 : Heap} {own : String} {index : Nat}
theorem mfl_ok {to ti : Nat} (ht : (to = 107 ∧ ti = 100) ∨ (to = 108 ∧ ti = 101)) {dv : Value} (hdv : dv = tv (ek ti) 0 0 none) {T : State} (X : Stand p l e R s m args below meth c T locs cells slots) (hR : Rep g w T.heap) (hS : va_S (fun x => gB g ≤ x) H0 T.heap locs) :
    ∀ i, i ≤ 8 → ∃ locs1, Stand p l e R s m args below meth c (mfl (cC g to) (cC g ti) dv T i) locs1 (cells + (1 + i)) (slots + (8 + 16 * i)) ∧ Rep g (mwr ti (wn w) i (nw w to 8)) (mfl (cC g to) (cC g ti) dv T i).heap ∧ va_S (fun x => gB g ≤ x) H0 (mfl (cC g to) (cC g ti) dv T i).heap locs1 := by
  have hto : 100 ≤ to ∧ to < 109 ∧ ek to = 2 := by rcases ht with ⟨rfl, -⟩ | ⟨rfl, -⟩ <;> exact ⟨by decide, by decide, rfl⟩
  have hti : 100 ≤ ti ∧ ti < 109 := by rcases ht with ⟨-, rfl⟩ | ⟨-, rfl⟩ <;> exact ⟨by decide, by decide⟩
  have hn : T.heap.size = wn w := hR.1
  intro i
  induction i with
  | zero =>
    intro _
    refine ⟨locs, ?_, ?_, ?_⟩
    · have h := X.pushed { cls := cC g to, slots := Array.replicate 8 .null, vm := .none }
      rw [show (Array.replicate 8 Value.null).size = 8 from by simp] at h
      exact h
    · refine ar_new hR hto.1 hto.2.1 (dv := .null) (by rw [hto.2.2]; rfl) ?_ ?_ ?_
      · rw [← arrV_new, ← hn]
        exact State.heap_pushCell_size _ _
      · rw [← hn]
        exact size_pushCell _ _
      · intro q hq
        rw [← hn] at hq
        exact State.heap_pushCell_of_lt _ _ hq
    · exact hS.grow (by show T.heap.size ≤ (T.pushCell _).heap.size; rw [size_pushCell]; omega) (fun q hq => State.heap_pushCell_of_lt _ _ hq)
  | succ i ih =>
    intro hi
    obtain ⟨locs1, X1, R1, S1⟩ := ih (by omega)
    have hw0 : wn (mwr ti (wn w) i (nw w to 8)) = wn w + 1 + i := mwr_n _ _ _ _
    have hsz : (mfl (cC g to) (cC g ti) dv T i).heap.size = wn w + 1 + i := R1.1.trans hw0
    have hsh : wsh (mwr ti (wn w) i (nw w to 8)) (wn w) = (to, 8) := (mwr_sh ti (wn w) (nw w to 8) (Nat.lt_succ_self _) i).trans (zu_at _ _ _)
    have hB : gB g ≤ wn w := hR.2.1
    have hcell := R1.ar hB (t := to) (by rw [hsh]) hto.1 hto.2.1
    rw [hsh] at hcell
    have hlt : wn w < (mfl (cC g to) (cC g ti) dv T i).heap.size := by rw [hsz]; omega
    have X2 := X1.pushed { cls := cC g ti, slots := Array.replicate 16 dv, vm := .none }
    have hcell2 : ((mfl (cC g to) (cC g ti) dv T i).pushCell { cls := cC g ti, slots := Array.replicate 16 dv, vm := .none }).heap[wn w]? = some (arrV (cC g to) 8 (fun j => wv (mwr ti (wn w) i (nw w to 8)) (ek to) (wn w) j)) := by
      rw [State.heap_pushCell_of_lt _ _ hlt]
      exact hcell
    have X3 := X2.stored hcell2 i (.ref (mfl (cC g to) (cC g ti) dv T i).heap.size)
    have R2 : Rep g (nw (mwr ti (wn w) i (nw w to 8)) ti 16) ((mfl (cC g to) (cC g ti) dv T i).pushCell { cls := cC g ti, slots := Array.replicate 16 dv, vm := .none }).heap := by
      refine ar_new R1 hti.1 hti.2 (dv := dv) hdv ?_ ?_ ?_
      · rw [← arrV_new, ← R1.1]
        exact State.heap_pushCell_size _ _
      · rw [← R1.1]
        exact size_pushCell _ _
      · intro q hq
        rw [← R1.1] at hq
        exact State.heap_pushCell_of_lt _ _ hq
    have S2 : va_S (fun x => gB g ≤ x) H0 ((mfl (cC g to) (cC g ti) dv T i).pushCell { cls := cC g ti, slots := Array.replicate 16 dv, vm := .none }).heap locs1 := S1.grow (by rw [size_pushCell]; omega) (fun q hq => State.heap_pushCell_of_lt _ _ hq)
    have e0 : mfl (cC g to) (cC g ti) dv T (i + 1) = ((mfl (cC g to) (cC g ti) dv T i).pushCell { cls := cC g ti, slots := Array.replicate 16 dv, vm := .none }).setCell (wn w) ((arrV (cC g to) 8 (fun j => wv (mwr ti (wn w) i (nw w to 8)) (ek to) (wn w) j)).setSlot i (.ref (mfl (cC g to) (cC g ti) dv T i).heap.size)) := by
      show ((mfl (cC g to) (cC g ti) dv T i).pushCell { cls := cC g ti, slots := Array.replicate 16 dv, vm := .none }).setCell T.heap.size (((mfl (cC g to) (cC g ti) dv T i).heap[T.heap.size]?.getD { cls := cC g to, slots := #[] }).setSlot i (.ref (mfl (cC g to) (cC g ti) dv T i).heap.size)) = _
      rw [hn, hcell]
      rfl
    rw [e0]
    have hlt2 : wn w < ((mfl (cC g to) (cC g ti) dv T i).pushCell { cls := cC g ti, slots := Array.replicate 16 dv, vm := .none }).heap.size := by rw [size_pushCell]; omega
    have hsh2 : wsh (nw (mwr ti (wn w) i (nw w to 8)) ti 16) (wn w) = (to, 8) := (zu_ne (by rw [hw0]; omega)).trans hsh
    refine ⟨locs1 ++ [⟨wn w, i⟩], ?_, ?_, ?_⟩
    · have e1 : cells + (1 + i) + 1 = cells + (1 + (i + 1)) := by omega
      have e2 : slots + (8 + 16 * i) + 16 = slots + (8 + 16 * (i + 1)) := by omega
      have X4 := X3
      rw [show (Array.replicate 16 dv).size = 16 from by simp, e1, e2] at X4
      exact X4
    · show Rep g (sP (nw (mwr ti (wn w) i (nw w to 8)) ti 16) (wn w) i (some (wn (mwr ti (wn w) i (nw w to 8))))) _
      refine R2.putA hB (t := to) (by rw [hsh2]) hto.1 hto.2.1 (k := i) (v := .ref (mfl (cC g to) (cC g ti) dv T i).heap.size) ?_ (size_setCell _ _ _) (fun b hb => State.heap_setCell_other (Ne.symm hb)) (oneOff_sP _ _ _ _) (fun j => ?_)
      · rw [hsh2]
        rw [State.heap_setCell_self hcell2]
        congr 3
        funext j
        exact (wv_nwo (by rw [hw0]; omega)).symm
      · rw [wv_sP _ _ _ _ _ _ (fun _ => hto.2.2), R1.1]
        rfl
    · exact S2.put (size_setCell _ _ _) (fun q hq => State.heap_setCell_other (Ne.symm hq)) hB
theorem w_multi (hexec : p.tables.exec = Jvm.exec) (hb : c.code = cc) (hts : ∀ w ∈ GL, w.before args s = true) (hown : s.vm.findClass own = some m.cls) (hKG : KG g s) (hR : Rep g w H) (hS : va_S (fun x => gB g ≤ x) H0 H locs) {to ti : Nat} {ty : FieldType} (ht : (to = 107 ∧ ti = 100 ∧ ty = .int) ∨ (to = 108 ∧ ti = 101 ∧ ty = .long)) (hl : Cond.classLink own index ("[[" ++ ty.toString) ∈ GL) (hcells : cells + 9 ≤ R.cells) (hslots : slots + 136 ≤ R.slots) (hdg : decode cc pc = .ok (.multianewarray index 2, 4))
    (kk : ∀ (H1 : Heap) (locs1 : List Loc), Rep g (mwr ti (wn w) 8 (nw w to 8)) H1 → va_S (fun x => gB g ≤ x) H0 H1 locs1 → W p l e R s m args below meth c H1 locs1 (cells + 9) (slots + 136) Q (F0 m (pc + 4) ls (.ref (wn w) :: rest))) : W p l e R s m args below meth c H locs cells slots Q (F0 m pc ls (.int 16 :: .int 8 :: rest)) := by
  intro T hT X
  subst hT; subst hb
  obtain ⟨hov, hname, hA, hAr, hB, hBr, hto, hdv, hcb, hdf, hdd⟩ : va_AA ty s ∧ ("[[" ++ ty.toString = "[" ++ (FieldType.array ty).toString) ∧ ArrOfT s (cC g to) (.array ty) ∧ s.vm.findClass ("[" ++ (FieldType.array ty).toString) = some (cC g to) ∧ ArrOfT s (cC g ti) ty ∧ s.vm.findClass ("[" ++ ty.toString) = some (cC g ti) ∧ ((to = 107 ∧ ti = 100) ∨ (to = 108 ∧ ti = 101)) ∧ defaultValue ty = tv (ek ti) 0 0 none ∧ componentBytes ty ≤ 8 ∧ fits ty (defaultValue ty) = true ∧ (defaultValue ty).isDefault = true := by
    rcases ht with ⟨rfl, rfl, rfl⟩ | ⟨rfl, rfl, rfl⟩
    · exact ⟨hKG.2.2.2.2.2.1, by decide, (hKG.2.1 107 (by decide) (by decide)).1, (hKG.2.1 107 (by decide) (by decide)).2, (hKG.2.1 100 (by decide) (by decide)).1, (hKG.2.1 100 (by decide) (by decide)).2, Or.inl ⟨rfl, rfl⟩, rfl, by decide, rfl, rfl⟩
    · exact ⟨hKG.2.2.2.2.2.2.1, by decide, (hKG.2.1 108 (by decide) (by decide)).1, (hKG.2.1 108 (by decide) (by decide)).2, (hKG.2.1 101 (by decide) (by decide)).1, (hKG.2.1 101 (by decide) (by decide)).2, Or.inr ⟨rfl, rfl⟩, rfl, by decide, rfl, rfl⟩
  have hpl : e.platform.magicAccessors = ({} : Platform).magicAccessors := by rw [X.admits.platform]
  obtain ⟨comp, cA, kA, hcomp, -, hkA, hkindA, hnameA⟩ := arrayOverA_spec hov
  cases hnameA.symm.trans hAr
  have hcB : comp = cC g ti := Option.some.inj (hcomp.symm.trans hBr)
  subst hcB
  obtain ⟨-, kB, hkB, compB, hkindB⟩ := hB 0 (fun _ => .null)
  obtain ⟨c0, hfc0, hcl⟩ := Cond.classLink_spec hown (hts _ hl) e.platform hpl
  rw [hname] at hfc0
  cases hnameA.symm.trans hfc0
  obtain ⟨hg1, hwarm1, hready1⟩ := State.classEntry (e := e) X.warmed hcl
  generalize T.vm.noted m.cls index (.cls (cC g to)) = vm1 at hg1 hwarm1 hready1
  have hal : s.vm.Alike vm1 := hwarm1.alike
  obtain ⟨kA1, hkA1, heA⟩ := hal.2.2 _ _ hkA
  obtain ⟨kB1, hkB1, heB⟩ := hal.2.2 _ _ hkB
  have hkindA1 : kA1.kind = .array (cC g ti) (.array ty) := by rw [heA]; exact hkindA
  have hkindB1 : kB1.kind = .array compB ty := by rw [heB]; exact hkindB
  have X1 := X.noted hwarm1
  obtain ⟨hr1, hr2⟩ := X.roomAbove hcells hslots
  have hok := fun i hi => mfl_ok (T := T.setVm vm1) hto hdv X1 hR hS i hi
  obtain ⟨locs8, X8, R8, S8⟩ := hok 8 (by decide)
  obtain ⟨t, a1, b1⟩ := kk _ locs8 R8 S8 _ rfl X8
  refine ⟨t, ?_, b1⟩
  have hlimA : ∀ n : Nat, n ≤ 16 → ¬ n > e.platform.arrayLengthLimit := fun n hn => by rw [Launch.admits_arrayLengthLimit X.admits]; omega
  have hlimB : ∀ n k : Nat, n ≤ 16 → k ≤ 8 → ¬ n * k > e.platform.maxHeapBytes := fun n k hn hk => by
    have := Nat.mul_le_mul hn hk
    rw [Launch.admits_maxHeapBytes X.admits]
    omega
  have hroom : ∀ i, i ≤ 8 → (mfl (cC g to) (cC g ti) (defaultValue ty) (T.setVm vm1) i).heap.size = T.heap.size + 1 + i ∧ (mfl (cC g to) (cC g ti) (defaultValue ty) (T.setVm vm1) i).slotsUsed = T.slotsUsed + 8 + 16 * i := by
    intro i
    induction i with
    | zero => exact fun _ => ⟨size_pushCell _ _, by simp [mfl]⟩
    | succ i ih =>
      intro hi
      obtain ⟨y1, y2⟩ := ih (by omega)
      refine ⟨?_, ?_⟩
      · show (State.setCell _ _ _).heap.size = _
        rw [size_setCell, size_pushCell, y1]
        rfl
      · simp [mfl, y2]
        omega
  have hl : ∀ (f : JFrame) (i : Nat), i < 8 → ∀ (E : CtlPost) (d : Bool) (acts : List Action) (Q : Addr → Pre), (∀ d' acts', Q (mfl (cC g to) (cC g ti) (defaultValue ty) (T.setVm vm1) i).heap.size d' acts' (((mfl (cC g to) (cC g ti) (defaultValue ty) (T.setVm vm1) i).pushCell { cls := cC g ti, slots := Array.replicate 16 (defaultValue ty), vm := .none }).setTop f)) → wp (multianewarray.make (cC g ti) [16]) Q E e d acts ((mfl (cC g to) (cC g ti) (defaultValue ty) (T.setVm vm1) i).setTop f) := by
    intro f i hi E d acts Q hQ
    obtain ⟨y1, y2⟩ := hroom i (by omega)
    have hk1 : ((mfl (cC g to) (cC g ti) (defaultValue ty) (T.setVm vm1) i).setTop f).vm.classes[cC g ti]? = some kB1 := by
      show (mfl (cC g to) (cC g ti) (defaultValue ty) (T.setVm vm1) i).vm.classes[cC g ti]? = _
      rw [mfl_vm]
      exact hkB1
    rw [multianewarray.make]
    simp only [wp_bind', W.ite, show ¬ (16 : Int32) < 0 from by decide, if_false, wp_pure', W.theClass, hk1, hkindB1, Option.some.injEq, exists_eq_left', show (16 : Int32).toNatClampNeg = 16 from by decide]
    refine mul_new hk1 hkindB1 (hlimA 16 (by decide)) (hlimB 16 _ (by decide) hcb) hdf ?_ ?_ fun acts' => ?_
    · rw [State.heap_setTop, y1]
      omega
    · rw [State.slotsUsed_setTop, y2]
      omega
    · rw [State.heap_setTop, State.pushCell_setTop]
      exact hQ _ _
  jvm_step X.here [hexec, hdg]
  simp only [multianewarray.sem, wp_bind', W.resolveClassAt_links (State.method?_setTop (F0 m pc ls (.int 16 :: .int 8 :: rest)) X.here.top) hg1]
  rw [W.popN, if_neg (by decide)]
  refine ⟨F0 m pc ls (.int 16 :: .int 8 :: rest), State.topJava?_setTop' (s := T.setVm vm1) _ X.here.top, [.int 8, .int 16], rest, rfl, rfl, ?_⟩
  simp only [List.mapM_cons, List.mapM_nil, wp_bind', wp_pure']
  have eS : ((T.setTop (F0 m pc ls (.int 16 :: .int 8 :: rest))).setVm vm1).setTop (F0 m pc ls rest) = (T.setVm vm1).setTop (F0 m pc ls rest) := by
    show ((T.setVm vm1).setTop _).setTop _ = _
    rw [State.setTop_setTop]
  rw [eS, multianewarray.make]
  simp only [wp_bind', W.ite, show ¬ (8 : Int32) < 0 from by decide, if_false, wp_pure', W.theClass, show ((T.setVm vm1).setTop (F0 m pc ls rest)).vm.classes[cC g to]? = some kA1 from hkA1, hkindA1, Option.some.injEq, exists_eq_left', show (8 : Int32).toNatClampNeg = 8 from by decide, show ((8 : Int32) == 0) = false from by decide]
  refine mul_new (k := kA1) hkA1 hkindA1 (hlimA 8 (by decide)) (hlimB 8 4 (by decide) (by decide)) rfl (by show T.heap.size < _; omega) (by show T.slotsUsed + 8 ≤ _; omega) fun acts' => ?_
  simp only [Bool.false_eq_true, if_false]
  rw [wp_bind', Std.Legacy.Range.forIn_eq_forIn_range']
  refine wp_forIn_inv (fun (r : List Nat) s' => ∃ i, i ≤ 8 ∧ r = List.range' i (8 - i) ∧ s' = (mfl (cC g to) (cC g ti) (defaultValue ty) (T.setVm vm1) i).setTop (F0 m pc ls rest)) _ _ ⟨0, by decide, rfl, rfl⟩ ?_ ?_
  · rintro x r s' d' acts2 Q' ⟨i, hi, hr, rfl⟩ hnext
    have hlt : i < 8 := by
      rcases Nat.lt_or_ge i 8 with h | h
      · exact h
      · rw [show 8 - i = 0 from by omega] at hr
        cases hr
    rw [show 8 - i = (8 - (i + 1)) + 1 from by omega, List.range'_succ] at hr
    obtain ⟨rfl, rfl⟩ := List.cons.inj hr
    obtain ⟨y1, y2⟩ := hroom x hi
    simp only [wp_bind']
    refine hl _ x hlt _ _ _ _ fun d3 acts3 => ?_
    obtain ⟨locs1, -, R1, -⟩ := hok x hi
    have hsh : wsh (mwr ti (wn w) x (nw w to 8)) (wn w) = (to, 8) := (mwr_sh ti (wn w) (nw w to 8) (Nat.lt_succ_self _) x).trans (zu_at _ _ _)
    have hcell := R1.ar (a := wn w) hR.2.1 (t := to) (by rw [hsh]) (by omega) (by omega)
    rw [hsh, show wn w = T.heap.size from hR.1.symm] at hcell
    have hlt2 : T.heap.size < (mfl (cC g to) (cC g ti) (defaultValue ty) (T.setVm vm1) x).heap.size := by rw [y1]; omega
    simp only [wp_bind', W.writeLoc, wp_pure']
    refine ⟨_, (State.heap_pushCell_of_lt _ _ hlt2).trans hcell, (fun h => by cases h), (by rw [arrV_size]; exact hlt), ?_, hnext _ _ _ ⟨x + 1, hlt, rfl, ?_⟩⟩
    · have hk3 : ((mfl (cC g to) (cC g ti) (defaultValue ty) (T.setVm vm1) x).pushCell { cls := cC g ti, slots := Array.replicate 16 (defaultValue ty), vm := .none }).vm.classes[cC g to]? = some kA1 := by
        show (mfl (cC g to) (cC g ti) (defaultValue ty) (T.setVm vm1) x).vm.classes[cC g to]? = _
        rw [mfl_vm]
        exact hkA1
      simp [State.fitsSlot, State.slotType?, arrV, mfl_vm, hkA1, hkindA1, fits]
    · rw [State.setCell_setTop]
      congr 1
      show _ = ((mfl (cC g to) (cC g ti) (defaultValue ty) (T.setVm vm1) x).pushCell _).setCell T.heap.size (((mfl (cC g to) (cC g ti) (defaultValue ty) (T.setVm vm1) x).heap[T.heap.size]?.getD _).setSlot x _)
      rw [hcell]
      rfl
  · rintro s' d' acts2 ⟨i, hi, hr, rfl⟩
    have hi8 : i = 8 := by
      rcases Nat.lt_or_ge i 8 with h | h
      · rw [show 8 - i = (8 - (i + 1)) + 1 from by omega, List.range'_succ] at hr
        cases hr
      · omega
    subst hi8
    simp only [wp_pure', wp_bind', W.mark, W.pushRef, State.topJava?_setTop' _ X8.here.top, Option.some.injEq, exists_eq_left', State.setTop_setTop]
    intro acts4
    simp [jvm, X8.here.top]
    rw [show T.heap.size = wn w from hR.1]
    exact a1
end MULTI
