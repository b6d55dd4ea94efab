section NATS
variable {p : Program} {l : Launch} {e : Env} {R : Room} {s : State} {m : MethodId} {args : Array Value} {below : List Frame} {meth : Method} {c : Code} {H : Heap} {locs : List Loc} {cells slots : Nat} {Q : State → Prop}
variable {cc : ByteArray} {pc : Nat} {ls : Array Slot} {rest : List Value} {g : Ge} {w w' : Wd} {H0 : Heap} {own : String} {index : Nat}
theorem w_copy (hexec : p.tables.exec = Jvm.exec) (hb : c.code = cc) (hml : c.maxLocals = ls.size) (hown : s.vm.findClass own = some m.cls) (hlink : (Cond.methodLink own index arraycopyName).before args s = true) (hnat : (Cond.native arraycopyName).before args s = true) (hstat : (Cond.static arraycopyName).before args s = true) (hini : (Cond.initialized "java/lang/System").before args s = true)
    (hKG : KG g s) (hR : Rep g w H) (hS : va_S (fun x => gB g ≤ x) H0 H locs) {a b t : Nat} (ht1 : 100 ≤ t) (ht2 : t < 104) (ha : (wsh w a).1 = t) (hbt : (wsh w b).1 = t) (hB : gB g ≤ b) {sp dp n : Int32} (h1 : ¬ sp < 0) (h2 : ¬ dp < 0) (h3 : ¬ n < 0) (h4 : sp.toNatClampNeg + n.toNatClampNeg ≤ (wsh w a).2) (h5 : dp.toNatClampNeg + n.toNatClampNeg ≤ (wsh w b).2)
    (hfit : ∀ i, i < n.toNatClampNeg → fits (aty t) (wv w (ek t) a (sp.toNatClampNeg + i)) = true) (ho : oneOff w w' b) (hw' : ∀ j, wv w' (ek t) b j = va_cpy (fun j => wv w (ek t) a j) (fun j => wv w (ek t) b j) sp.toNatClampNeg dp.toNatClampNeg n.toNatClampNeg j)
    (hframes : 1 ≤ R.frames) (hlocals : (rest.map fun v => v.category).sum + (nativeFrameWords "java/lang/System" "arraycopy" 5 + 11) ≤ R.locals) (hdg : decode cc pc = .ok (.invokestatic index, 3))
    (kk : ∀ (H1 : Heap) (locs1 : List Loc), Rep g w' H1 → va_S (fun x => gB g ≤ x) H0 H1 locs1 → W p l e R s m args below meth c H1 locs1 cells slots Q (F0 m (pc + 3) ls rest)) : W p l e R s m args below meth c H locs cells slots Q (F0 m pc ls (.int n :: .int dp :: .ref b :: .int sp :: .ref a :: rest)) := by
  have nn : ∀ z : Int32, ¬ z < 0 → z.toInt = (z.toNatClampNeg : Int) := by
    intro z hz
    have hz0 : (0 : Int) ≤ z.toInt := by
      have := Int32.not_lt.mp hz
      simpa using Int32.le_iff_toInt_le.mp this
    show z.toInt = ((z.toInt.toNat : Nat) : Int)
    omega
  have hprim : refKind (aty t) = false := by
    have h9 : t = 100 ∨ t = 101 ∨ t = 102 ∨ t = 103 := by omega
    rcases h9 with rfl | rfl | rfl | rfl <;> rfl
  intro T hT X
  obtain ⟨cs, hc0, ⟨ns0, k0, hk0, cm0, hkk0⟩, nu0, z0, -, v0⟩ := hR.arO hKG ha ht1 (by omega)
  have hc1 := hR.ar hB hbt ht1 (by omega)
  obtain ⟨-, k1, hk1, cm1, hkk1⟩ := (hKG.2.1 t ht1 (by omega)).1 (wsh w b).2 (fun j => wv w (ek t) b j)
  obtain ⟨vm', X', step⟩ := X.arraycopy hexec hown hlink hnat hstat hini (src := a) (dst := b) (cs := cs) (cd := arrV (cC g t) (wsh w b).2 (fun j => wv w (ek t) b j)) (srcPos := sp) (destPos := dp) (n := n) (by rw [hT]; exact hc0) (by rw [hT]; exact hc1)
    ns0 (fun _ h => by cases h) nu0 (fun h => by cases h) hk0 hk1 hkk0 hkk1 (by simp [hprim]) h1 h2 h3
    (by rw [nn sp h1, nn n h3]; omega)
    (by rw [nn dp h2, nn n h3, arrV_size]; omega)
    (fun vm₁ _ i hi => by
      have e : cs.slots.getD (sp.toNatClampNeg + i) .null = wv w (ek t) a (sp.toNatClampNeg + i) := by
        rw [Array.getD_eq_getD_getElem?, v0 _ (by omega)]
        rfl
      refine ⟨?_, ?_⟩
      · rw [e]
        exact hfit i hi
      · rw [e]
        have h9 : t = 100 ∨ t = 101 ∨ t = 102 ∨ t = 103 := by omega
        rcases h9 with rfl | rfl | rfl | rfl <;> exact trivial)
    (g := F0 m pc ls (.int n :: .int dp :: .ref b :: .int sp :: .ref a :: rest)) rfl (by rw [hml]) (rest := rest) rfl (by rw [hb]; exact hdg) hframes (by show 2 * 0 + _ + _ ≤ _; omega)
  have e1 : copied cs (arrV (cC g t) (wsh w b).2 (fun j => wv w (ek t) b j)) sp dp n = arrV (cC g t) (wsh w b).2 (fun j => wv w' (ek t) b j) := by
    have := va_copiedX (fun z : Value => z) cs (cC g t) (n1 := (wsh w b).2) (dp := dp.toNatClampNeg) (fun j => wv w (ek t) a j) (fun j => wv w (ek t) b j) v0 h4
    refine Eq.trans this ?_
    congr 1
    funext j
    exact (hw' j).symm
  rw [e1] at X' step
  have hl : b < H.size := (Array.getElem?_eq_some_iff.mp hc1).1
  have hheap : ((T.setVm vm').setCell b (arrV (cC g t) (wsh w b).2 (fun j => wv w' (ek t) b j))).heap = H.setIfInBounds b (arrV (cC g t) (wsh w b).2 (fun j => wv w' (ek t) b j)) := by rw [← hT]; rfl
  have oq : ∀ q : Nat, q ≠ b → (H.setIfInBounds b (arrV (cC g t) (wsh w b).2 (fun j => wv w' (ek t) b j)))[q]? = H[q]? := fun q hq => by simp [Array.getElem?_setIfInBounds, Ne.symm hq]
  have hs' : (wsh w' b) = (wsh w b) := by rw [ho.2.1]
  have hR' : Rep g w' (H.setIfInBounds b (arrV (cC g t) (wsh w b).2 (fun j => wv w' (ek t) b j))) := by
    refine hR.off ho (by simp) oq ⟨fun q => ?_, fun _ _ => cAr.new hB ?_⟩
    · rw [hs', hbt] at q
      omega
    · rw [hs', hbt]
      simp [Array.getElem?_setIfInBounds, hl]
      rfl
  obtain ⟨t9, a1, b1⟩ := kk _ _ hR' ⟨by simp; exact hS.1, fun q g1 g2 => by
      rw [oq q (fun e => g2 (by rw [e]; exact hB))]
      exact hS.2.1 q g1 g2, fun q hq => by
      rcases List.mem_append.mp hq with h | h
      · exact hS.2.2 q h
      · obtain ⟨z, -, hz⟩ := List.mem_map.mp h
        rw [← hz]
        exact hB⟩ _ hheap X'
  exact ⟨t9, step t9 a1, b1⟩
theorem oneOff_cpI (w : Wd) (a b sp dp n : Nat) : oneOff w (cpI w a b sp dp n) b := ⟨rfl, rfl, fun _ h => ⟨zu_ne h, rfl, rfl⟩⟩
theorem oneOff_cpL (w : Wd) (a b sp dp n : Nat) : oneOff w (cpL w a b sp dp n) b := ⟨rfl, rfl, fun _ h => ⟨rfl, zu_ne h, rfl⟩⟩
theorem wv_cpI (w : Wd) (a b sp dp n j : Nat) : wv (cpI w a b sp dp n) 0 b j = va_cpy (fun j => wv w 0 a j) (fun j => wv w 0 b j) sp dp n j := by
  show Value.int (wI (cpI w a b sp dp n) b j) = _
  have : wI (cpI w a b sp dp n) b = va_cpy (wI w a) (wI w b) sp dp n := zu_at _ _ _
  rw [this]
  unfold va_cpy
  split <;> rfl
theorem wv_cpL (w : Wd) (a b sp dp n j : Nat) : wv (cpL w a b sp dp n) 1 b j = va_cpy (fun j => wv w 1 a j) (fun j => wv w 1 b j) sp dp n j := by
  show Value.long (wL (cpL w a b sp dp n) b j) = _
  have : wL (cpL w a b sp dp n) b = va_cpy (wL w a) (wL w b) sp dp n := zu_at _ _ _
  rw [this]
  unfold va_cpy
  split <;> rfl
theorem w_clone (hexec : p.tables.exec = Jvm.exec) (hb : c.code = cc) (hml : c.maxLocals = ls.size) (hown : s.vm.findClass own = some m.cls)
    (hlink : (Cond.methodLink own index ⟨"[B", "clone", "()Ljava/lang/Object;"⟩).before args s = true) (hsame : (Cond.sameMethod "[B" "java/lang/Object" "clone" "()Ljava/lang/Object;").before args s = true)
    (hnat : (Cond.native ⟨"java/lang/Object", "clone", "()Ljava/lang/Object;"⟩).before args s = true) (hinst : (Cond.instanceMethod ⟨"java/lang/Object", "clone", "()Ljava/lang/Object;"⟩).before args s = true)
    (hsel : (Cond.selects "[B" ⟨"[B", "clone", "()Ljava/lang/Object;"⟩ ⟨"java/lang/Object", "clone", "()Ljava/lang/Object;"⟩).before args s = true)
    (hKG : KG g s) (hR : Rep g w H) (hS : va_S (fun x => gB g ≤ x) H0 H locs) {a : Nat} (ha : (wsh w a).1 = 103) (hB : gB g ≤ a) (hfit : ∀ i, i < (wsh w a).2 → fits .byte (.int (wI w a i)) = true)
    (hframes : 1 ≤ R.frames) (hlocals : (rest.map fun v => v.category).sum + 14 ≤ R.locals) (hcells : cells + 1 ≤ R.cells) (hslots : slots + (wsh w a).2 ≤ R.slots) (hdg : decode cc pc = .ok (.invokevirtual index, 3))
    (kk : ∀ (H1 : Heap), Rep g (clW w a) H1 → va_S (fun x => gB g ≤ x) H0 H1 locs → W p l e R s m args below meth c H1 locs (cells + 1) (slots + (wsh w a).2) Q (F0 m (pc + 3) ls (.ref (wn w) :: rest))) : W p l e R s m args below meth c H locs cells slots Q (F0 m pc ls (.ref a :: rest)) := by
  have hnm : s.vm.findClass "[B" = some (cC g 103) := (hKG.2.1 103 (by decide) (by decide)).2
  obtain ⟨c0, t0', f1, f2, f3⟩ := Cond.castable_spec (va_Nw.use (A := args) rfl hKG.2.2.2.2.2.2.2.1)
  cases hnm.symm.trans f1
  intro T hT X
  have har := hR.ar hB ha (by decide) (by decide)
  have hcellT : T.heap[a]? = some (arrV (cC g 103) (wsh w a).2 (fun j => wv w (ek 103) a j)) := by rw [hT]; exact har
  obtain ⟨-, kA, hkA, comp, hkind⟩ := State.isArrayOf_alike X.warmed.alike ((hKG.2.1 103 (by decide) (by decide)).1 0 (fun _ => .null))
  obtain ⟨-, kS, hkS, compS, hkindS⟩ := (hKG.2.1 103 (by decide) (by decide)).1 0 (fun _ => .null)
  obtain ⟨vm', X', st⟩ := X.cloneArray hexec hown hlink hsame hnat hinst hsel (a := a) (cell := arrV (cC g 103) (wsh w a).2 (fun j => wv w (ek 103) a j)) hcellT (fun k h => by cases h) (fun h => by cases h) hnm f2 f3
    (fun i v hv => by
      have hk' : T.vm.classes[cC g 103]? = some kA := hkA
      have hi : i < (wsh w a).2 := by
        have := (Array.getElem?_eq_some_iff.mp hv).1
        rw [arrV_size] at this
        exact this
      rw [arrV_read _ _ hi] at hv
      have hv' : Value.int (wI w a i) = v := Option.some.inj hv
      rw [← hv']
      have := hfit i hi
      show (T.fitsSlot (cC g 103) _ _ _) = true
      simpa [State.fitsSlot, State.slotType?, hk', hkind, aty] using this)
    (g := F0 m pc ls (.ref a :: rest)) rfl (by rw [hml]) rfl (by rw [hb]; exact hdg) hframes (by show 2 * 0 + _ + 14 ≤ _; omega) hcells (by rw [arrV_size]; exact hslots) (hloader := Vm.clonesLoader_of_array hkS hkindS)
  have hcellE : ({ cls := (arrV (cC g 103) (wsh w a).2 (fun j => wv w (ek 103) a j)).cls, slots := (arrV (cC g 103) (wsh w a).2 (fun j => wv w (ek 103) a j)).slots } : Cell) = arrV (cC g 103) (wsh w a).2 (fun j => wv w (ek 103) a j) := rfl
  rw [hcellE, arrV_size] at X'
  generalize hH1 : H.push (arrV (cC g 103) (wsh w a).2 (fun j => wv w (ek 103) a j)) = H1
  have z1 : H1.size = H.size + 1 := by rw [← hH1, Array.size_push]
  have e1 : H1[H.size]? = some (arrV (cC g 103) (wsh w a).2 (fun j => wv w (ek 103) a j)) := by rw [← hH1, Array.getElem?_push_size]
  have o1 : ∀ q : Nat, q < H.size → H1[q]? = H[q]? := fun q hq => by rw [← hH1, Array.getElem?_push, if_neg (Nat.ne_of_lt hq)]
  have hRn : Rep g (clW w a) H1 := by
    refine ⟨by rw [z1, hR.1]; rfl, Nat.le_succ_of_le hR.2.1, fun b => ?_⟩
    by_cases hb9 : b = wn w
    · subst hb9
      have hsh : wsh (clW w a) (wn w) = wsh w a := zu_at _ _ _
      unfold cOk
      rw [hsh]
      refine ⟨fun h => by omega, fun _ _ => cAr.new hR.2.1 ?_⟩
      rw [ha]
      show H1[wn w]? = some (arrV (cC g 103) (wsh w a).2 (fun j => Value.int (wI (clW w a) (wn w) j)))
      have hI : wI (clW w a) (wn w) = wI w a := zu_at _ _ _
      rw [hI, ← hR.1, e1]
      rfl
    · exact (hR.2.2 b).kept (zu_ne hb9) (fun q => o1 b (by rw [hR.1]; exact hR.lt q)) (zu_ne hb9) (zu_ne hb9) (zu_ne hb9)
  obtain ⟨t, b1, b2⟩ := kk H1 hRn (hS.grow (by omega) o1) ((T.setVm vm').pushCell (arrV (cC g 103) (wsh w a).2 (fun j => wv w (ek 103) a j))) (by rw [← hH1, ← hT]; rfl) X'
  refine ⟨t, st t ?_, b2⟩
  rw [hcellE, hT, hR.1]
  exact b1
theorem w_castB (hexec : p.tables.exec = Jvm.exec) (hb : c.code = cc) (hown : s.vm.findClass own = some m.cls) (hlink : (Cond.classLink own index "[B").before args s = true) (hKG : KG g s) (hR : Rep g w H) {a : Nat} (ha : (wsh w a).1 = 103) (hB : gB g ≤ a) (hdg : decode cc pc = .ok (.checkcast index, 3))
    (k : W p l e R s m args below meth c H locs cells slots Q (F0 m (pc + 3) ls (.ref a :: rest))) : W p l e R s m args below meth c H locs cells slots Q (F0 m pc ls (.ref a :: rest)) := by
  have har := hR.ar hB ha (by decide) (by decide)
  have hP : va_P g.1 cls [(a, .inl (cC g 103, (wsh w a).2, .inl (wI w a)))] H := by
    intro i x hx
    have hi : i < 1 := (List.getElem?_eq_some_iff.mp hx).1
    obtain rfl : i = 0 := by omega
    cases hx
    exact har
  exact va_castA hexec hb hown hlink hP 0 rfl (hKG.2.1 103 (by decide) (by decide)).2 hdg k
end NATS
