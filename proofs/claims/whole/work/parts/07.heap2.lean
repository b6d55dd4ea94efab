section HEAP2
variable {p : Program} {l : Launch} {e : Env} {R : Room} {s : State} {m : MethodId} {args : Array Value} {below : List Frame} {meth : Method} {c : Code} {H : Heap} {locs : List Loc} {cells slots : Nat} {Q : State → Prop}
variable {cc : ByteArray} {pc : Nat} {ls : Array Slot} {rest : List Value} {g : Ge} {w : Wd} {H0 : Heap} {own : String} {index : Nat}
theorem w_aald (hexec : p.tables.exec = Jvm.exec) (hb : c.code = cc) (hKG : KG g s) (hR : Rep g w H) {a t : Nat} (hs : (wsh w a).1 = t) (h1 : 104 ≤ t) (h2 : t < 109) {i : Int32} (hin : vp_in i (wsh w a).2) (hdg : decode cc pc = .ok (.aaload, 1))
    (kk : W p l e R s m args below meth c H locs cells slots Q (F0 m (pc + 1) ls (va_rf (wP w a i.toNatClampNeg) :: rest))) : W p l e R s m args below meth c H locs cells slots Q (F0 m pc ls (.int i :: .ref a :: rest)) := by
  have hek : ek t = 2 ∧ (aty t).isReference = true := by
    have h9 : t = 104 ∨ t = 105 ∨ t = 106 ∨ t = 107 ∨ t = 108 := by omega
    rcases h9 with rfl | rfl | rfl | rfl | rfl <;> exact ⟨rfl, rfl⟩
  obtain ⟨cell, e1, e2, e3, e4, -, e5⟩ := hR.arO hKG hs (by omega) h2
  refine W.aald (v := va_rf (wP w a i.toNatClampNeg)) (ty := aty t) hexec hb e1 e2 hek.2 e3 (w_inO hin e4) ?_ rfl rfl hdg kk
  rw [e5 _ (w_lt hin), hek.1]
  rfl
/-- the class whose objects an array of tag t holds -/
def aCl (t : Nat) : Nat := match t with
  | 104 => 7
  | 105 => 10
  | _ => 1
theorem aCl_ok {t : Nat} (h1 : 104 ≤ t) (h2 : t < 107) : ∃ q : vw_C, cls[aCl t]? = some q ∧ aty t = .object q.1 ∧ ek t = 2 := by
  have h9 : t = 104 ∨ t = 105 ∨ t = 106 := by omega
  rcases h9 with rfl | rfl | rfl <;> exact ⟨_, rfl, rfl, rfl⟩
theorem w_aast (hexec : p.tables.exec = Jvm.exec) (hb : c.code = cc) (hKG : KG g s) (hR : Rep g w H) (hS : va_S (fun x => gB g ≤ x) H0 H locs) {a t : Nat} (hB : gB g ≤ a) (hs : (wsh w a).1 = t) (h1 : 104 ≤ t) (h2 : t < 107) {i : Int32} (hin : vp_in i (wsh w a).2) {o : Option Nat} (ho : ∀ v, o = some v → (wsh w v).1 = aCl t) (hdg : decode cc pc = .ok (.aastore, 1))
    (kk : ∀ (H1 : Heap) (locs1 : List Loc), Rep g (sP w a i.toNatClampNeg o) H1 → va_S (fun x => gB g ≤ x) H0 H1 locs1 → W p l e R s m args below meth c H1 locs1 cells slots Q (F0 m (pc + 1) ls rest)) : W p l e R s m args below meth c H locs cells slots Q (F0 m pc ls (va_rf o :: .int i :: .ref a :: rest)) := by
  obtain ⟨q, hq, hty, hek⟩ := aCl_ok h1 h2
  have har := hR.ar hB hs (by omega) (by omega)
  have hlt : i.toNatClampNeg < (wsh w a).2 := Nat.not_le.mp fun q => hin (Or.inr q)
  have h0 : ¬ i < 0 := fun q => hin (Or.inl q)
  have hA := hKG.2.1 t (by omega) (by omega)
  rw [hty] at hA
  cases o with
  | none =>
    refine va_WaastN (C := q.1) hexec hb har (hA.1 _ _) (fun q => by cases q) (w_in hin) rfl rfl hdg fun H1 e z oq => ?_
    exact kk H1 _ (hR.putA hB hs (by omega) (by omega) e z oq (oneOff_sP _ _ _ _) (fun j => wv_sP _ _ _ _ _ _ (fun _ => hek))) (hS.put z oq hB)
  | some v =>
    have hv := ho v rfl
    obtain ⟨cellV, g1, g2, g3, -⟩ := hR.ob hv hq
    have hcls := (hKG.1 _ _ hq).2
    obtain ⟨kA, comp, k1, k2, k3, -⟩ := hA.2
    have hcomp : comp = cC g (aCl t) := Option.some.inj (k3.symm.trans hcls.1)
    subst hcomp
    obtain ⟨kC, hkC, -⟩ := hcls.2
    refine W.aast hexec hb har (fun q h => by cases h) (fun h => by cases h) k1 k2 rfl hkC ⟨h0, by rw [arrV_size]; exact hlt⟩ g1 (fun q h => by rw [h] at g3; cases g3) (by rw [g2]; exact hkC) (by rw [g2]; exact va_assign hcls) rfl rfl hdg fun H1 e z oq => ?_
    exact kk H1 _ (hR.putA hB hs (by omega) (by omega) e z oq (oneOff_sP _ _ _ _) (fun j => wv_sP _ _ _ _ _ _ (fun _ => hek))) (hS.put z oq hB)
theorem w_alen (hexec : p.tables.exec = Jvm.exec) (hb : c.code = cc) (hKG : KG g s) (hR : Rep g w H) {a t : Nat} (hs : (wsh w a).1 = t) (h1 : 100 ≤ t) (h2 : t < 109) (hdg : decode cc pc = .ok (.arraylength, 1))
    (kk : W p l e R s m args below meth c H locs cells slots Q (F0 m (pc + 1) ls (.int (nI (wsh w a).2) :: rest))) : W p l e R s m args below meth c H locs cells slots Q (F0 m pc ls (.ref a :: rest)) := by
  obtain ⟨cell, e1, e2, e3, e4, e5, -⟩ := hR.arO hKG hs h1 h2
  exact W.alen hexec hb e1 e2 e5 rfl rfl hdg kk
theorem def_tv : ∀ c, c < 15 → ∀ k, k < 65 → defaultValue (clY c k) = tv (fk c k) 0 0 none := by decide +kernel
theorem cls_sz : ∀ c, c < 15 → ∀ q, cls[c]? = some q → q.2.2 ≤ 65 := by
  intro c hc q hq
  match c, hq with
  | 0, h => cases h; decide
  | 1, h => cases h; decide
  | 2, h => cases h; decide
  | 3, h => cases h; decide
  | 4, h => cases h; decide
  | 5, h => cases h; decide
  | 6, h => cases h; decide
  | 7, h => cases h; decide
  | 8, h => cases h; decide
  | 9, h => cases h; decide
  | 10, h => cases h; decide
  | 11, h => cases h; decide
  | 12, h => cases h; decide
  | 13, h => cases h; decide
  | 14, h => cases h; decide
  | (c + 15), h => cases h
theorem va_S.grow (hS : va_S (fun x => gB g ≤ x) H0 H locs) {H1 : Heap} (hz : H.size ≤ H1.size) (ho : ∀ q, q < H.size → H1[q]? = H[q]?) : va_S (fun x => gB g ≤ x) H0 H1 locs :=
  ⟨Nat.le_trans hS.1 hz, fun x h1 h2 => (ho x (Nat.lt_of_lt_of_le h1 hS.1)).trans (hS.2.1 x h1 h2), hS.2.2⟩
theorem w_new (hexec : p.tables.exec = Jvm.exec) (hb : c.code = cc) (hts : ∀ w ∈ GL, w.before args s = true) (hown : s.vm.findClass own = some m.cls) (hKG : KG g s) (hR : Rep g w H) (hS : va_S (fun x => gB g ≤ x) H0 H locs) {ci : Nat} {q : vw_C} (hc : cls[ci]? = some q)
    (hl : Cond.classLink own index q.1 ∈ GL) (hi : Cond.instantiable q.1 q.2.2 ∈ GL) (hini : Cond.initialized q.1 ∈ GL) (hcells : cells + 1 ≤ R.cells) (hslots : slots + q.2.2 ≤ R.slots) (hdg : decode cc pc = .ok (.new index, 3))
    (kk : ∀ (H1 : Heap), Rep g (nw w ci 0) H1 → va_S (fun x => gB g ≤ x) H0 H1 locs → W p l e R s m args below meth c H1 locs (cells + 1) (slots + q.2.2) Q (F0 m (pc + 3) ls (.ref (wn w) :: rest))) : W p l e R s m args below meth c H locs cells slots Q (F0 m pc ls rest) := by
  obtain ⟨hin, hty, hnm⟩ := clOk hc
  have hKn := hKG.1 ci _ hc
  have hl15 := cls_lt hc
  refine W.newcK hexec hb hown (hts _ hl) (hts _ hi) (hts _ hini) rfl hdg hcells hslots hKn.2.1 hR.1 fun H1 kC hkC e1 z1 o1 => ?_
  refine kk H1 (hR.push z1 o1 ?_) (hS.grow (by rw [z1, hR.1]; omega) (fun q hq => o1 q (by rw [← hR.1]; exact hq)))
  have hsh : wsh (nw w ci 0) (wn w) = (ci, 0) := zu_at _ _ _
  unfold cOk
  rw [hsh]
  refine ⟨fun _ => cOb.new hc ((u_born (clY ci) hts hin hKn hkC e1 hty).to (fun k hk => ?_)), fun h => by have : 100 ≤ ci := h; omega⟩
  have := wv_new w ci 0 (fk ci k) k
  unfold wv at this
  rw [this]
  exact def_tv ci hl15 k (Nat.lt_of_lt_of_le hk (cls_sz ci hl15 q hc))
theorem ar_new (hR : Rep g w H) {H1 : Heap} {t N : Nat} (h1 : 100 ≤ t) (h2 : t < 109) {dv : Value} (hdv : dv = tv (ek t) 0 0 none) (e1 : H1[wn w]? = some (arrV (cC g t) N (fun _ => dv))) (z1 : H1.size = wn w + 1) (o1 : ∀ q, q < wn w → H1[q]? = H[q]?) : Rep g (nw w t N) H1 := by
  refine hR.push z1 o1 ?_
  have hsh : wsh (nw w t N) (wn w) = (t, N) := zu_at _ _ _
  unfold cOk
  rw [hsh]
  refine ⟨fun h => by have : t < 100 := h; omega, fun _ _ => cAr.new hR.2.1 ?_⟩
  show H1[wn w]? = some (arrV (cC g t) N (fun j => wv (nw w t N) (ek t) (wn w) j))
  rw [e1, hdv]
  congr 2
  funext j
  rw [wv_new]
theorem w_newa (hexec : p.tables.exec = Jvm.exec) (hb : c.code = cc) (hKG : KG g s) (hR : Rep g w H) (hS : va_S (fun x => gB g ≤ x) H0 H locs) {atype : ArrayType} {t : Nat} (h1 : 100 ≤ t) (h2 : t < 104) (ht : newarray.typeOf atype = aty t) (harr : (Cond.arrayClass (newarray.typeOf atype)).before args s = true) {n : Int32} (hn : ¬ n < 0) (hbytes : n.toNatClampNeg ≤ 65536)
    (hcells : cells + 1 ≤ R.cells) (hslots : slots + n.toNatClampNeg ≤ R.slots) (hdg : decode cc pc = .ok (.newarray atype, 2))
    (kk : ∀ (H1 : Heap), Rep g (nw w t n.toNatClampNeg) H1 → va_S (fun x => gB g ≤ x) H0 H1 locs → W p l e R s m args below meth c H1 locs (cells + 1) (slots + n.toNatClampNeg) Q (F0 m (pc + 2) ls (.ref (wn w) :: rest))) : W p l e R s m args below meth c H locs cells slots Q (F0 m pc ls (.int n :: rest)) := by
  have hcb : componentBytes (aty t) ≤ 8 ∧ defaultValue (aty t) = tv (ek t) 0 0 none ∧ (∀ cA, va_RA s cA (aty t) → s.vm.findClass ("[" ++ (aty t).toString) = some cA) := by
    have h9 : t = 100 ∨ t = 101 ∨ t = 102 ∨ t = 103 := by omega
    rcases h9 with rfl | rfl | rfl | rfl <;> exact ⟨by decide, rfl, fun _ h => h⟩
  refine va_newaK hexec hb harr rfl hdg rfl hn rfl ?_ hcells hslots hR.1 fun H1 cA e1 z1 o1 hAr hNm => ?_
  · rw [ht]
    exact Nat.le_trans (Nat.mul_le_mul hbytes hcb.1) (by decide)
  · rw [ht] at e1 hAr hNm
    have hcA : cA = cC g t := Option.some.inj (hNm.symm.trans (hcb.2.2 _ (hKG.2.1 t h1 (by omega)).2))
    rw [hcA] at e1
    exact kk H1 (ar_new hR h1 (by omega) hcb.2.1 e1 z1 o1) (hS.grow (by rw [z1, hR.1]; omega) (fun q hq => o1 q (by rw [← hR.1]; exact hq)))
theorem w_anew (hexec : p.tables.exec = Jvm.exec) (hb : c.code = cc) (hts : ∀ w ∈ GL, w.before args s = true) (hown : s.vm.findClass own = some m.cls) (hKG : KG g s) (hR : Rep g w H) (hS : va_S (fun x => gB g ≤ x) H0 H locs) {t : Nat} (h1 : 104 ≤ t) (h2 : t < 107) {q : vw_C} (hq : cls[aCl t]? = some q) (hl : Cond.classLink own index q.1 ∈ GL) {n : Int32} (hn : ¬ n < 0) (hbytes : n.toNatClampNeg ≤ 65536)
    (hcells : cells + 1 ≤ R.cells) (hslots : slots + n.toNatClampNeg ≤ R.slots) (hdg : decode cc pc = .ok (.anewarray index, 3))
    (kk : ∀ (H1 : Heap), Rep g (nw w t n.toNatClampNeg) H1 → va_S (fun x => gB g ≤ x) H0 H1 locs → W p l e R s m args below meth c H1 locs (cells + 1) (slots + n.toNatClampNeg) Q (F0 m (pc + 3) ls (.ref (wn w) :: rest))) : W p l e R s m args below meth c H locs cells slots Q (F0 m pc ls (.int n :: rest)) := by
  obtain ⟨q', hq', hty, hek⟩ := aCl_ok h1 h2
  cases hq.symm.trans hq'
  have hov : va_AO q.1 s := by
    have h9 : t = 104 ∨ t = 105 ∨ t = 106 := by omega
    rcases h9 with rfl | rfl | rfl <;> cases hq <;> exact hKG.2.2.2.2.1 _ (by decide)
  refine W.anew hexec hb hown (hts _ hl) (va_AO.use hov) rfl hdg rfl hn (by omega) hcells hslots fun cA kA comp f1 f2 f3 f4 => ?_
  have hA := (hKG.2.1 t (by omega) (by omega)).2
  rw [hty] at hA
  obtain ⟨kA', comp', k1, k2, k3, k4⟩ := hA
  have hcA : cA = cC g t := Option.some.inj (f1.symm.trans k4)
  rw [hcA, arrV_new, show (Array.size H : Nat) = wn w from hR.1]
  refine kk _ (ar_new hR (by omega) (by omega) (dv := .null) (by rw [hek]; rfl) ?_ ?_ ?_) (hS.grow ?_ ?_)
  · rw [← hR.1]
    simp
  · rw [← hR.1]
    simp
  · intro q hq
    rw [← hR.1] at hq
    rw [Array.getElem?_push_lt hq, Array.getElem?_eq_getElem hq]
  · simp
  · intro q hq
    rw [Array.getElem?_push_lt hq, Array.getElem?_eq_getElem hq]
theorem w_gets (hexec : p.tables.exec = Jvm.exec) (hb : c.code = cc) (hts : ∀ w ∈ GL, w.before args s = true) (hown : s.vm.findClass own = some m.cls) (hKS : KS g s s.heap) (hS : va_S (fun x => gB g ≤ x) s.heap H locs) {q : String × String × String × Bool × Nat × Int32} (hq : q ∈ staT) (hl : Cond.fieldLink own index q.1 q.2.1 q.2.2.1 ∈ GL) (hdg : decode cc pc = .ok (.getstatic index, 3))
    (kk : W p l e R s m args below meth c H locs cells slots Q (F0 m (pc + 3) ls (staV g q :: rest))) : W p l e R s m args below meth c H locs cells slots Q (F0 m pc ls rest) :=
  va_gets hexec hb (hKS q hq) hS hown (hts _ hl) (fun _ h => h) hdg kk
end HEAP2
