section HEAP
variable {p : Program} {l : Launch} {e : Env} {R : Room} {s : State} {m : MethodId} {args : Array Value} {below : List Frame} {meth : Method} {c : Code} {H : Heap} {locs : List Loc} {cells slots : Nat} {Q : State → Prop}
variable {cc : ByteArray} {pc : Nat} {ls : Array Slot} {rest : List Value} {g : Ge} {w : Wd} {H0 : Heap} {own : String} {index : Nat}
theorem KG.k {U : State} (h : KG g U) : va_K g.1 cls [] U := ⟨h.1, fun k q hk => by cases hk⟩
theorem w_get (hexec : p.tables.exec = Jvm.exec) (hb : c.code = cc) (hts : ∀ w ∈ GL, w.before args s = true) (hown : s.vm.findClass own = some m.cls) (hKG : KG g s) (hR : Rep g w H) {a ci k : Nat} {q : vw_C} (hs : (wsh w a).1 = ci) (hc : cls[ci]? = some q) (hk : k < q.2.2) (h13 : ci = 13 → k < 2)
    (hl : Cond.fieldLink own index (q.2.1 k).1 (q.2.1 k).2.1 (q.2.1 k).2.2.1 ∈ GL) (hdg : decode cc pc = .ok (.getfield index, 3)) (kk : W p l e R s m args below meth c H locs cells slots Q (F0 m (pc + 3) ls (wv w (fk ci k) a k :: rest))) : W p l e R s m args below meth c H locs cells slots Q (F0 m pc ls (.ref a :: rest)) := by
  obtain ⟨cell, q1, -, -, q3, -, q4⟩ := hR.ob hs hc
  obtain ⟨hS, hfc, kC, hkC, hkind⟩ := hKG.1 ci _ hc
  obtain ⟨cf, kf, fi, f, hi, hsl⟩ := hS k hk
  refine W.getf hexec hb hown (hts _ hl) hi (u_facts hfc hkC (u_lays hts (clOk hc).1 hk) hi).1 q1 q3 (v := wv w (fk ci k) a k) ?_ rfl rfl hdg kk
  rw [hsl]
  exact q4 k hk (by
    by_cases h : ci = 13
    · exact Or.inr (Or.inr (h13 h))
    · exact Or.inr (Or.inl h))
theorem w_apart (hts : ∀ w ∈ GL, w.before args s = true) (hKG : KG g s) {ci : Nat} {q : vw_C} (hc : cls[ci]? = some q) : ∀ x y, x < q.2.2 → y < q.2.2 → x ≠ y → cS g ci x ≠ cS g ci y :=
  va_apart (own := "") (tys := []) hts (clOk hc).1 (clY ci) (clOk hc).2.1 (clOk hc).2.2 hKG.k hc
theorem w_put (hexec : p.tables.exec = Jvm.exec) (hb : c.code = cc) (hts : ∀ w ∈ GL, w.before args s = true) (hown : s.vm.findClass own = some m.cls) (hKG : KG g s) (hR : Rep g w H) {a ci k : Nat} {q : vw_C} (hs : (wsh w a).1 = ci) (hc : cls[ci]? = some q) (hk : k < q.2.2)
    (hl : Cond.fieldLink own index (q.2.1 k).1 (q.2.1 k).2.1 (q.2.1 k).2.2.1 ∈ GL) (hfin : (q.2.1 k).2.2.2 = false ∨ (meth.name = "<init>" ∧ (q.2.1 k).1 = own)) {v : Value} (hn : narrow (clY ci k) v = v) (hfit : fits (clY ci k) v = true) (hdg : decode cc pc = .ok (.putfield index, 3))
    {w' : Wd} (ho : oneOff w w' a) (hv : ∀ j, wv w' (fk ci j) a j = if j = k then v else wv w (fk ci j) a j) (hS : va_S (fun x => gB g ≤ x) H0 H locs) (hB : gB g ≤ a)
    (kk : ∀ (H1 : Heap) (locs1 : List Loc), Rep g w' H1 → va_S (fun x => gB g ≤ x) H0 H1 locs1 → W p l e R s m args below meth c H1 locs1 cells slots Q (F0 m (pc + 3) ls rest)) : W p l e R s m args below meth c H locs cells slots Q (F0 m pc ls (v :: .ref a :: rest)) := by
  obtain ⟨hin, hty, hnm⟩ := clOk hc
  have hap := w_apart hts hKG hc
  obtain ⟨cell, q1, q2, q3, q4⟩ := hR.obN hB hs hc
  obtain ⟨hSl, hfc, kC, hkC, hkind⟩ := hKG.1 ci _ hc
  obtain ⟨cf, kf, fi, f, hi, hsl⟩ := hSl k hk
  have hlay := hts _ (hin _ (u_in_lay hk))
  unfold u_lay at hlay
  have hst := (u_facts hfc hkC (u_lays hts hin hk) hi).1
  by_cases hf : (q.2.1 k).2.2.2 = true
  · rcases hfin with h9 | ⟨h9, hdecl⟩
    · rw [hf] at h9
      cases h9
    rw [if_pos hf] at hlay
    have hcf : m.cls = cf := by
      obtain ⟨_, _, c', _, _, _, -, -, hf', -, -, -, hown2, -⟩ := Cond.laysFinal_spec hlay
      have e1 : c' = cf := by have := hi.symm.trans hf'; simp at this; exact this.1.symm
      rw [hdecl] at hown2
      rw [← e1]; exact Option.some.inj (hown.symm.trans hown2)
    have h6 := u_fits hfc hkC hkind (Or.inr hlay) hi (hty k hk) hn hfit
    refine W.putFinK hexec hb hown (hts _ hl) hi hst hcf h9 (by rw [q2]; exact h6) q1 q3 (by rw [hsl]; exact k2_hasslot (q4 k hk)) rfl rfl hdg fun H' e1 e2 e3 => ?_
    rw [hsl] at e1 ⊢
    exact kk H' _ (hR.putO hB hs hc hk q1 hap e1 e2 e3 ho hv) (hS.put e2 e3 hB)
  · rw [if_neg hf] at hlay
    have h6 := u_store hfc hkC hkind hlay hi (hty k hk) hn hfit
    refine W.putK hexec hb (f := f) ⟨hown, hts _ hl, ⟨_, _, _, hi⟩, hst⟩ (by rw [q2]; exact h6) q1 q3 (by rw [hsl]; exact k2_hasslot (q4 k hk)) rfl rfl hdg fun H' e1 e2 e3 => ?_
    rw [hsl] at e1 ⊢
    exact kk H' _ (hR.putO hB hs hc hk q1 hap e1 e2 e3 ho hv) (hS.put e2 e3 hB)
theorem w_in {n : Nat} {cA : ClassId} {f : Nat → Value} {i : Int32} (h : vp_in i n) : ¬ (i < 0 ∨ (arrV cA n f).slots.size ≤ i.toNatClampNeg) := by
  rw [arrV_size]
  exact h
theorem w_at {n : Nat} {cA : ClassId} {f : Nat → Value} {i : Int32} (h : vp_in i n) : (arrV cA n f).slots[i.toNatClampNeg]? = some (f i.toNatClampNeg) := arrV_read _ _ (Nat.not_le.mp fun q => h (Or.inr q))
theorem w_lt {n : Nat} {i : Int32} (h : vp_in i n) : i.toNatClampNeg < n := Nat.not_le.mp fun q => h (Or.inr q)
theorem w_inO {n z : Nat} {i : Int32} (h : vp_in i n) (hz : n ≤ z) : ¬ (i < 0 ∨ z ≤ i.toNatClampNeg) := by
  have := w_lt h
  rintro (q | q)
  · exact h (Or.inl q)
  · omega
theorem w_iald (hexec : p.tables.exec = Jvm.exec) (hb : c.code = cc) (hKG : KG g s) (hR : Rep g w H) {a : Nat} (hs : (wsh w a).1 = 100) {i : Int32} (hin : vp_in i (wsh w a).2) (hdg : decode cc pc = .ok (.iaload, 1))
    (kk : W p l e R s m args below meth c H locs cells slots Q (F0 m (pc + 1) ls (.int (wI w a i.toNatClampNeg) :: rest))) : W p l e R s m args below meth c H locs cells slots Q (F0 m pc ls (.int i :: .ref a :: rest)) := by
  obtain ⟨cell, e1, e2, e3, e4, -, e5⟩ := hR.arO hKG hs (by decide) (by decide)
  exact W.iald (v := .int (wI w a i.toNatClampNeg)) hexec hb e1 e2 e3 (w_inO hin e4) ((e5 _ (w_lt hin)).trans rfl) rfl rfl hdg kk
theorem w_lald (hexec : p.tables.exec = Jvm.exec) (hb : c.code = cc) (hKG : KG g s) (hR : Rep g w H) {a : Nat} (hs : (wsh w a).1 = 101) {i : Int32} (hin : vp_in i (wsh w a).2) (hdg : decode cc pc = .ok (.laload, 1))
    (kk : W p l e R s m args below meth c H locs cells slots Q (F0 m (pc + 1) ls (.long (wL w a i.toNatClampNeg) :: rest))) : W p l e R s m args below meth c H locs cells slots Q (F0 m pc ls (.int i :: .ref a :: rest)) := by
  obtain ⟨cell, e1, e2, e3, e4, -, e5⟩ := hR.arO hKG hs (by decide) (by decide)
  exact W.lald (v := .long (wL w a i.toNatClampNeg)) hexec hb e1 e2 e3 (w_inO hin e4) ((e5 _ (w_lt hin)).trans rfl) rfl rfl hdg kk
theorem w_zald (hexec : p.tables.exec = Jvm.exec) (hb : c.code = cc) (hKG : KG g s) (hR : Rep g w H) {a : Nat} (hs : (wsh w a).1 = 102) {i : Int32} (hin : vp_in i (wsh w a).2) (hdg : decode cc pc = .ok (.baload, 1))
    (kk : W p l e R s m args below meth c H locs cells slots Q (F0 m (pc + 1) ls (.int (wI w a i.toNatClampNeg) :: rest))) : W p l e R s m args below meth c H locs cells slots Q (F0 m pc ls (.int i :: .ref a :: rest)) := by
  obtain ⟨cell, e1, e2, e3, e4, -, e5⟩ := hR.arO hKG hs (by decide) (by decide)
  exact W.zald (v := .int (wI w a i.toNatClampNeg)) hexec hb e1 e2 e3 (w_inO hin e4) ((e5 _ (w_lt hin)).trans rfl) rfl rfl hdg kk
theorem w_bald (hexec : p.tables.exec = Jvm.exec) (hb : c.code = cc) (hKG : KG g s) (hR : Rep g w H) {a : Nat} (hs : (wsh w a).1 = 103) {i : Int32} (hin : vp_in i (wsh w a).2) (hdg : decode cc pc = .ok (.baload, 1))
    (kk : W p l e R s m args below meth c H locs cells slots Q (F0 m (pc + 1) ls (.int (wI w a i.toNatClampNeg) :: rest))) : W p l e R s m args below meth c H locs cells slots Q (F0 m pc ls (.int i :: .ref a :: rest)) := by
  obtain ⟨cell, e1, e2, e3, e4, -, e5⟩ := hR.arO hKG hs (by decide) (by decide)
  exact W.bald (v := .int (wI w a i.toNatClampNeg)) hexec hb e1 e2 e3 (w_inO hin e4) ((e5 _ (w_lt hin)).trans rfl) rfl rfl hdg kk
theorem wv_sI (w : Wd) (a k : Nat) (x : Int32) (j t : Nat) (ht : j = k → t = 0) : wv (sI w a k x) t a j = if j = k then .int x else wv w t a j := by
  unfold wv
  rw [wI_sI, wL_sI, wP_sI, up2_at]
  by_cases h : j = k
  · rw [if_pos h, if_pos h, ht h]
    rfl
  · rw [if_neg h, if_neg h]
theorem wv_sL (w : Wd) (a k : Nat) (x : Int64) (j t : Nat) (ht : j = k → t = 1) : wv (sL w a k x) t a j = if j = k then .long x else wv w t a j := by
  unfold wv
  rw [wI_sL, wL_sL, wP_sL, up2_at]
  by_cases h : j = k
  · rw [if_pos h, if_pos h, ht h]
    rfl
  · rw [if_neg h, if_neg h]
theorem wv_sP (w : Wd) (a k : Nat) (x : Option Nat) (j t : Nat) (ht : j = k → t = 2) : wv (sP w a k x) t a j = if j = k then va_rf x else wv w t a j := by
  unfold wv
  rw [wI_sP, wL_sP, wP_sP, up2_at]
  by_cases h : j = k
  · rw [if_pos h, if_pos h, ht h]
    rfl
  · rw [if_neg h, if_neg h]
theorem w_iast (hexec : p.tables.exec = Jvm.exec) (hb : c.code = cc) (hKG : KG g s) (hR : Rep g w H) (hS : va_S (fun x => gB g ≤ x) H0 H locs) {a : Nat} (hB : gB g ≤ a) (hs : (wsh w a).1 = 100) {i x : Int32} (hin : vp_in i (wsh w a).2) (hdg : decode cc pc = .ok (.iastore, 1))
    (kk : ∀ (H1 : Heap) (locs1 : List Loc), Rep g (sI w a i.toNatClampNeg x) H1 → va_S (fun x => gB g ≤ x) H0 H1 locs1 → W p l e R s m args below meth c H1 locs1 cells slots Q (F0 m (pc + 1) ls rest)) : W p l e R s m args below meth c H locs cells slots Q (F0 m pc ls (.int x :: .int i :: .ref a :: rest)) := by
  refine W.iast hexec hb (hR.ar hB hs (by decide) (by decide)) ((hKG.2.1 100 (by decide) (by decide)).1 _ _) (fun q => by cases q) (w_in hin) rfl rfl hdg fun H1 e z oq => ?_
  exact kk H1 _ (hR.putA hB hs (by decide) (by decide) e z oq (oneOff_sI _ _ _ _) (fun j => wv_sI _ _ _ _ _ _ (fun _ => rfl))) (hS.put z oq hB)
theorem w_last (hexec : p.tables.exec = Jvm.exec) (hb : c.code = cc) (hKG : KG g s) (hR : Rep g w H) (hS : va_S (fun x => gB g ≤ x) H0 H locs) {a : Nat} (hB : gB g ≤ a) (hs : (wsh w a).1 = 101) {i : Int32} {x : Int64} (hin : vp_in i (wsh w a).2) (hdg : decode cc pc = .ok (.lastore, 1))
    (kk : ∀ (H1 : Heap) (locs1 : List Loc), Rep g (sL w a i.toNatClampNeg x) H1 → va_S (fun x => gB g ≤ x) H0 H1 locs1 → W p l e R s m args below meth c H1 locs1 cells slots Q (F0 m (pc + 1) ls rest)) : W p l e R s m args below meth c H locs cells slots Q (F0 m pc ls (.long x :: .int i :: .ref a :: rest)) := by
  refine W.last hexec hb (hR.ar hB hs (by decide) (by decide)) ((hKG.2.1 101 (by decide) (by decide)).1 _ _) (fun q => by cases q) (w_in hin) rfl rfl hdg fun H1 e z oq => ?_
  exact kk H1 _ (hR.putA hB hs (by decide) (by decide) e z oq (oneOff_sL _ _ _ _) (fun j => wv_sL _ _ _ _ _ _ (fun _ => rfl))) (hS.put z oq hB)
theorem nar_eq (ty : FieldType) (x : Int32) (h : ty = .boolean ∨ ty = .byte) : narrow ty (.int x) = .int (vp_nar ty x) := by
  rcases h with rfl | rfl <;> rfl
theorem w_zast (hexec : p.tables.exec = Jvm.exec) (hb : c.code = cc) (hKG : KG g s) (hR : Rep g w H) (hS : va_S (fun x => gB g ≤ x) H0 H locs) {a : Nat} (hB : gB g ≤ a) (hs : (wsh w a).1 = 102) {i x : Int32} (hin : vp_in i (wsh w a).2) (hdg : decode cc pc = .ok (.bastore, 1))
    (kk : ∀ (H1 : Heap) (locs1 : List Loc), Rep g (sI w a i.toNatClampNeg (vp_nar .boolean x)) H1 → va_S (fun x => gB g ≤ x) H0 H1 locs1 → W p l e R s m args below meth c H1 locs1 cells slots Q (F0 m (pc + 1) ls rest)) : W p l e R s m args below meth c H locs cells slots Q (F0 m pc ls (.int x :: .int i :: .ref a :: rest)) := by
  refine W.zast hexec hb (hR.ar hB hs (by decide) (by decide)) ((hKG.2.1 102 (by decide) (by decide)).1 _ _) (fun q => by cases q) (w_in hin) rfl rfl hdg fun H1 e z oq => ?_
  rw [nar_eq _ _ (Or.inl rfl)] at e
  exact kk H1 _ (hR.putA hB hs (by decide) (by decide) e z oq (oneOff_sI _ _ _ _) (fun j => wv_sI _ _ _ _ _ _ (fun _ => rfl))) (hS.put z oq hB)
theorem w_bast (hexec : p.tables.exec = Jvm.exec) (hb : c.code = cc) (hKG : KG g s) (hR : Rep g w H) (hS : va_S (fun x => gB g ≤ x) H0 H locs) {a : Nat} (hB : gB g ≤ a) (hs : (wsh w a).1 = 103) {i x : Int32} (hin : vp_in i (wsh w a).2) (hdg : decode cc pc = .ok (.bastore, 1))
    (kk : ∀ (H1 : Heap) (locs1 : List Loc), Rep g (sI w a i.toNatClampNeg (vp_nar .byte x)) H1 → va_S (fun x => gB g ≤ x) H0 H1 locs1 → W p l e R s m args below meth c H1 locs1 cells slots Q (F0 m (pc + 1) ls rest)) : W p l e R s m args below meth c H locs cells slots Q (F0 m pc ls (.int x :: .int i :: .ref a :: rest)) := by
  refine W.bast hexec hb (hR.ar hB hs (by decide) (by decide)) ((hKG.2.1 103 (by decide) (by decide)).1 _ _) (fun q => by cases q) (w_in hin) rfl rfl hdg fun H1 e z oq => ?_
  rw [nar_eq _ _ (Or.inr rfl)] at e
  exact kk H1 _ (hR.putA hB hs (by decide) (by decide) e z oq (oneOff_sI _ _ _ _) (fun j => wv_sI _ _ _ _ _ _ (fun _ => rfl))) (hS.put z oq hB)
end HEAP
