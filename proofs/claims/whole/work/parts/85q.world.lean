/-! the start: its surroundings and its world -/
theorem sa_T {s : State} {args : Array Value} {A : Nat → Prop} (hs : ∀ c ∈ NF, c.before args s = true) {t0 : Term} {ty : FieldType} {B : List Nat} (hB : B.length < 2 ^ 31) (h : ∀ c ∈ arB t0 ty B, c ∈ NF) (hA : ∀ a : Nat, a < s.heap.size → ¬ A a) : ∃ t : Nat, t0.eval args s none [] s = some (.ref t) ∧ va_T ty t B.length (fun j => .int (nI (B.getD j 0))) A s s.heap :=
  va_Tof hB (hs _ (h _ List.mem_cons_self)) (va_eqt (hs _ (h _ (List.mem_cons_of_mem _ List.mem_cons_self)))) (fun j hj => va_eqt (hs _ (h _ (arB_el hj)))) hA
theorem st_txt {s : State} {args : Array Value} (hs : ∀ c ∈ NF, c.before args s = true) {q : Nat × Nat × List Nat} (hq : q ∈ txT) : ∃ a t : Nat, (oTm q.1 q.2.1).eval args s none [] s = some (.ref a) ∧ va_O "java/lang/String" a (fun _ => False) s s.heap ∧ va_OF "java/lang/String" "coder" "B" (.int 0) a (fun _ => False) s s.heap ∧ va_OF "java/lang/String" "value" "[B" (.ref t) a (fun _ => False) s s.heap ∧ va_T .byte t q.2.2.length (fun j => .int (nI (q.2.2.getD j 0))) (fun _ => False) s s.heap := by
  have h := tx_in hq
  have hlen : ∀ q ∈ txT, q.2.2.length < 2 ^ 31 := by decide
  have hA : ∀ a : Nat, a < s.heap.size → ¬ (fun _ : Nat => False) a := fun _ _ h => h
  obtain ⟨a, c, cA, kA, q1, q2, q3, q4, q5, q6, -⟩ := Cond.exactly_spec (args := args) (first := s) (o := none) (s := s) (idx := []) (t := oTm q.1 q.2.1) (cls := "java/lang/String") (hs _ (h _ List.mem_cons_self))
  obtain ⟨t, ht, hT⟩ := sa_T hs (hlen q hq) (fun c hc => h c (List.mem_cons_of_mem _ (List.mem_cons_of_mem _ hc))) hA
  exact ⟨a, t, q1, ⟨cA, q3, q5, by rw [q6]; exact q2, fun h => h⟩, vk_OFof q1 (va_eqt (hs _ (h _ (List.mem_cons_of_mem _ List.mem_cons_self)))) hA, vk_OFof q1 ht hA, hT⟩
theorem st_isS {s : State} {c13 : ClassId} {s13 : Nat → Nat} {a t : Nat} {A : Nat → Prop} (hK : u_Kn s RJ0 TJ0 4 c13 s13) (h1 : va_O "java/lang/String" a A s s.heap) (h2 : va_OF "java/lang/String" "coder" "B" (.int 0) a A s s.heap) (h3 : va_OF "java/lang/String" "value" "[B" (.ref t) a A s s.heap) : isS s c13 s13 a ∧ sT s c13 s13 a = (13, 0) ∧ wI (sW s c13 s13) a 1 = 0 ∧ wP (sW s c13 s13) a 0 = some t := by
  obtain ⟨cell, g1, g2, g3, -⟩ := h1
  obtain ⟨cf, k, i, f, cell2, f1, -, f3, f4, f5, -⟩ := h2
  obtain ⟨cf', k', i', f', cell3, e1, -, e3, e4, e5, -⟩ := h3
  cases g1.symm.trans f3
  cases g1.symm.trans e3
  obtain ⟨x1, x2, x3, fd, y1, y2⟩ := hK.1 0 (by decide)
  obtain ⟨z1, z2, z3, fe, u1, u2⟩ := hK.1 1 (by decide)
  cases e1.symm.trans y1
  cases f1.symm.trans u1
  rw [y2] at e5
  rw [u2] at f5
  have hc : cell.cls = c13 := Option.some.inj (g3.symm.trans hK.2.1)
  have hi : isS s c13 s13 a := ⟨cell, g1, hc, g2, f4, ⟨t, e5⟩, 0, f5⟩
  have ht := sT_str hK.2.2 hi
  exact ⟨hi, ht, sW_Is g1 (by rw [ht]) f5, sW_P g1 e5⟩
theorem digO_at : ∀ i, i < 100 → digO.getD i 0 = 48 + i % 10 := by decide +kernel
theorem digT_at : ∀ i, i < 100 → digT.getD i 0 = 48 + i / 10 := by decide +kernel
set_option maxHeartbeats 4000000 in
theorem start_world {s : State} {b L : Nat} {xs : Nat → Int32} (hL : L ≤ 3072) (hts : ∀ w ∈ lw_tbl, w.before #[Value.ref b] s = true) (hpre : (Jvm.Cond.and given_1 narrow_1).before #[Value.ref b] s = true) (hX : va_X b L xs s s.heap) : ∃ (g : Ge) (w : Wd), gB g = s.heap.size ∧ wn w = s.heap.size ∧ KG g s ∧ KS g s s.heap ∧ Rep g w s.heap ∧ Cn g w ∧ WF w ∧ wsh w b = (100, L) := by
  have hs : ∀ c ∈ NF, c.before #[Value.ref b] s = true := flat_of_before _ hpre
  obtain ⟨P, hP⟩ := Classical.axiomOfChoice (st_cls hts)
  have k13 := (hP 13).1 (RJ0, TJ0, 4) rfl
  obtain ⟨c13, hc13⟩ : ∃ c13, c13 = (P 13).1 := ⟨_, rfl⟩
  obtain ⟨s13, hs13⟩ : ∃ s13, s13 = (P 13).2 := ⟨_, rfl⟩
  rw [← hc13, ← hs13] at k13
  obtain ⟨g, hg⟩ : ∃ g : Ge, g = ((fun c => (P c).1, fun c => (P c).2), s.heap.size, sA s #[Value.ref b] c13 s13) := ⟨_, rfl⟩
  have hB : gB g = s.heap.size := by rw [hg]; rfl
  have hcC : ∀ c, cC g c = (P c).1 := fun c => by rw [hg]; rfl
  have hcS : ∀ c, cS g c = (P c).2 := fun c => by rw [hg]; rfl
  have a0 : ∀ o i, o < 1000 → gA g o i = rO ((oTm o i).eval #[Value.ref b] s none [] s) := fun o i ho => by
    rw [hg]
    show sA s #[Value.ref b] c13 s13 o i = _
    unfold sA
    rw [if_neg (by omega), if_neg (by omega), if_neg (by omega), if_neg (by omega)]
  have a1 : ∀ i, gA g 1000 i = rO ((stE i).eval #[Value.ref b] s none [] s) := fun i => by rw [hg]; rfl
  have a2 : ∀ i t, (stE i).eval #[Value.ref b] s none [] s = some (.ref t) → gA g 1001 i = 0 ∧ gA g 1000 i = t := fun i t h => by
    refine ⟨?_, by rw [a1, h]; rfl⟩
    rw [hg]
    show (match (stE i).eval #[Value.ref b] s none [] s with | some (.ref _) => 0 | _ => 1) = 0
    rw [h]
  have a3 : ∀ i, (stE i).eval #[Value.ref b] s none [] s = some .null → gA g 1001 i = 1 := fun i h => by
    rw [hg]
    show (match (stE i).eval #[Value.ref b] s none [] s with | some (.ref _) => 0 | _ => 1) = 1
    rw [h]
  have a4 : ∀ i, gA g 2000 i = (cl? s i).cls := fun i => by rw [hg]; rfl
  have a5 : ∀ i, gA g 2001 i = (sT s c13 s13 i).1 := fun i => by rw [hg]; rfl
  have hF : ∀ a : Nat, a < s.heap.size → ¬ (fun _ : Nat => False) a := fun _ _ h => h
  obtain ⟨t0, v0, T0⟩ := sa_T hs (by decide) sa_wider hF
  obtain ⟨t1, v1, T1⟩ := sa_T hs (by decide) sa_ones hF
  obtain ⟨t2, v2, T2⟩ := sa_T hs (by decide) sa_tens hF
  obtain ⟨w0, w1⟩ := a2 0 t0 v0
  obtain ⟨w2, w3⟩ := a2 1 t1 v1
  obtain ⟨w4, w5⟩ := a2 2 t2 v2
  obtain ⟨i0, c0, d0, e0⟩ := isA.of_T (by decide) T0
  obtain ⟨i1, c1, d1, e1⟩ := isA.of_T (by decide) T1
  obtain ⟨i2, c2, d2, e2⟩ := isA.of_T (by decide) T2
  refine ⟨g, sW s c13 s13, hB, rfl, ⟨fun c q hq => ?_, fun t h1 h2 => ?_, fun q hq => ?_, fun q hq => ?_, fun C hC => ?_, ?_, ?_, ?_, fun a t h1 h2 h3 => ?_⟩, fun q hq => ?_, sW_rep hB ((hcC 13).trans hc13.symm) ((hcS 13).trans hs13.symm) a4 a5, ⟨fun q hq => ?_, ?_, ?_, ?_⟩, sW_wf, ?_⟩
  · rw [hcC, hcS]
    exact (hP c).1 q hq
  · rw [hcC]
    exact (hP t).2 h1 h2
  · obtain ⟨a, -, -, -, q1, -⟩ := Cond.exactly_spec (args := #[Value.ref b]) (first := s) (o := none) (s := s) (idx := []) (t := oTm q.1 q.2.1) (cls := "java/lang/String") (hs _ (st_exa q hq))
    have ho : ∀ q ∈ strT, q.1 < 1000 := by decide
    have e : gA g q.1 q.2.1 = a := by rw [a0 _ _ (ho q hq), q1]; rfl
    rw [e]
    exact vk_R.of (hts _ (st_refs q hq)) q1
  · exact va_Nw.of rfl (hts _ (st_nest q hq))
  · have h : ∀ C ∈ ["RowMarshal$Row", "RowMarshal$Version", "RowMarshal$Field"], Cond.arrayOver (.object C) ∈ lw_tbl := lwZ [1036, 1038, 3011] (by decide) (by decide +kernel)
    exact va_AO.of (hts _ (h C hC))
  · exact hts (.arrayOver (.array .int)) (lw_at 1120 (by decide +kernel))
  · exact hts (.arrayOver (.array .long)) (lw_at 1122 (by decide +kernel))
  · exact va_Nw.of rfl (hts (.castable "[B" "java/lang/Cloneable") (lw_at 4018 (by decide +kernel)))
  · rw [a5] at h3
    rw [a4]
    have arr : ∀ (ty : FieldType) (n : Nat), isA s ty a n → ArrOfT s (cl? s a).cls ty := fun ty n h => by
      obtain ⟨c, f1, ⟨-, k, f2, comp, f3⟩, -⟩ := h
      rw [cl_of f1]
      exact fun n z => ⟨fun k h => (by cases h), k, f2, comp, f3⟩
    rcases sT_inv (s := s) (c13 := c13) (s13 := s13) (a := a) (by omega) with ⟨e, h⟩ | ⟨e, h⟩ | ⟨e, -⟩
    · have : t = 100 := by rw [← h3, e]
      rw [this]
      exact arr _ _ h
    · have : t = 103 := by rw [← h3, e]
      rw [this]
      exact arr _ _ h
    · rw [e] at h3
      exact absurd h3 (by omega)
  · refine va_Zof (hts _ (st_statL q hq)) (hts _ (st_statI q hq)) ?_ (fun a ha => by show ¬ gB g ≤ a; omega)
    unfold staT at hq
    simp only [List.mem_cons, List.not_mem_nil, or_false] at hq
    rcases hq with rfl | rfl | rfl | rfl | rfl
    · show (Term.static "RowMarshal$Numbers" "WIDER" "[I").eval #[Value.ref b] s none [] s = some (if gA g 1001 0 = 0 then .ref (gA g 1000 0) else .null)
      rw [if_pos w0, w1]
      exact v0
    · show (Term.static "java/lang/String" "COMPACT_STRINGS" "Z").eval #[Value.ref b] s none [] s = some (.int 1)
      exact va_eqt (hs _ (nf_at 15 (by decide +kernel)))
    · show (Term.static "java/lang/Integer" "DigitOnes" "[B").eval #[Value.ref b] s none [] s = some (if gA g 1001 1 = 0 then .ref (gA g 1000 1) else .null)
      rw [if_pos w2, w3]
      exact v1
    · show (Term.static "java/lang/Integer" "DigitTens" "[B").eval #[Value.ref b] s none [] s = some (if gA g 1001 2 = 0 then .ref (gA g 1000 2) else .null)
      rw [if_pos w4, w5]
      exact v2
    · show (Term.static "jdk/internal/util/Preconditions" "SIOOBE_FORMATTER" "Ljava/util/function/BiFunction;").eval #[Value.ref b] s none [] s = some (if gA g 1001 3 = 0 then .ref (gA g 1000 3) else .null)
      obtain ⟨v, z1, z2⟩ := Cond.isRef_spec (hs (.isRef (.static "jdk/internal/util/Preconditions" "SIOOBE_FORMATTER" "Ljava/util/function/BiFunction;")) (nf_at 16 (by decide +kernel)))
      cases v with
      | ref t =>
        obtain ⟨y0, y1⟩ := a2 3 t z1
        rw [if_pos y0, y1]
        exact z1
      | null =>
        rw [if_neg (by rw [a3 3 z1]; decide)]
        exact z1
      | _ => simp [Value.isRef] at z2
  · obtain ⟨a, t, z1, z2, z3, z4, z5⟩ := st_txt hs hq
    have hlen : ∀ q ∈ txT, q.2.2.length < 2 ^ 31 ∧ q.1 < 1000 := by decide
    obtain ⟨y1, y2, y3, y4⟩ := st_isS k13 z2 z3 z4
    obtain ⟨x1, c, x2, x3⟩ := isA.of_T (hlen q hq).1 z5
    have e : gA g q.1 q.2.1 = a := by rw [a0 _ _ (hlen q hq).2, z1]; rfl
    rw [e, hB]
    exact ⟨y1.lt, y2, y3, t, x1.lt, y4, sT_byte x1, fun i hi => sW_I x2 (by rw [sT_byte x1]; show ¬ 103 = 13; decide) (x3 i hi)⟩
  · rw [w1, hB]
    exact ⟨w0, i0.lt, sT_int i0, fun i hi => sW_I d0 (by rw [sT_int i0]; decide) (e0 i hi)⟩
  · rw [w3, hB]
    exact ⟨w2, i1.lt, sT_byte i1, fun i hi => (sW_I d1 (by rw [sT_byte i1]; decide) (e1 i hi)).trans (by rw [digO_at i hi])⟩
  · rw [w5, hB]
    exact ⟨w4, i2.lt, sT_byte i2, fun i hi => (sW_I d2 (by rw [sT_byte i2]; decide) (e2 i hi)).trans (by rw [digT_at i hi])⟩
  · obtain ⟨c, x1, x2, x3, x4, x5⟩ := hX
    have e : lenC c = L := by
      unfold lenC
      rw [x4]
      exact Int32.toNatClampNeg_ofNat_of_lt (by omega)
    exact sT_int ⟨c, x1, x2, x3, e.symm, Nat.le_of_eq x4.symm, by rw [x4], fun j hj => ⟨_, x5 j hj⟩⟩
