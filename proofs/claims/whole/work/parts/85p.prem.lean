/-! the start: what words and premises say of the classes and of the cells that are there -/
def NF : List Cond := flatC (Jvm.Cond.and given_1 narrow_1)
def oTm (o i : Nat) : Term := .string (oN o) i
def vTm (o i : Nat) : Term := .field (oTm o i) "java/lang/String" "value" "[B"
/-- words by their places -/
def lwK (L : List (Nat × Cond)) : Bool := L.all fun q => Nat.ble 1 (q.1 / 1000) && Nat.ble (q.1 / 1000) 8 && decide ((ch (q.1 / 1000))[q.1 % 1000]? = some q.2)
theorem lwK_ok {L : List (Nat × Cond)} (h : lwK L = true) : ∀ q ∈ L, q.2 ∈ lw_tbl := by
  intro q hq
  have h1 := List.all_eq_true.mp h q hq
  simp only [Bool.and_eq_true, decide_eq_true_eq] at h1
  have hm := List.mem_of_getElem? h1.2
  have hl := Nat.le_of_ble_eq_true h1.1.1
  have hu := Nat.le_of_ble_eq_true h1.1.2
  unfold lw_tbl tables_1
  simp only [List.mem_append]
  have h9 : q.1 / 1000 = 1 ∨ q.1 / 1000 = 2 ∨ q.1 / 1000 = 3 ∨ q.1 / 1000 = 4 ∨ q.1 / 1000 = 5 ∨ q.1 / 1000 = 6 ∨ q.1 / 1000 = 7 ∨ q.1 / 1000 = 8 := by omega
  rcases h9 with e | e | e | e | e | e | e | e <;> rw [e] at hm
  · exact Or.inr (Or.inl hm)
  · exact Or.inr (Or.inr (Or.inl hm))
  · exact Or.inr (Or.inr (Or.inr (Or.inl hm)))
  · exact Or.inr (Or.inr (Or.inr (Or.inr (Or.inl hm))))
  · exact Or.inr (Or.inr (Or.inr (Or.inr (Or.inr (Or.inl hm)))))
  · exact Or.inr (Or.inr (Or.inr (Or.inr (Or.inr (Or.inr (Or.inl hm))))))
  · exact Or.inr (Or.inr (Or.inr (Or.inr (Or.inr (Or.inr (Or.inr (Or.inl hm)))))))
  · exact Or.inr (Or.inr (Or.inr (Or.inr (Or.inr (Or.inr (Or.inr (Or.inr hm)))))))
theorem lw_at {c : Cond} (i : Nat) (h : lwK [(i, c)] = true) : c ∈ lw_tbl := lwK_ok h (i, c) List.mem_cons_self
theorem zip_in {α β : Type} {A : List α} {B : List β} (h : B.length ≤ A.length) {b : β} (hb : b ∈ B) : ∃ a, (a, b) ∈ A.zip B := by
  obtain ⟨i, hi, rfl⟩ := List.mem_iff_getElem.mp hb
  exact ⟨A[i]'(by omega), List.mem_of_getElem? (i := i) (List.getElem?_zip_eq_some.mpr ⟨List.getElem?_eq_getElem (by omega), List.getElem?_eq_getElem hi⟩)⟩
theorem lwZ {β : Type} (A : List Nat) {B : List β} {f : β → Cond} (hl : B.length ≤ A.length) (h : lwK ((A.zip B).map fun z => (z.1, f z.2)) = true) : ∀ b ∈ B, f b ∈ lw_tbl := fun b hb => by
  obtain ⟨a, ha⟩ := zip_in hl hb
  exact lwK_ok h _ (List.mem_map_of_mem (f := fun z : Nat × β => (z.1, f z.2)) ha)
/-- premises by their places -/
theorem nf_at {c : Cond} (i : Nat) (h : decide (NF[i]? = some c) = true) : c ∈ NF := List.mem_of_getElem? (of_decide_eq_true h)
def blk (i : Nat) (L : List Cond) : Bool := decide ((NF.drop i).take L.length = L)
theorem blk_in {i : Nat} {L : List Cond} (h : blk i L = true) : ∀ c ∈ L, c ∈ NF := fun c hc => by
  have e := of_decide_eq_true h
  rw [← e] at hc
  exact List.mem_of_mem_drop (List.mem_of_mem_take hc)
def arB (t : Term) (ty : FieldType) (B : List Nat) : List Cond := Cond.arrayOf t ty :: Cond.eq (.length t) (.int (Int32.ofNat B.length)) :: (List.range B.length).map fun j => Cond.eq (.elem t (.int (Int32.ofNat j))) (.int (Int32.ofNat (B.getD j 0)))
theorem arB_el {t : Term} {ty : FieldType} {B : List Nat} {j : Nat} (hj : j < B.length) : Cond.eq (.elem t (.int (Int32.ofNat j))) (.int (Int32.ofNat (B.getD j 0))) ∈ arB t ty B := List.mem_cons_of_mem _ (List.mem_cons_of_mem _ (List.mem_map.mpr ⟨j, List.mem_range.mpr hj, rfl⟩))
def txB (q : Nat × Nat × List Nat) : List Cond := Cond.exactly (oTm q.1 q.2.1) "java/lang/String" :: Cond.eq (.field (oTm q.1 q.2.1) "java/lang/String" "coder" "B") (.int 0) :: arB (vTm q.1 q.2.1) .byte q.2.2
theorem tx_bl : (([265, 269, 277, 287, 298, 311, 323, 337, 353, 371, 387, 403, 421, 441, 462, 485, 507, 531, 557, 585] : List Nat).zip txT).all (fun z => blk z.1 (txB z.2)) = true := by decide +kernel
theorem tx_in {q : Nat × Nat × List Nat} (hq : q ∈ txT) : ∀ c ∈ txB q, c ∈ NF := by
  obtain ⟨a, ha⟩ := zip_in (A := ([265, 269, 277, 287, 298, 311, 323, 337, 353, 371, 387, 403, 421, 441, 462, 485, 507, 531, 557, 585] : List Nat)) (by decide) hq
  exact blk_in (List.all_eq_true.mp tx_bl _ ha)
theorem sa_wider : ∀ c ∈ arB (.static "RowMarshal$Numbers" "WIDER" "[I") .int [1, 250, 244, 248, 240, 224, 192, 128], c ∈ NF := blk_in (i := 5) (by decide +kernel)
def digO : List Nat := (List.range 100).map fun i => 48 + i % 10
def digT : List Nat := (List.range 100).map fun i => 48 + i / 10
theorem sa_ones : ∀ c ∈ arB (.static "java/lang/Integer" "DigitOnes" "[B") .byte digO, c ∈ NF := blk_in (i := 21) (by decide +kernel)
theorem sa_tens : ∀ c ∈ arB (.static "java/lang/Integer" "DigitTens" "[B") .byte digT, c ∈ NF := blk_in (i := 124) (by decide +kernel)
theorem st_refs : ∀ q ∈ strT, Cond.stringRef (oN q.1) q.2.1 q.2.2 ∈ lw_tbl := lwZ [1229, 3036, 3037, 3038, 3039, 3040, 3041, 3042, 3043, 3044, 4102, 7133, 7134, 7135, 7136, 7137, 7138, 7139, 7140, 7141] (by decide) (by decide +kernel)
theorem st_exa : ∀ q ∈ strT, Cond.exactly (oTm q.1 q.2.1) "java/lang/String" ∈ NF := by
  have h : strT.map (fun q => (q.1, q.2.1)) = txT.map (fun q => (q.1, q.2.1)) := by decide
  intro q hq
  have hm := List.mem_map_of_mem (f := fun q : Nat × Nat × String => (q.1, q.2.1)) hq
  rw [h] at hm
  obtain ⟨z, hz, e⟩ := List.mem_map.mp hm
  have e1 : z.1 = q.1 := congrArg Prod.fst e
  have e2 : z.2.1 = q.2.1 := congrArg Prod.snd e
  rw [← e1, ← e2]
  exact tx_in hz _ List.mem_cons_self
theorem st_nest : ∀ q ∈ nestT, Cond.methodLinkNest (oN q.1) q.2.1 q.2.2 "RowMarshal" ∈ lw_tbl := lwZ [1041, 1047, 1064, 1115, 1174, 1198, 3020, 5040] (by decide) (by decide +kernel)
theorem st_statL : ∀ q ∈ staT, Cond.laysStatic q.1 q.2.1 q.2.2.1 ∈ lw_tbl := lwZ [2111, 3058, 4117, 4119, 3074] (by decide) (by decide +kernel)
theorem st_statI : ∀ q ∈ staT, Cond.initialized q.1 ∈ lw_tbl := lwZ [1011, 1016, 1026, 1026, 1018] (by decide) (by decide +kernel)
def insT : List Nat := [2, 6, 13, 6, 2, 7, 4, 3, 7, 4, 2, 16, 65, 4, 4]
theorem st_ins : ∀ z ∈ cls.zip insT, Cond.instantiable z.1.1 z.2 ∈ lw_tbl := lwZ [1046, 3110, 1114, 1197, 1046, 1040, 1063, 2047, 2218, 1173, 3151, 1028, 6043, 4133, 3197] (by decide) (by decide +kernel)
def asbL : List MethodName := [yJ5_newCapacity_0f7a4, yJ5_ensureCapacityInternal_d00df, yJ5_putStringAt_47b60, yJ5_inflateIfNeededFor_a7421]
theorem asb_c : ∀ y ∈ asbL, y.cls = "java/lang/AbstractStringBuilder" := by decide +kernel
theorem asb_p : ∀ y ∈ asbL, Cond.privateMethod y ∈ lw_tbl := lwZ [3238, 3234, 4088, 4092] (by decide) (by decide +kernel)
theorem asb_i : ∀ y ∈ asbL, Cond.instanceMethod y ∈ lw_tbl := lwZ [3239, 3235, 4089, 4093] (by decide) (by decide +kernel)
theorem sel_asb {s : State} {args : Array Value} (hts : ∀ w ∈ lw_tbl, w.before args s = true) {y : MethodName} (hy0 : y.cls = "java/lang/AbstractStringBuilder") (hp : Cond.privateMethod y ∈ lw_tbl) (hi : Cond.instanceMethod y ∈ lw_tbl) : (Cond.selects "java/lang/StringBuilder" y y).before args s = true := by
  have hins := hts (.instantiable "java/lang/StringBuilder" 4) (lw_at 3197 (by decide +kernel))
  obtain ⟨c, k, hc, hk, -, hniab, -, -⟩ := Cond.instantiable_spec hins
  obtain ⟨mk, methM, hnamed, hmethM, -, -⟩ := Cond.instanceMethod_spec (hts _ hi)
  have hfound : s.methodFound? y.cls y.name y.desc = some mk := State.methodFound?_of_named hnamed (by rw [hy0]; exact ⟨by decide, by decide⟩)
  have hsel : selectMethod {} s.vm c mk = .method mk := selectMethod_private hmethM (Cond.privateMethod_at (hts _ hp) mk methM hnamed hmethM)
  obtain ⟨c2, r2, m2, q1, q2, q3, q4, k5, q5, q6⟩ := Cond.selects_spec (hts (.selects "java/lang/StringBuilder" ⟨"java/lang/AbstractStringBuilder", "getValue", "()[B"⟩ ⟨"java/lang/AbstractStringBuilder", "getValue", "()[B"⟩) (lw_at 4144 (by decide +kernel)))
  have e1 : s.vm.findClass "java/lang/AbstractStringBuilder" = some mk.cls := by rw [← hy0]; exact findClass_of_methodNamed hnamed
  have e2 : s.vm.findClass "java/lang/AbstractStringBuilder" = some m2.cls := findClass_of_methodNamed q3
  have e3 : mk.cls = m2.cls := Option.some.inj (e1.symm.trans e2)
  simp only [Cond.before, Cond.holds, Cond.value, hc, hfound, hnamed, hsel, e3, q5]
  simp [q6]
theorem gl_hold {s : State} {args : Array Value} (hts : ∀ w ∈ lw_tbl, w.before args s = true) : ∀ w ∈ GL, w.before args s = true := by
  intro w hw
  have h1 := (List.mem_filter.mp hw).1
  unfold lw_tb2 at h1
  rcases List.mem_append.mp h1 with h | h
  · exact hts w h
  · unfold xsel at h
    obtain ⟨y, hy, rfl⟩ := List.mem_map.mp h
    exact sel_asb hts (asb_c y hy) (asb_p y hy) (asb_i y hy)
theorem arrOver_specA {args : Array Value} {s : State} {t : FieldType} (h : (Cond.arrayOver (.array t)).before args s = true) : ∃ comp c k, s.vm.classes[c]? = some k ∧ k.kind = .array comp (.array t) ∧ s.vm.findClass ("[" ++ (FieldType.array t).toString) = some c := by
  unfold Cond.before at h
  simp only [Cond.holds, Cond.value, beq_iff_eq] at h
  cases hc : s.vm.findClass (FieldType.array t).toString with
  | none => simp [hc] at h
  | some comp =>
    simp only [hc, Option.bind_some, Option.bind_eq_some_iff, Option.map_eq_some_iff] at h
    obtain ⟨c, hi, k, hk, hb⟩ := h
    cases hkd : k.kind with
    | array comp' t' =>
      rw [hkd] at hb
      simp only [Bool.and_eq_true, decide_eq_true_eq] at hb
      exact ⟨comp', c, k, hk, by rw [hkd, hb.1], hb.2⟩
    | ordinary => rw [hkd] at hb; simp at hb
    | primitive _ => rw [hkd] at hb; simp at hb
theorem st_cls {s : State} {args : Array Value} (hts : ∀ w ∈ lw_tbl, w.before args s = true) (c : Nat) : ∃ p : ClassId × (Nat → Nat), (∀ q : vw_C, cls[c]? = some q → u_Kn s q.1 q.2.1 q.2.2 p.1 p.2) ∧ (100 ≤ c → c < 109 → ArrOfT s p.1 (aty c) ∧ va_RA s p.1 (aty c)) := by
  by_cases hc : c < 100
  · cases h : cls[c]? with
    | none => exact ⟨(0, fun _ => 0), (fun q hq => by cases hq), (fun h => by omega)⟩
    | some q =>
      have hl := cls_lt h
      have hz : (cls.zip insT)[c]? = some (q, insT[c]'hl) := List.getElem?_zip_eq_some.mpr ⟨h, List.getElem?_eq_getElem hl⟩
      have hn := st_ins _ (List.mem_of_getElem? hz)
      obtain ⟨cC, iS, hk⟩ := u_known (gl_hold hts) (clOk h).1 (hts _ hn)
      exact ⟨(cC, iS), (fun q' hq' => by cases hq'; exact hk), (fun h => by omega)⟩
  · by_cases h2 : c < 109
    · have arr : ∀ {ty : FieldType}, Cond.arrayClass ty ∈ lw_tbl → ∃ (ci : ClassId) (k : Class) (comp : ClassId), s.vm.findClass ("[" ++ ty.toString) = some ci ∧ s.vm.classes[ci]? = some k ∧ k.kind = .array comp ty := fun h => Cond.arrayClass_spec (hts _ h)
      have ovr : ∀ {C : String}, Cond.arrayOver (.object C) ∈ lw_tbl → ∃ ci : ClassId, ArrOfT s ci (.object C) ∧ va_RA s ci (.object C) := fun {C} h => by
        obtain ⟨comp, ci, k, h1, -, h2, h3, h4⟩ := Cond.arrayOver_spec (hts _ h)
        exact ⟨ci, fun n z => ⟨fun k h => (by cases h), k, h2, comp, h3⟩, k, comp, h2, h3, h1, h4⟩
      have pick : (∃ ci : ClassId, ArrOfT s ci (aty c) ∧ va_RA s ci (aty c)) := by
        have h9 : c = 100 ∨ c = 101 ∨ c = 102 ∨ c = 103 ∨ c = 104 ∨ c = 105 ∨ c = 106 ∨ c = 107 ∨ c = 108 := by omega
        rcases h9 with rfl | rfl | rfl | rfl | rfl | rfl | rfl | rfl | rfl
        · obtain ⟨ci, k, comp, h1, h2, h3⟩ := arr (ty := .int) (lw_at 1061 (by decide +kernel))
          exact ⟨ci, fun n z => ⟨fun k h => (by cases h), k, h2, comp, h3⟩, h1⟩
        · obtain ⟨ci, k, comp, h1, h2, h3⟩ := arr (ty := .long) (lw_at 1112 (by decide +kernel))
          exact ⟨ci, fun n z => ⟨fun k h => (by cases h), k, h2, comp, h3⟩, h1⟩
        · obtain ⟨ci, k, comp, h1, h2, h3⟩ := arr (ty := .boolean) (lw_at 1171 (by decide +kernel))
          exact ⟨ci, fun n z => ⟨fun k h => (by cases h), k, h2, comp, h3⟩, h1⟩
        · obtain ⟨ci, k, comp, h1, h2, h3⟩ := arr (ty := .byte) (lw_at 2039 (by decide +kernel))
          exact ⟨ci, fun n z => ⟨fun k h => (by cases h), k, h2, comp, h3⟩, h1⟩
        · exact ovr (C := "RowMarshal$Row") (lw_at 1036 (by decide +kernel))
        · exact ovr (C := "RowMarshal$Version") (lw_at 1038 (by decide +kernel))
        · exact ovr (C := "RowMarshal$Field") (lw_at 3011 (by decide +kernel))
        · obtain ⟨comp, ci, k, h2, h3, h1⟩ := arrOver_specA (hts (.arrayOver (.array .int)) (lw_at 1120 (by decide +kernel)))
          exact ⟨ci, fun n z => ⟨fun k h => (by cases h), k, h2, comp, h3⟩, h1⟩
        · obtain ⟨comp, ci, k, h2, h3, h1⟩ := arrOver_specA (hts (.arrayOver (.array .long)) (lw_at 1122 (by decide +kernel)))
          exact ⟨ci, fun n z => ⟨fun k h => (by cases h), k, h2, comp, h3⟩, h1⟩
      obtain ⟨ci, hci⟩ := pick
      exact ⟨(ci, fun _ => 0), fun q hq => absurd (cls_lt hq) (by omega), fun _ _ => hci⟩
    · exact ⟨(0, fun _ => 0), fun q hq => absurd (cls_lt hq) (by omega), fun _ h3 => absurd h3 h2⟩
/-! the world of the start -/
def iO : Option Value → Int32
  | some (.int v) => v
  | _ => 0
def pO : Option Value → Option Nat
  | some (.ref t) => some t
  | _ => none
def rO (v : Option Value) : Nat := (pO v).getD 0
def lenC (c : Cell) : Nat := c.slots.size.toInt32.toNatClampNeg
def isA (s : State) (ty : FieldType) (a n : Nat) : Prop := ∃ cell : Cell, s.heap[a]? = some cell ∧ s.isArrayOf cell ty ∧ cell.vm ≠ .unknown ∧ n = lenC cell ∧ n ≤ cell.slots.size ∧ cell.slots.size.toInt32 = n.toInt32 ∧ ∀ j, j < n → ∃ v, cell.slots[j]? = some (.int v)
def isS (s : State) (c13 : ClassId) (s13 : Nat → Nat) (a : Nat) : Prop := ∃ cell : Cell, s.heap[a]? = some cell ∧ cell.cls = c13 ∧ cell.vm.isStatics = false ∧ cell.vm ≠ .unknown ∧ (∃ t, cell.slots[s13 0]? = some (.ref t)) ∧ ∃ v, cell.slots[s13 1]? = some (.int v)
def cl? (s : State) (a : Nat) : Cell := s.heap[a]?.getD { cls := 0, slots := #[] }
noncomputable def sT (s : State) (c13 : ClassId) (s13 : Nat → Nat) (a : Nat) : Nat × Nat :=
  @ite _ (isA s .int a (lenC (cl? s a))) (Classical.propDecidable _) (100, lenC (cl? s a)) (@ite _ (isA s .byte a (lenC (cl? s a))) (Classical.propDecidable _) (103, lenC (cl? s a)) (@ite _ (isS s c13 s13 a) (Classical.propDecidable _) (13, 0) (200, 0)))
noncomputable def sW (s : State) (c13 : ClassId) (s13 : Nat → Nat) : Wd := (s.heap.size, sT s c13 s13, fun a j => iO (cl? s a).slots[if (sT s c13 s13 a).1 = 13 then s13 j else j]?, fun _ _ => 0, fun a j => pO (cl? s a).slots[s13 j]?)
theorem cl_of {s : State} {a : Nat} {c : Cell} (h : s.heap[a]? = some c) : cl? s a = c := by unfold cl?; rw [h]; rfl
theorem isA.one {s : State} {a n m : Nat} (h : isA s .int a n) (h' : isA s .byte a m) : False := by
  obtain ⟨c, e1, ⟨-, k, e2, p, e3⟩, -⟩ := h
  obtain ⟨c', f1, ⟨-, k', f2, p', f3⟩, -⟩ := h'
  cases e1.symm.trans f1
  cases e2.symm.trans f2
  cases e3.symm.trans f3
theorem sT_int {s : State} {c13 : ClassId} {s13 : Nat → Nat} {a n : Nat} (h : isA s .int a n) : sT s c13 s13 a = (100, n) := by
  have hn : lenC (cl? s a) = n := by
    obtain ⟨c, e1, -, -, e2, -⟩ := h
    rw [cl_of e1, e2]
  unfold sT
  rw [hn, if_pos h]
theorem sT_byte {s : State} {c13 : ClassId} {s13 : Nat → Nat} {a n : Nat} (h : isA s .byte a n) : sT s c13 s13 a = (103, n) := by
  have hn : lenC (cl? s a) = n := by
    obtain ⟨c, e1, -, -, e2, -⟩ := h
    rw [cl_of e1, e2]
  unfold sT
  rw [hn, if_neg (fun z => isA.one z h), if_pos h]
theorem sT_str {s : State} {c13 : ClassId} {s13 : Nat → Nat} {a : Nat} (hk : ∃ kC : Class, s.vm.classes[c13]? = some kC ∧ kC.kind = .ordinary) (h : isS s c13 s13 a) : sT s c13 s13 a = (13, 0) := by
  obtain ⟨kC, g1, g2⟩ := hk
  have no : ∀ (ty : FieldType) (n : Nat), ¬ isA s ty a n := fun ty n z => by
    obtain ⟨c, e1, e2, -⟩ := h
    obtain ⟨c', f1, ⟨-, k', f2, p', f3⟩, -⟩ := z
    cases e1.symm.trans f1
    rw [e2] at f2
    cases g1.symm.trans f2
    cases g2.symm.trans f3
  unfold sT
  rw [if_neg (no _ _), if_neg (no _ _), if_pos h]
/-- a tag below 109 means what it says -/
theorem sT_inv {s : State} {c13 : ClassId} {s13 : Nat → Nat} {a : Nat} (h : (sT s c13 s13 a).1 < 109) : (sT s c13 s13 a = (100, (sT s c13 s13 a).2) ∧ isA s .int a (sT s c13 s13 a).2) ∨ (sT s c13 s13 a = (103, (sT s c13 s13 a).2) ∧ isA s .byte a (sT s c13 s13 a).2) ∨ (sT s c13 s13 a = (13, 0) ∧ isS s c13 s13 a) := by
  by_cases h1 : isA s .int a (lenC (cl? s a))
  · have e := sT_int (c13 := c13) (s13 := s13) h1
    exact Or.inl ⟨by rw [e], by rw [e]; exact h1⟩
  · by_cases h2 : isA s .byte a (lenC (cl? s a))
    · have e := sT_byte (c13 := c13) (s13 := s13) h2
      exact Or.inr (Or.inl ⟨by rw [e], by rw [e]; exact h2⟩)
    · by_cases h3 : isS s c13 s13 a
      · refine Or.inr (Or.inr ⟨?_, h3⟩)
        unfold sT
        rw [if_neg h1, if_neg h2, if_pos h3]
      · exfalso
        unfold sT at h
        rw [if_neg h1, if_neg h2, if_neg h3] at h
        exact absurd h (by decide)
theorem isA.lt {s : State} {ty : FieldType} {a n : Nat} (h : isA s ty a n) : a < s.heap.size := by
  obtain ⟨c, e1, -⟩ := h
  exact (Array.getElem?_eq_some_iff.mp e1).1
theorem isS.lt {s : State} {c13 : ClassId} {s13 : Nat → Nat} {a : Nat} (h : isS s c13 s13 a) : a < s.heap.size := by
  obtain ⟨c, e1, -⟩ := h
  exact (Array.getElem?_eq_some_iff.mp e1).1
theorem sT_lt {s : State} {c13 : ClassId} {s13 : Nat → Nat} {a : Nat} (h : (sT s c13 s13 a).1 < 109) : a < s.heap.size := by
  rcases sT_inv h with ⟨-, h⟩ | ⟨-, h⟩ | ⟨-, h⟩
  · exact h.lt
  · exact h.lt
  · exact h.lt
theorem sW_wf {s : State} {c13 : ClassId} {s13 : Nat → Nat} : WF (sW s c13 s13) := fun a ha => Nat.not_lt.mp fun h => absurd (sT_lt h) (Nat.not_lt.mpr ha)
theorem sW_n {s : State} {c13 : ClassId} {s13 : Nat → Nat} : wn (sW s c13 s13) = s.heap.size := rfl
theorem sW_sh {s : State} {c13 : ClassId} {s13 : Nat → Nat} : wsh (sW s c13 s13) = sT s c13 s13 := rfl
theorem sW_I {s : State} {c13 : ClassId} {s13 : Nat → Nat} {a j : Nat} {c : Cell} {v : Int32} (h : s.heap[a]? = some c) (ht : ¬ (sT s c13 s13 a).1 = 13) (hv : c.slots[j]? = some (.int v)) : wI (sW s c13 s13) a j = v := by
  show iO (cl? s a).slots[if (sT s c13 s13 a).1 = 13 then s13 j else j]? = v
  rw [if_neg ht, cl_of h, hv]
  rfl
theorem sW_Is {s : State} {c13 : ClassId} {s13 : Nat → Nat} {a j : Nat} {c : Cell} {v : Int32} (h : s.heap[a]? = some c) (ht : (sT s c13 s13 a).1 = 13) (hv : c.slots[s13 j]? = some (.int v)) : wI (sW s c13 s13) a j = v := by
  show iO (cl? s a).slots[if (sT s c13 s13 a).1 = 13 then s13 j else j]? = v
  rw [if_pos ht, cl_of h, hv]
  rfl
theorem sW_P {s : State} {c13 : ClassId} {s13 : Nat → Nat} {a j t : Nat} {c : Cell} (h : s.heap[a]? = some c) (hv : c.slots[s13 j]? = some (.ref t)) : wP (sW s c13 s13) a j = some t := by
  show pO (cl? s a).slots[s13 j]? = some t
  rw [cl_of h, hv]
  rfl
def stE (j : Nat) : Term := match j with
  | 0 => .static "RowMarshal$Numbers" "WIDER" "[I"
  | 1 => .static "java/lang/Integer" "DigitOnes" "[B"
  | 2 => .static "java/lang/Integer" "DigitTens" "[B"
  | _ => .static "jdk/internal/util/Preconditions" "SIOOBE_FORMATTER" "Ljava/util/function/BiFunction;"
noncomputable def sA (s : State) (args : Array Value) (c13 : ClassId) (s13 : Nat → Nat) (o i : Nat) : Nat :=
  if o = 1000 then rO ((stE i).eval args s none [] s) else if o = 1001 then (match (stE i).eval args s none [] s with | some (.ref _) => 0 | _ => 1) else if o = 2000 then (cl? s i).cls else if o = 2001 then (sT s c13 s13 i).1 else rO ((oTm o i).eval args s none [] s)
theorem sW_rep {g : Ge} {s : State} {c13 : ClassId} {s13 : Nat → Nat} (hB : gB g = s.heap.size) (hc : cC g 13 = c13) (hs : cS g 13 = s13) (h0 : ∀ a, gA g 2000 a = (cl? s a).cls) (h1 : ∀ a, gA g 2001 a = (sT s c13 s13 a).1) : Rep g (sW s c13 s13) s.heap := by
  refine ⟨rfl, Nat.le_of_eq hB, fun a => ⟨fun hl => ?_, fun hl1 hl2 => ?_⟩⟩
  · rw [sW_sh] at hl ⊢
    rcases sT_inv (a := a) (s := s) (c13 := c13) (s13 := s13) (by omega) with ⟨e, -⟩ | ⟨e, -⟩ | ⟨e, h⟩
    · rw [e] at hl
      exact absurd hl (show ¬ 100 < 100 by decide)
    · rw [e] at hl
      exact absurd hl (show ¬ 103 < 100 by decide)
    · have ha := h.lt
      obtain ⟨c, e1, e2, e3, e4, ⟨t, e5⟩, v, e6⟩ := h
      rw [e]
      refine ⟨(RJ0, TJ0, 4), c, rfl, e1, e2.trans hc.symm, e3, e4, fun z => absurd z (by omega), fun k hk hor => ?_⟩
      have hk2 : k < 2 := by
        rcases hor with z | z | z
        · omega
        · exact absurd rfl z
        · exact z
      rw [hs]
      have h9 : k = 0 ∨ k = 1 := by omega
      rcases h9 with rfl | rfl
      · rw [e5, sW_P e1 e5]
        rfl
      · rw [e6, sW_Is e1 (by rw [e]) e6]
        rfl
  · rw [sW_sh] at hl1 hl2 ⊢
    have fin : ∀ (ty : FieldType) (tg n : Nat), ek tg = 0 → ¬ tg = 13 → sT s c13 s13 a = (tg, n) → isA s ty a n → cAr g (sW s c13 s13) s.heap a tg n := fun ty tg n hek htg e h => by
      have ha := h.lt
      obtain ⟨c, e1, e2, e3, e4, e5, e6, e7⟩ := h
      refine ⟨c, e1, e2.1, e3, e5, e6, fun j hj => ?_, fun z => absurd z (by omega), fun _ => ⟨by rw [h0, cl_of e1], by rw [h1, e]⟩⟩
      obtain ⟨v, hv⟩ := e7 j hj
      rw [hv, hek, sW_I e1 (by rw [e]; exact htg) hv]
      rfl
    rcases sT_inv (a := a) (s := s) (c13 := c13) (s13 := s13) hl2 with ⟨e, h⟩ | ⟨e, h⟩ | ⟨e, -⟩
    · have := fin _ 100 _ rfl (show ¬ 100 = 13 by decide) e h
      rw [show (sT s c13 s13 a).1 = 100 from by rw [e]]
      exact this
    · have := fin _ 103 _ rfl (show ¬ 103 = 13 by decide) e h
      rw [show (sT s c13 s13 a).1 = 103 from by rw [e]]
      exact this
    · rw [e] at hl1
      exact absurd hl1 (by decide)
theorem isA.of_T {s : State} {ty : FieldType} {t N : Nat} {f : Nat → Int32} {A : Nat → Prop} (hN : N < 2 ^ 31) (h : va_T ty t N (fun j => .int (f j)) A s s.heap) : isA s ty t N ∧ ∃ c : Cell, s.heap[t]? = some c ∧ ∀ j, j < N → c.slots[j]? = some (.int (f j)) := by
  obtain ⟨c, h1, h2, h3, h4, h5, h6, -⟩ := h
  exact ⟨⟨c, h1, h2, h3, by unfold lenC; rw [h5]; exact (Int32.toNatClampNeg_ofNat_of_lt hN).symm, h4, h5, fun j hj => ⟨_, h6 j hj⟩⟩, c, h1, h6⟩
