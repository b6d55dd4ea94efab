/-! the natives' words, by program -/
def natY (m : Nat) : MethodName := match m with
  | 2 => arraycopyName
  | 3 => ⟨"java/lang/Double", "doubleToRawLongBits", "(D)J"⟩
  | 4 => ⟨"java/lang/Double", "longBitsToDouble", "(J)D"⟩
  | 5 => ⟨"java/lang/Float", "floatToRawIntBits", "(F)I"⟩
  | _ => ⟨"java/lang/Float", "intBitsToFloat", "(I)F"⟩
def natC (m : Nat) : String := match m with
  | 2 => "java/lang/System"
  | 3 => "java/lang/Double"
  | 4 => "java/lang/Double"
  | _ => "java/lang/Float"
def natWords (o i m : Nat) : List Cond := match m with
  | 1 => [.methodLink (oN o) i Lib.objectInit, .instanceMethod Lib.objectInit, .code Lib.objectInit ⟨#[0xb1]⟩ 1 none]
  | 7 => [.methodLink (oN o) i ⟨"[B", "clone", "()Ljava/lang/Object;"⟩, .sameMethod "[B" "java/lang/Object" "clone" "()Ljava/lang/Object;", .native ⟨"java/lang/Object", "clone", "()Ljava/lang/Object;"⟩, .instanceMethod ⟨"java/lang/Object", "clone", "()Ljava/lang/Object;"⟩, .selects "[B" ⟨"[B", "clone", "()Ljava/lang/Object;"⟩ ⟨"java/lang/Object", "clone", "()Ljava/lang/Object;"⟩]
  | m => [.methodLink (oN o) i (natY m), .native (natY m), .static (natY m), .initialized (natC m)]
def natI : List (List Nat) := [[1050, 1033, 1034], [3114, 1033, 1034], [1118, 1033, 1034], [1201, 1033, 1034], [1044, 1033, 1034], [1067, 1033, 1034], [2051, 1033, 1034], [6010, 4023, 4022, 1025], [2222, 1033, 1034], [1177, 1033, 1034], [3155, 1033, 1034], [1032, 1033, 1034], [5023, 4023, 4022, 1025], [6047, 1033, 1034], [7052, 7054, 7053, 1012], [8119, 8121, 8120, 1013], [4140, 1033, 1034], [4100, 4023, 4022, 1025], [3204, 1033, 1034], [4021, 4023, 4022, 1025], [4013, 4014, 4015, 4016, 4017], [7061, 7063, 7062, 1013], [7074, 7076, 7075, 1012]]
theorem natT_c : natT.length = natI.length ∧ ((natT.zip natI).all fun q => ckL q.2 (natWords q.1.1 q.1.2.1 q.1.2.2)) = true := by decide +kernel
theorem natT_ok {q : Nat × Nat × Nat} (h : q ∈ natT) : ∀ w ∈ natWords q.1 q.2.1 q.2.2, w ∈ GL := by
  obtain ⟨i, hi⟩ := List.getElem?_of_mem h
  have hl : i < natT.length := (List.getElem?_eq_some_iff.mp hi).1
  have hl2 : i < natI.length := by rw [← natT_c.1]; exact hl
  have h3 : (natT.zip natI)[i]? = some (q, natI[i]) := by
    rw [List.getElem?_zip_eq_some]
    exact ⟨hi, List.getElem?_eq_getElem hl2⟩
  exact ckL_ok (List.all_eq_true.mp natT_c.2 _ (List.mem_of_getElem? h3))
theorem plN_ok {o i m : Nat} (h : plN o i = m) (hm : m ≠ 0) : ∀ w ∈ natWords o i m, w ∈ GL := by
  unfold plN at h
  cases hf : natT.find? (fun q => Nat.beq q.1 o && Nat.beq q.2.1 i) with
  | none => rw [hf] at h; exact absurd h.symm hm
  | some e =>
    rw [hf] at h
    have hmm := List.mem_of_find?_eq_some hf
    have hp := List.find?_some hf
    simp only [Bool.and_eq_true] at hp
    have h1 := Nat.eq_of_beq_eq_true hp.1
    have h2 := Nat.eq_of_beq_eq_true hp.2
    have h3 : e.2.2 = m := h
    have := natT_ok hmm
    rw [h1, h2, h3] at this
    exact this
theorem pn_0_3 : plN 0 3 = 1 := by decide +kernel
theorem pn_1_3 : plN 1 3 = 1 := by decide +kernel
theorem pn_2_3 : plN 2 3 = 1 := by decide +kernel
theorem pn_3_3 : plN 3 3 = 1 := by decide +kernel
theorem pn_5_3 : plN 5 3 = 1 := by decide +kernel
theorem pn_6_3 : plN 6 3 = 1 := by decide +kernel
theorem pn_7_3 : plN 7 3 = 1 := by decide +kernel
theorem pn_7_39 : plN 7 39 = 2 := by decide +kernel
theorem pn_8_3 : plN 8 3 = 1 := by decide +kernel
theorem pn_9_3 : plN 9 3 = 1 := by decide +kernel
theorem pn_10_3 : plN 10 3 = 1 := by decide +kernel
theorem pn_11_3 : plN 11 3 = 1 := by decide +kernel
theorem pn_11_326 : plN 11 326 = 2 := by decide +kernel
theorem pn_12_3 : plN 12 3 = 1 := by decide +kernel
theorem pn_12_150 : plN 12 150 = 6 := by decide +kernel
theorem pn_12_429 : plN 12 429 = 4 := by decide +kernel
theorem pn_13_1 : plN 13 1 = 1 := by decide +kernel
theorem pn_13_212 : plN 13 212 = 2 := by decide +kernel
theorem pn_15_3 : plN 15 3 = 1 := by decide +kernel
theorem pn_21_150 : plN 21 150 = 2 := by decide +kernel
theorem pn_21_310 : plN 21 310 = 7 := by decide +kernel
theorem pn_25_134 : plN 25 134 = 3 := by decide +kernel
theorem pn_26_74 : plN 26 74 = 5 := by decide +kernel
