/-! constants and class links, by program -/
def kT : List (Nat × Nat × Int32) := [(1, 31, (-2000000000)), (19, 20, 1073741823), (22, 200, 2147483639), (15, 39, 2147483647), (2, 58, 65535), (26, 77, 2143289344), (12, 271, (-2000000000)), (16, 265, 1431655765), (16, 266, 858993459), (16, 267, 252645135)]
theorem kT_w : ckL [3187, 3212, 4005, 4009, 5027, 7077, 7172, 8078, 8079, 8080] (kT.map fun q => Cond.constant (oN q.1) q.2.1 q.2.2) = true := by decide +kernel
def plkT (o i : Nat) : Option Int32 := (kT.find? fun q => Nat.beq q.1 o && Nat.beq q.2.1 i).map fun q => q.2.2
theorem plkT_ok {o i : Nat} {v : Int32} (h : plkT o i = some v) : Cond.constant (oN o) i v ∈ GL := by
  unfold plkT at h
  cases hf : kT.find? (fun q => Nat.beq q.1 o && Nat.beq q.2.1 i) with
  | none => rw [hf] at h; cases h
  | some e =>
    rw [hf] at h
    have hm := List.mem_of_find?_eq_some hf
    have hp := List.find?_some hf
    simp only [Bool.and_eq_true] at hp
    have h1 := Nat.eq_of_beq_eq_true hp.1
    have h2 := Nat.eq_of_beq_eq_true hp.2
    have h3 : e.2.2 = v := Option.some.inj h
    have := ckL_ok kT_w _ (List.mem_map_of_mem hm)
    rw [h1, h2, h3] at this
    exact this
theorem pkT_1_31 : plkT 1 31 = some (-2000000000) := by decide +kernel
theorem pkT_19_20 : plkT 19 20 = some 1073741823 := by decide +kernel
theorem pkT_22_200 : plkT 22 200 = some 2147483639 := by decide +kernel
theorem pkT_15_39 : plkT 15 39 = some 2147483647 := by decide +kernel
theorem pkT_2_58 : plkT 2 58 = some 65535 := by decide +kernel
theorem pkT_26_77 : plkT 26 77 = some 2143289344 := by decide +kernel
theorem pkT_12_271 : plkT 12 271 = some (-2000000000) := by decide +kernel
theorem pkT_16_265 : plkT 16 265 = some 1431655765 := by decide +kernel
theorem pkT_16_266 : plkT 16 266 = some 858993459 := by decide +kernel
theorem pkT_16_267 : plkT 16 267 = some 252645135 := by decide +kernel
def lT : List (Nat × Nat × Int64) := [(4, 70, (-9223372036854775808)), (4, 32, 255), (4, 72, 8388607), (4, 74, 127), (4, 76, 1023), (4, 68, 2147483648), (11, 126, (-9223372036854775808)), (4, 19, 65535), (4, 34, 2047), (11, 311, 7), (11, 313, 31), (11, 361, 2), (11, 363, 3), (25, 137, 9221120237041090560), (12, 193, (-9223372036854775808)), (12, 158, 255), (12, 160, 2047), (12, 441, 218), (12, 443, 219), (12, 445, 220), (12, 447, 31), (12, 451, 7), (24, 40, 4294967295)]
theorem lT_w : ckL [2125, 2126, 2127, 2128, 2129, 2148, 2153, 2162, 5079, 5230, 5231, 5232, 5233, 7064, 7082, 7219, 8031, 8134, 8135, 8136, 8137, 8138, 8155] (lT.map fun q => Cond.constantLong (oN q.1) q.2.1 q.2.2) = true := by decide +kernel
def pllT (o i : Nat) : Option Int64 := (lT.find? fun q => Nat.beq q.1 o && Nat.beq q.2.1 i).map fun q => q.2.2
theorem pllT_ok {o i : Nat} {v : Int64} (h : pllT o i = some v) : Cond.constantLong (oN o) i v ∈ GL := by
  unfold pllT at h
  cases hf : lT.find? (fun q => Nat.beq q.1 o && Nat.beq q.2.1 i) with
  | none => rw [hf] at h; cases h
  | some e =>
    rw [hf] at h
    have hm := List.mem_of_find?_eq_some hf
    have hp := List.find?_some hf
    simp only [Bool.and_eq_true] at hp
    have h1 := Nat.eq_of_beq_eq_true hp.1
    have h2 := Nat.eq_of_beq_eq_true hp.2
    have h3 : e.2.2 = v := Option.some.inj h
    have := ckL_ok lT_w _ (List.mem_map_of_mem hm)
    rw [h1, h2, h3] at this
    exact this
theorem plT_4_70 : pllT 4 70 = some (-9223372036854775808) := by decide +kernel
theorem plT_4_32 : pllT 4 32 = some 255 := by decide +kernel
theorem plT_4_72 : pllT 4 72 = some 8388607 := by decide +kernel
theorem plT_4_74 : pllT 4 74 = some 127 := by decide +kernel
theorem plT_4_76 : pllT 4 76 = some 1023 := by decide +kernel
theorem plT_4_68 : pllT 4 68 = some 2147483648 := by decide +kernel
theorem plT_11_126 : pllT 11 126 = some (-9223372036854775808) := by decide +kernel
theorem plT_4_19 : pllT 4 19 = some 65535 := by decide +kernel
theorem plT_4_34 : pllT 4 34 = some 2047 := by decide +kernel
theorem plT_11_311 : pllT 11 311 = some 7 := by decide +kernel
theorem plT_11_313 : pllT 11 313 = some 31 := by decide +kernel
theorem plT_11_361 : pllT 11 361 = some 2 := by decide +kernel
theorem plT_11_363 : pllT 11 363 = some 3 := by decide +kernel
theorem plT_25_137 : pllT 25 137 = some 9221120237041090560 := by decide +kernel
theorem plT_12_193 : pllT 12 193 = some (-9223372036854775808) := by decide +kernel
theorem plT_12_158 : pllT 12 158 = some 255 := by decide +kernel
theorem plT_12_160 : pllT 12 160 = some 2047 := by decide +kernel
theorem plT_12_441 : pllT 12 441 = some 218 := by decide +kernel
theorem plT_12_443 : pllT 12 443 = some 219 := by decide +kernel
theorem plT_12_445 : pllT 12 445 = some 220 := by decide +kernel
theorem plT_12_447 : pllT 12 447 = some 31 := by decide +kernel
theorem plT_12_451 : pllT 12 451 = some 7 := by decide +kernel
theorem plT_24_40 : pllT 24 40 = some 4294967295 := by decide +kernel
def cT : List (Nat × Nat × Nat) := [(24, 7, 11), (11, 11, 7), (11, 17, 10), (11, 33, 5), (5, 9, 0), (5, 18, 6), (11, 40, 2), (11, 47, 9), (9, 9, 7), (11, 57, 3), (3, 15, 7), (3, 21, 10), (11, 157, 8), (8, 35, 1), (8, 41, 10), (10, 42, 14), (14, 18, 13), (7, 19, 7), (24, 10, 12)]
def clN (c : Nat) : String := match cls[c]? with
  | some q => q.1
  | none => ""
def clZ (c : Nat) : Nat := match cls[c]? with
  | some q => q.2.2
  | none => 0
theorem cT_w : ckL [1027, 1035, 1037, 1039, 1045, 1062, 1113, 1172, 1178, 1196, 1202, 1203, 2217, 3010, 3150, 3196, 4132, 6008, 6042] (cT.map fun q => Cond.classLink (oN q.1) q.2.1 (clN q.2.2)) = true := by decide +kernel
def nC : List Nat := [0, 1, 2, 3, 5, 6, 7, 8, 9, 10, 11, 12, 13, 14]
theorem nC_i : ckL [1046, 3110, 1114, 1197, 1040, 1063, 2047, 2218, 1173, 3151, 1028, 6043, 4133, 3197] (nC.map fun c => Cond.instantiable (clN c) (clZ c)) = true := by decide +kernel
theorem nC_n : ckL [1003, 1020, 1005, 1007, 1002, 1004, 1009, 1014, 1006, 1015, 1001, 1008, 1016, 1022] (nC.map fun c => Cond.initialized (clN c)) = true := by decide +kernel
def plC (o i : Nat) : Nat := ((cT.find? fun q => Nat.beq q.1 o && Nat.beq q.2.1 i).map fun q => q.2.2).getD 999
theorem plC_ok {o i c : Nat} (h : plC o i = c) (hc : c < 100) : Cond.classLink (oN o) i (clN c) ∈ GL := by
  unfold plC at h
  cases hf : cT.find? (fun q => Nat.beq q.1 o && Nat.beq q.2.1 i) with
  | none => rw [hf] at h; simp at h; omega
  | some e =>
    rw [hf] at h
    have hm := List.mem_of_find?_eq_some hf
    have hp := List.find?_some hf
    simp only [Bool.and_eq_true] at hp
    have h1 := Nat.eq_of_beq_eq_true hp.1
    have h2 := Nat.eq_of_beq_eq_true hp.2
    have h3 : e.2.2 = c := h
    have := ckL_ok cT_w _ (List.mem_map_of_mem hm)
    rw [h1, h2, h3] at this
    exact this
theorem nC_ok {c : Nat} (h : nC.elem c = true) : Cond.instantiable (clN c) (clZ c) ∈ GL ∧ Cond.initialized (clN c) ∈ GL := by
  have hm := List.elem_iff.mp h
  exact ⟨ckL_ok nC_i _ (List.mem_map_of_mem hm), ckL_ok nC_n _ (List.mem_map_of_mem hm)⟩
theorem pc_24_7 : plC 24 7 = 11 := by decide +kernel
theorem pc_11_11 : plC 11 11 = 7 := by decide +kernel
theorem pc_11_17 : plC 11 17 = 10 := by decide +kernel
theorem pc_11_33 : plC 11 33 = 5 := by decide +kernel
theorem pc_5_9 : plC 5 9 = 0 := by decide +kernel
theorem pc_5_18 : plC 5 18 = 6 := by decide +kernel
theorem pc_11_40 : plC 11 40 = 2 := by decide +kernel
theorem pc_11_47 : plC 11 47 = 9 := by decide +kernel
theorem pc_9_9 : plC 9 9 = 7 := by decide +kernel
theorem pc_11_57 : plC 11 57 = 3 := by decide +kernel
theorem pc_3_15 : plC 3 15 = 7 := by decide +kernel
theorem pc_3_21 : plC 3 21 = 10 := by decide +kernel
theorem pc_11_157 : plC 11 157 = 8 := by decide +kernel
theorem pc_8_35 : plC 8 35 = 1 := by decide +kernel
theorem pc_8_41 : plC 8 41 = 10 := by decide +kernel
theorem pc_10_42 : plC 10 42 = 14 := by decide +kernel
theorem pc_14_18 : plC 14 18 = 13 := by decide +kernel
theorem pc_7_19 : plC 7 19 = 7 := by decide +kernel
theorem pc_24_10 : plC 24 10 = 12 := by decide +kernel
def zT : List (Nat × Nat × Nat) := [(4, 15, 0), (13, 38, 1), (13, 1053, 4), (15, 18, 1), (16, 83, 2), (16, 87, 3), (19, 403, 2), (19, 407, 3)]
def stQ (j : Nat) : String × String × String × Bool × Nat × Int32 := (staT[j]?).getD ("", "", "", false, 0, 0)
theorem zT_w : ckL [2110, 3057, 3073, 3205, 4116, 4118, 4126, 4127] (zT.map fun q => Cond.fieldLink (oN q.1) q.2.1 (stQ q.2.2).1 (stQ q.2.2).2.1 (stQ q.2.2).2.2.1) = true := by decide +kernel
theorem zT_i : zT.all (fun q => Nat.blt q.2.2 staT.length) = true := by decide +kernel
def plZ (o i : Nat) : Option Nat := (zT.find? fun q => Nat.beq q.1 o && Nat.beq q.2.1 i).map fun q => q.2.2
theorem plZ_ok {o i j : Nat} (h : plZ o i = some j) : stQ j ∈ staT ∧ Cond.fieldLink (oN o) i (stQ j).1 (stQ j).2.1 (stQ j).2.2.1 ∈ GL := by
  unfold plZ at h
  cases hf : zT.find? (fun q => Nat.beq q.1 o && Nat.beq q.2.1 i) with
  | none => rw [hf] at h; cases h
  | some e =>
    rw [hf] at h
    have hm := List.mem_of_find?_eq_some hf
    have hp := List.find?_some hf
    simp only [Bool.and_eq_true] at hp
    have h1 := Nat.eq_of_beq_eq_true hp.1
    have h2 := Nat.eq_of_beq_eq_true hp.2
    have h3 : e.2.2 = j := Option.some.inj h
    have h5 := List.all_eq_true.mp zT_i _ hm
    have h4 := ckL_ok zT_w _ (List.mem_map_of_mem hm)
    rw [h1, h2, h3] at h4
    rw [h3] at h5
    refine ⟨?_, h4⟩
    have h6 : j < staT.length := by simpa [Nat.blt_eq] using h5
    unfold stQ
    rw [List.getElem?_eq_getElem h6]
    exact List.getElem_mem h6
theorem pz_4_15 : plZ 4 15 = some 0 := by decide +kernel
theorem pz_13_38 : plZ 13 38 = some 1 := by decide +kernel
theorem pz_13_1053 : plZ 13 1053 = some 4 := by decide +kernel
theorem pz_15_18 : plZ 15 18 = some 1 := by decide +kernel
theorem pz_16_83 : plZ 16 83 = some 2 := by decide +kernel
theorem pz_16_87 : plZ 16 87 = some 3 := by decide +kernel
theorem pz_19_403 : plZ 19 403 = some 2 := by decide +kernel
theorem pz_19_407 : plZ 19 407 = some 3 := by decide +kernel
