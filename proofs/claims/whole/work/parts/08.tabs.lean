/-! links, by program; each word by its place among the tables, checked by the kernel -/
def fWord (q : (Nat × Nat) × (Nat × Nat × Nat)) : Cond := Cond.fieldLink (oN q.1.1) q.1.2 (clT q.2.1 q.2.2.1).1 (clT q.2.1 q.2.2.1).2.1 (clT q.2.1 q.2.2.1).2.2.1
def fChk (q : (Nat × Nat) × (Nat × Nat × Nat)) : Bool := (match cls[q.2.1]? with | some r => decide (q.2.2.1 < r.2.2) | none => false) && (fk q.2.1 q.2.2.1 == q.2.2.2)
def flT : List ((Nat × Nat) × (Nat × Nat × Nat)) := [((0, 11), (0, 0, 2)), ((11, 288), (0, 0, 2)), ((0, 15), (0, 1, 0)), ((5, 43), (0, 1, 0)), ((11, 217), (0, 1, 0)), ((6, 9), (6, 0, 0)), ((5, 126), (6, 0, 0)), ((6, 15), (6, 1, 0)), ((5, 129), (6, 1, 0)), ((6, 18), (6, 2, 0)), ((5, 132), (6, 2, 0)), ((6, 21), (6, 3, 0)), ((5, 12), (5, 0, 2)), ((11, 213), (5, 0, 2)), ((5, 21), (5, 1, 2)), ((11, 264), (5, 1, 2)), ((5, 25), (5, 2, 2)), ((5, 29), (5, 3, 2)), ((11, 268), (5, 3, 2)), ((5, 33), (5, 4, 0)), ((11, 200), (5, 4, 0)), ((5, 37), (5, 5, 0)), ((11, 203), (5, 5, 0)), ((5, 40), (5, 6, 0)), ((11, 206), (5, 6, 0)), ((2, 9), (2, 0, 0)), ((11, 231), (2, 0, 0)), ((2, 15), (2, 1, 0)), ((11, 232), (2, 1, 0)), ((2, 18), (2, 2, 0)), ((11, 235), (2, 2, 0)), ((2, 21), (2, 3, 0)), ((2, 24), (2, 4, 0)), ((11, 251), (2, 4, 0)), ((2, 27), (2, 5, 2)), ((9, 45), (2, 5, 2)), ((2, 31), (2, 6, 2)), ((9, 59), (2, 6, 2)), ((2, 37), (2, 7, 2)), ((9, 72), (2, 7, 2)), ((2, 42), (2, 8, 2)), ((9, 76), (2, 8, 2)), ((2, 45), (2, 9, 2)), ((2, 48), (2, 10, 0)), ((2, 51), (2, 11, 0)), ((2, 54), (2, 12, 1)), ((9, 11), (9, 0, 2)), ((11, 248), (9, 0, 2)), ((9, 17), (9, 1, 0)), ((11, 242), (9, 1, 0)), ((9, 21), (9, 2, 0)), ((11, 243), (9, 2, 0)), ((9, 24), (9, 3, 0)), ((11, 244), (9, 3, 0)), ((3, 9), (3, 0, 0)), ((11, 334), (3, 0, 0)), ((3, 17), (3, 1, 2)), ((11, 315), (3, 1, 2)), ((3, 23), (3, 2, 2)), ((11, 320), (3, 2, 2)), ((3, 27), (3, 3, 2)), ((11, 325), (3, 3, 2)), ((3, 31), (3, 4, 0)), ((11, 332), (3, 4, 0)), ((3, 35), (3, 5, 0)), ((11, 333), (3, 5, 0)), ((11, 13), (11, 0, 2)), ((11, 19), (11, 1, 2)), ((11, 23), (11, 2, 2)), ((11, 27), (11, 3, 2)), ((11, 30), (11, 4, 2)), ((11, 36), (11, 5, 2)), ((11, 43), (11, 6, 2)), ((11, 50), (11, 7, 2)), ((11, 54), (11, 8, 2)), ((11, 60), (11, 9, 2)), ((11, 66), (11, 10, 2)), ((11, 70), (11, 11, 0)), ((11, 74), (11, 12, 0)), ((11, 77), (11, 13, 0)), ((11, 80), (11, 14, 0)), ((11, 83), (11, 15, 1)), ((7, 18), (7, 0, 0)), ((5, 88), (7, 0, 0)), ((9, 84), (7, 0, 0)), ((11, 94), (7, 0, 0)), ((7, 24), (7, 1, 2)), ((5, 98), (7, 1, 2)), ((11, 113), (7, 1, 2)), ((7, 28), (7, 2, 2)), ((5, 99), (7, 2, 2)), ((9, 121), (7, 2, 2)), ((11, 116), (7, 2, 2)), ((8, 28), (8, 0, 2)), ((8, 32), (8, 1, 0)), ((8, 9), (8, 2, 0)), ((8, 15), (8, 3, 0)), ((8, 18), (8, 4, 0)), ((8, 22), (8, 5, 0)), ((8, 25), (8, 6, 0)), ((11, 166), (8, 6, 0)), ((1, 9), (1, 0, 0)), ((9, 36), (1, 0, 0)), ((5, 61), (1, 0, 0)), ((10, 37), (1, 0, 0)), ((11, 245), (1, 0, 0)), ((1, 15), (1, 1, 0)), ((9, 66), (1, 1, 0)), ((5, 93), (1, 1, 0)), ((2, 118), (1, 1, 0)), ((11, 259), (1, 1, 0)), ((1, 18), (1, 2, 0)), ((9, 63), (1, 2, 0)), ((5, 91), (1, 2, 0)), ((2, 109), (1, 2, 0)), ((1, 21), (1, 3, 0)), ((5, 80), (1, 3, 0)), ((9, 103), (1, 3, 0)), ((2, 103), (1, 3, 0)), ((1, 25), (1, 4, 0)), ((9, 107), (1, 4, 0)), ((1, 28), (1, 5, 0)), ((9, 110), (1, 5, 0)), ((10, 9), (10, 0, 2)), ((9, 32), (10, 0, 2)), ((5, 57), (10, 0, 2)), ((2, 82), (10, 0, 2)), ((11, 175), (10, 0, 2)), ((10, 15), (10, 1, 0)), ((9, 27), (10, 1, 0)), ((5, 54), (10, 1, 0)), ((2, 79), (10, 1, 0)), ((11, 169), (10, 1, 0)), ((15, 15), (14, 0, 2)), ((15, 22), (14, 1, 0)), ((13, 1048), (14, 2, 0)), ((15, 79), (14, 3, 0)), ((13, 9), (13, 0, 2)), ((13, 15), (13, 1, 0)), ((12, 9), (12, 0, 2)), ((12, 15), (12, 1, 2)), ((12, 18), (12, 2, 2)), ((12, 21), (12, 3, 2)), ((12, 24), (12, 4, 2)), ((12, 199), (12, 5, 0)), ((12, 28), (12, 6, 2)), ((12, 31), (12, 7, 2)), ((12, 34), (12, 8, 2)), ((12, 37), (12, 9, 2)), ((12, 40), (12, 10, 2)), ((12, 43), (12, 11, 2)), ((12, 46), (12, 12, 2)), ((12, 353), (12, 13, 0)), ((12, 49), (12, 14, 2)), ((12, 202), (12, 15, 0)), ((12, 52), (12, 16, 2)), ((12, 272), (12, 17, 0)), ((12, 55), (12, 18, 2)), ((12, 58), (12, 19, 0)), ((12, 189), (12, 20, 1)), ((12, 342), (12, 21, 0)), ((12, 62), (12, 22, 2)), ((12, 65), (12, 23, 2)), ((12, 453), (12, 24, 0)), ((12, 456), (12, 25, 0)), ((12, 459), (12, 26, 0)), ((12, 68), (12, 27, 2)), ((12, 71), (12, 28, 2)), ((12, 74), (12, 29, 2)), ((12, 77), (12, 30, 2)), ((12, 80), (12, 31, 2)), ((12, 83), (12, 32, 2)), ((12, 86), (12, 33, 2)), ((12, 89), (12, 34, 2)), ((12, 205), (12, 35, 0)), ((12, 92), (12, 36, 2)), ((12, 95), (12, 37, 2)), ((12, 98), (12, 38, 2)), ((12, 101), (12, 39, 2)), ((12, 104), (12, 40, 2)), ((12, 107), (12, 41, 2)), ((12, 290), (12, 42, 0)), ((12, 293), (12, 43, 0)), ((12, 296), (12, 44, 0)), ((12, 299), (12, 45, 0)), ((12, 110), (12, 46, 2)), ((12, 113), (12, 47, 2)), ((12, 309), (12, 48, 0)), ((12, 312), (12, 49, 0)), ((12, 315), (12, 50, 0)), ((12, 318), (12, 51, 0)), ((12, 360), (12, 52, 0)), ((12, 363), (12, 53, 0)), ((12, 366), (12, 54, 0)), ((12, 369), (12, 55, 0)), ((12, 327), (12, 56, 0)), ((12, 330), (12, 57, 0)), ((12, 116), (12, 58, 2)), ((12, 119), (12, 59, 2)), ((12, 122), (12, 60, 2)), ((12, 125), (12, 61, 2)), ((12, 128), (12, 62, 2)), ((12, 131), (12, 63, 2)), ((12, 399), (12, 64, 1))]
def flI : List Nat := [1051, 1052, 1053, 1054, 1055, 1068, 1069, 1070, 1071, 1072, 1073, 1074, 1084, 1085, 1086, 1087, 1088, 1089, 1090, 1091, 1092, 1093, 1094, 1095, 1096, 1123, 1124, 1125, 1126, 1127, 1128, 1129, 1130, 1131, 1132, 1133, 1134, 1135, 1136, 1137, 1138, 1139, 1140, 1141, 1142, 1143, 1179, 1180, 1181, 1182, 1183, 1184, 1185, 1186, 1204, 1205, 1206, 1207, 1208, 1209, 1210, 1211, 1212, 1213, 1214, 1215, 1230, 1231, 1232, 1233, 1234, 1235, 1236, 1237, 1238, 1239, 2000, 2001, 2002, 2003, 2004, 2005, 2058, 2059, 2060, 2061, 2062, 2063, 2064, 2065, 2066, 2067, 2068, 2223, 2224, 2225, 2226, 2227, 2228, 2229, 2230, 3115, 3116, 3117, 3118, 3119, 3120, 3121, 3122, 3123, 3124, 3125, 3126, 3127, 3128, 3129, 3130, 3131, 3132, 3133, 3134, 3135, 3136, 3156, 3157, 3158, 3159, 3160, 3161, 3162, 3163, 3164, 3165, 3213, 3214, 3215, 3216, 4174, 4175, 6048, 6049, 6050, 6051, 6052, 6053, 6054, 6055, 6056, 6057, 6058, 6059, 6060, 6061, 6062, 6063, 6064, 6065, 6066, 6067, 6068, 6069, 6070, 6071, 6072, 6073, 6074, 6075, 6076, 6077, 6078, 6079, 6080, 6081, 6082, 6083, 6084, 6085, 6086, 6087, 6088, 6089, 6090, 6091, 6092, 6093, 6094, 6095, 6096, 6097, 6098, 6099, 6100, 6101, 6102, 6103, 6104, 6105, 6106, 6107, 6108, 6109, 6110, 6111, 6112]
theorem flT_w : ckL flI (flT.map fWord) = true := by decide +kernel
theorem flT_c : flT.all fChk = true := by decide +kernel
def plF (o i : Nat) : Nat × Nat × Nat := ((flT.find? fun q => q.1.1 == o && q.1.2 == i).map Prod.snd).getD (999, 0, 0)
theorem plF_ok {o i c k t : Nat} (h : plF o i = (c, k, t)) (hc : c < 100) : ∃ q : vw_C, cls[c]? = some q ∧ k < q.2.2 ∧ fk c k = t ∧ Cond.fieldLink (oN o) i (q.2.1 k).1 (q.2.1 k).2.1 (q.2.1 k).2.2.1 ∈ GL := by
  unfold plF at h
  cases hf : flT.find? (fun q => q.1.1 == o && q.1.2 == i) with
  | none =>
    rw [hf] at h
    simp at h
    omega
  | some e =>
    rw [hf] at h
    have hm := List.mem_of_find?_eq_some hf
    have hp := List.find?_some hf
    simp only [Bool.and_eq_true, beq_iff_eq] at hp
    obtain ⟨⟨o1, i1⟩, c1, k1, t1⟩ := e
    simp at h hp
    obtain ⟨rfl, rfl⟩ := hp
    obtain ⟨rfl, rfl, rfl⟩ := h
    have h1 := List.all_eq_true.mp flT_c _ hm
    have h2 := ckL_ok flT_w _ (List.mem_map_of_mem hm)
    unfold fChk at h1
    unfold fWord clT at h2
    cases hq : cls[c1]? with
    | none => simp [hq] at h1
    | some q =>
      simp only [hq, Bool.and_eq_true, decide_eq_true_eq, beq_iff_eq] at h1 h2
      exact ⟨q, rfl, h1.1, h1.2, h2⟩
theorem pf_0_11 : plF 0 11 = (0, 0, 2) := by decide +kernel
theorem pf_11_288 : plF 11 288 = (0, 0, 2) := by decide +kernel
theorem pf_0_15 : plF 0 15 = (0, 1, 0) := by decide +kernel
theorem pf_5_43 : plF 5 43 = (0, 1, 0) := by decide +kernel
theorem pf_11_217 : plF 11 217 = (0, 1, 0) := by decide +kernel
theorem pf_6_9 : plF 6 9 = (6, 0, 0) := by decide +kernel
theorem pf_5_126 : plF 5 126 = (6, 0, 0) := by decide +kernel
theorem pf_6_15 : plF 6 15 = (6, 1, 0) := by decide +kernel
theorem pf_5_129 : plF 5 129 = (6, 1, 0) := by decide +kernel
theorem pf_6_18 : plF 6 18 = (6, 2, 0) := by decide +kernel
theorem pf_5_132 : plF 5 132 = (6, 2, 0) := by decide +kernel
theorem pf_6_21 : plF 6 21 = (6, 3, 0) := by decide +kernel
theorem pf_5_12 : plF 5 12 = (5, 0, 2) := by decide +kernel
theorem pf_11_213 : plF 11 213 = (5, 0, 2) := by decide +kernel
theorem pf_5_21 : plF 5 21 = (5, 1, 2) := by decide +kernel
theorem pf_11_264 : plF 11 264 = (5, 1, 2) := by decide +kernel
theorem pf_5_25 : plF 5 25 = (5, 2, 2) := by decide +kernel
theorem pf_5_29 : plF 5 29 = (5, 3, 2) := by decide +kernel
theorem pf_11_268 : plF 11 268 = (5, 3, 2) := by decide +kernel
theorem pf_5_33 : plF 5 33 = (5, 4, 0) := by decide +kernel
theorem pf_11_200 : plF 11 200 = (5, 4, 0) := by decide +kernel
theorem pf_5_37 : plF 5 37 = (5, 5, 0) := by decide +kernel
theorem pf_11_203 : plF 11 203 = (5, 5, 0) := by decide +kernel
theorem pf_5_40 : plF 5 40 = (5, 6, 0) := by decide +kernel
theorem pf_11_206 : plF 11 206 = (5, 6, 0) := by decide +kernel
theorem pf_2_9 : plF 2 9 = (2, 0, 0) := by decide +kernel
theorem pf_11_231 : plF 11 231 = (2, 0, 0) := by decide +kernel
theorem pf_2_15 : plF 2 15 = (2, 1, 0) := by decide +kernel
theorem pf_11_232 : plF 11 232 = (2, 1, 0) := by decide +kernel
theorem pf_2_18 : plF 2 18 = (2, 2, 0) := by decide +kernel
theorem pf_11_235 : plF 11 235 = (2, 2, 0) := by decide +kernel
theorem pf_2_21 : plF 2 21 = (2, 3, 0) := by decide +kernel
theorem pf_2_24 : plF 2 24 = (2, 4, 0) := by decide +kernel
theorem pf_11_251 : plF 11 251 = (2, 4, 0) := by decide +kernel
theorem pf_2_27 : plF 2 27 = (2, 5, 2) := by decide +kernel
theorem pf_9_45 : plF 9 45 = (2, 5, 2) := by decide +kernel
theorem pf_2_31 : plF 2 31 = (2, 6, 2) := by decide +kernel
theorem pf_9_59 : plF 9 59 = (2, 6, 2) := by decide +kernel
theorem pf_2_37 : plF 2 37 = (2, 7, 2) := by decide +kernel
theorem pf_9_72 : plF 9 72 = (2, 7, 2) := by decide +kernel
theorem pf_2_42 : plF 2 42 = (2, 8, 2) := by decide +kernel
theorem pf_9_76 : plF 9 76 = (2, 8, 2) := by decide +kernel
theorem pf_2_45 : plF 2 45 = (2, 9, 2) := by decide +kernel
theorem pf_2_48 : plF 2 48 = (2, 10, 0) := by decide +kernel
theorem pf_2_51 : plF 2 51 = (2, 11, 0) := by decide +kernel
theorem pf_2_54 : plF 2 54 = (2, 12, 1) := by decide +kernel
theorem pf_9_11 : plF 9 11 = (9, 0, 2) := by decide +kernel
theorem pf_11_248 : plF 11 248 = (9, 0, 2) := by decide +kernel
theorem pf_9_17 : plF 9 17 = (9, 1, 0) := by decide +kernel
theorem pf_11_242 : plF 11 242 = (9, 1, 0) := by decide +kernel
theorem pf_9_21 : plF 9 21 = (9, 2, 0) := by decide +kernel
theorem pf_11_243 : plF 11 243 = (9, 2, 0) := by decide +kernel
theorem pf_9_24 : plF 9 24 = (9, 3, 0) := by decide +kernel
theorem pf_11_244 : plF 11 244 = (9, 3, 0) := by decide +kernel
theorem pf_3_9 : plF 3 9 = (3, 0, 0) := by decide +kernel
theorem pf_11_334 : plF 11 334 = (3, 0, 0) := by decide +kernel
theorem pf_3_17 : plF 3 17 = (3, 1, 2) := by decide +kernel
theorem pf_11_315 : plF 11 315 = (3, 1, 2) := by decide +kernel
theorem pf_3_23 : plF 3 23 = (3, 2, 2) := by decide +kernel
theorem pf_11_320 : plF 11 320 = (3, 2, 2) := by decide +kernel
theorem pf_3_27 : plF 3 27 = (3, 3, 2) := by decide +kernel
theorem pf_11_325 : plF 11 325 = (3, 3, 2) := by decide +kernel
theorem pf_3_31 : plF 3 31 = (3, 4, 0) := by decide +kernel
theorem pf_11_332 : plF 11 332 = (3, 4, 0) := by decide +kernel
theorem pf_3_35 : plF 3 35 = (3, 5, 0) := by decide +kernel
theorem pf_11_333 : plF 11 333 = (3, 5, 0) := by decide +kernel
theorem pf_11_13 : plF 11 13 = (11, 0, 2) := by decide +kernel
theorem pf_11_19 : plF 11 19 = (11, 1, 2) := by decide +kernel
theorem pf_11_23 : plF 11 23 = (11, 2, 2) := by decide +kernel
theorem pf_11_27 : plF 11 27 = (11, 3, 2) := by decide +kernel
theorem pf_11_30 : plF 11 30 = (11, 4, 2) := by decide +kernel
theorem pf_11_36 : plF 11 36 = (11, 5, 2) := by decide +kernel
theorem pf_11_43 : plF 11 43 = (11, 6, 2) := by decide +kernel
theorem pf_11_50 : plF 11 50 = (11, 7, 2) := by decide +kernel
theorem pf_11_54 : plF 11 54 = (11, 8, 2) := by decide +kernel
theorem pf_11_60 : plF 11 60 = (11, 9, 2) := by decide +kernel
theorem pf_11_66 : plF 11 66 = (11, 10, 2) := by decide +kernel
theorem pf_11_70 : plF 11 70 = (11, 11, 0) := by decide +kernel
theorem pf_11_74 : plF 11 74 = (11, 12, 0) := by decide +kernel
theorem pf_11_77 : plF 11 77 = (11, 13, 0) := by decide +kernel
theorem pf_11_80 : plF 11 80 = (11, 14, 0) := by decide +kernel
theorem pf_11_83 : plF 11 83 = (11, 15, 1) := by decide +kernel
theorem pf_7_18 : plF 7 18 = (7, 0, 0) := by decide +kernel
theorem pf_5_88 : plF 5 88 = (7, 0, 0) := by decide +kernel
theorem pf_9_84 : plF 9 84 = (7, 0, 0) := by decide +kernel
theorem pf_11_94 : plF 11 94 = (7, 0, 0) := by decide +kernel
theorem pf_7_24 : plF 7 24 = (7, 1, 2) := by decide +kernel
theorem pf_5_98 : plF 5 98 = (7, 1, 2) := by decide +kernel
theorem pf_11_113 : plF 11 113 = (7, 1, 2) := by decide +kernel
theorem pf_7_28 : plF 7 28 = (7, 2, 2) := by decide +kernel
theorem pf_5_99 : plF 5 99 = (7, 2, 2) := by decide +kernel
theorem pf_9_121 : plF 9 121 = (7, 2, 2) := by decide +kernel
theorem pf_11_116 : plF 11 116 = (7, 2, 2) := by decide +kernel
theorem pf_8_28 : plF 8 28 = (8, 0, 2) := by decide +kernel
theorem pf_8_32 : plF 8 32 = (8, 1, 0) := by decide +kernel
theorem pf_8_9 : plF 8 9 = (8, 2, 0) := by decide +kernel
theorem pf_8_15 : plF 8 15 = (8, 3, 0) := by decide +kernel
theorem pf_8_18 : plF 8 18 = (8, 4, 0) := by decide +kernel
theorem pf_8_22 : plF 8 22 = (8, 5, 0) := by decide +kernel
theorem pf_8_25 : plF 8 25 = (8, 6, 0) := by decide +kernel
theorem pf_11_166 : plF 11 166 = (8, 6, 0) := by decide +kernel
theorem pf_1_9 : plF 1 9 = (1, 0, 0) := by decide +kernel
theorem pf_9_36 : plF 9 36 = (1, 0, 0) := by decide +kernel
theorem pf_5_61 : plF 5 61 = (1, 0, 0) := by decide +kernel
theorem pf_10_37 : plF 10 37 = (1, 0, 0) := by decide +kernel
theorem pf_11_245 : plF 11 245 = (1, 0, 0) := by decide +kernel
theorem pf_1_15 : plF 1 15 = (1, 1, 0) := by decide +kernel
theorem pf_9_66 : plF 9 66 = (1, 1, 0) := by decide +kernel
theorem pf_5_93 : plF 5 93 = (1, 1, 0) := by decide +kernel
theorem pf_2_118 : plF 2 118 = (1, 1, 0) := by decide +kernel
theorem pf_11_259 : plF 11 259 = (1, 1, 0) := by decide +kernel
theorem pf_1_18 : plF 1 18 = (1, 2, 0) := by decide +kernel
theorem pf_9_63 : plF 9 63 = (1, 2, 0) := by decide +kernel
theorem pf_5_91 : plF 5 91 = (1, 2, 0) := by decide +kernel
theorem pf_2_109 : plF 2 109 = (1, 2, 0) := by decide +kernel
theorem pf_1_21 : plF 1 21 = (1, 3, 0) := by decide +kernel
theorem pf_5_80 : plF 5 80 = (1, 3, 0) := by decide +kernel
theorem pf_9_103 : plF 9 103 = (1, 3, 0) := by decide +kernel
theorem pf_2_103 : plF 2 103 = (1, 3, 0) := by decide +kernel
theorem pf_1_25 : plF 1 25 = (1, 4, 0) := by decide +kernel
theorem pf_9_107 : plF 9 107 = (1, 4, 0) := by decide +kernel
theorem pf_1_28 : plF 1 28 = (1, 5, 0) := by decide +kernel
theorem pf_9_110 : plF 9 110 = (1, 5, 0) := by decide +kernel
theorem pf_10_9 : plF 10 9 = (10, 0, 2) := by decide +kernel
theorem pf_9_32 : plF 9 32 = (10, 0, 2) := by decide +kernel
theorem pf_5_57 : plF 5 57 = (10, 0, 2) := by decide +kernel
theorem pf_2_82 : plF 2 82 = (10, 0, 2) := by decide +kernel
theorem pf_11_175 : plF 11 175 = (10, 0, 2) := by decide +kernel
theorem pf_10_15 : plF 10 15 = (10, 1, 0) := by decide +kernel
theorem pf_9_27 : plF 9 27 = (10, 1, 0) := by decide +kernel
theorem pf_5_54 : plF 5 54 = (10, 1, 0) := by decide +kernel
theorem pf_2_79 : plF 2 79 = (10, 1, 0) := by decide +kernel
theorem pf_11_169 : plF 11 169 = (10, 1, 0) := by decide +kernel
theorem pf_15_15 : plF 15 15 = (14, 0, 2) := by decide +kernel
theorem pf_15_22 : plF 15 22 = (14, 1, 0) := by decide +kernel
theorem pf_13_1048 : plF 13 1048 = (14, 2, 0) := by decide +kernel
theorem pf_15_79 : plF 15 79 = (14, 3, 0) := by decide +kernel
theorem pf_13_9 : plF 13 9 = (13, 0, 2) := by decide +kernel
theorem pf_13_15 : plF 13 15 = (13, 1, 0) := by decide +kernel
theorem pf_12_9 : plF 12 9 = (12, 0, 2) := by decide +kernel
theorem pf_12_15 : plF 12 15 = (12, 1, 2) := by decide +kernel
theorem pf_12_18 : plF 12 18 = (12, 2, 2) := by decide +kernel
theorem pf_12_21 : plF 12 21 = (12, 3, 2) := by decide +kernel
theorem pf_12_24 : plF 12 24 = (12, 4, 2) := by decide +kernel
theorem pf_12_199 : plF 12 199 = (12, 5, 0) := by decide +kernel
theorem pf_12_28 : plF 12 28 = (12, 6, 2) := by decide +kernel
theorem pf_12_31 : plF 12 31 = (12, 7, 2) := by decide +kernel
theorem pf_12_34 : plF 12 34 = (12, 8, 2) := by decide +kernel
theorem pf_12_37 : plF 12 37 = (12, 9, 2) := by decide +kernel
theorem pf_12_40 : plF 12 40 = (12, 10, 2) := by decide +kernel
theorem pf_12_43 : plF 12 43 = (12, 11, 2) := by decide +kernel
theorem pf_12_46 : plF 12 46 = (12, 12, 2) := by decide +kernel
theorem pf_12_353 : plF 12 353 = (12, 13, 0) := by decide +kernel
theorem pf_12_49 : plF 12 49 = (12, 14, 2) := by decide +kernel
theorem pf_12_202 : plF 12 202 = (12, 15, 0) := by decide +kernel
theorem pf_12_52 : plF 12 52 = (12, 16, 2) := by decide +kernel
theorem pf_12_272 : plF 12 272 = (12, 17, 0) := by decide +kernel
theorem pf_12_55 : plF 12 55 = (12, 18, 2) := by decide +kernel
theorem pf_12_58 : plF 12 58 = (12, 19, 0) := by decide +kernel
theorem pf_12_189 : plF 12 189 = (12, 20, 1) := by decide +kernel
theorem pf_12_342 : plF 12 342 = (12, 21, 0) := by decide +kernel
theorem pf_12_62 : plF 12 62 = (12, 22, 2) := by decide +kernel
theorem pf_12_65 : plF 12 65 = (12, 23, 2) := by decide +kernel
theorem pf_12_453 : plF 12 453 = (12, 24, 0) := by decide +kernel
theorem pf_12_456 : plF 12 456 = (12, 25, 0) := by decide +kernel
theorem pf_12_459 : plF 12 459 = (12, 26, 0) := by decide +kernel
theorem pf_12_68 : plF 12 68 = (12, 27, 2) := by decide +kernel
theorem pf_12_71 : plF 12 71 = (12, 28, 2) := by decide +kernel
theorem pf_12_74 : plF 12 74 = (12, 29, 2) := by decide +kernel
theorem pf_12_77 : plF 12 77 = (12, 30, 2) := by decide +kernel
theorem pf_12_80 : plF 12 80 = (12, 31, 2) := by decide +kernel
theorem pf_12_83 : plF 12 83 = (12, 32, 2) := by decide +kernel
theorem pf_12_86 : plF 12 86 = (12, 33, 2) := by decide +kernel
theorem pf_12_89 : plF 12 89 = (12, 34, 2) := by decide +kernel
theorem pf_12_205 : plF 12 205 = (12, 35, 0) := by decide +kernel
theorem pf_12_92 : plF 12 92 = (12, 36, 2) := by decide +kernel
theorem pf_12_95 : plF 12 95 = (12, 37, 2) := by decide +kernel
theorem pf_12_98 : plF 12 98 = (12, 38, 2) := by decide +kernel
theorem pf_12_101 : plF 12 101 = (12, 39, 2) := by decide +kernel
theorem pf_12_104 : plF 12 104 = (12, 40, 2) := by decide +kernel
theorem pf_12_107 : plF 12 107 = (12, 41, 2) := by decide +kernel
theorem pf_12_290 : plF 12 290 = (12, 42, 0) := by decide +kernel
theorem pf_12_293 : plF 12 293 = (12, 43, 0) := by decide +kernel
theorem pf_12_296 : plF 12 296 = (12, 44, 0) := by decide +kernel
theorem pf_12_299 : plF 12 299 = (12, 45, 0) := by decide +kernel
theorem pf_12_110 : plF 12 110 = (12, 46, 2) := by decide +kernel
theorem pf_12_113 : plF 12 113 = (12, 47, 2) := by decide +kernel
theorem pf_12_309 : plF 12 309 = (12, 48, 0) := by decide +kernel
theorem pf_12_312 : plF 12 312 = (12, 49, 0) := by decide +kernel
theorem pf_12_315 : plF 12 315 = (12, 50, 0) := by decide +kernel
theorem pf_12_318 : plF 12 318 = (12, 51, 0) := by decide +kernel
theorem pf_12_360 : plF 12 360 = (12, 52, 0) := by decide +kernel
theorem pf_12_363 : plF 12 363 = (12, 53, 0) := by decide +kernel
theorem pf_12_366 : plF 12 366 = (12, 54, 0) := by decide +kernel
theorem pf_12_369 : plF 12 369 = (12, 55, 0) := by decide +kernel
theorem pf_12_327 : plF 12 327 = (12, 56, 0) := by decide +kernel
theorem pf_12_330 : plF 12 330 = (12, 57, 0) := by decide +kernel
theorem pf_12_116 : plF 12 116 = (12, 58, 2) := by decide +kernel
theorem pf_12_119 : plF 12 119 = (12, 59, 2) := by decide +kernel
theorem pf_12_122 : plF 12 122 = (12, 60, 2) := by decide +kernel
theorem pf_12_125 : plF 12 125 = (12, 61, 2) := by decide +kernel
theorem pf_12_128 : plF 12 128 = (12, 62, 2) := by decide +kernel
theorem pf_12_131 : plF 12 131 = (12, 63, 2) := by decide +kernel
theorem pf_12_399 : plF 12 399 = (12, 64, 1) := by decide +kernel
def rcOf (ty : Option FieldType) : Nat := match ty with
  | none => 0
  | some .long => 2
  | some (.object _) => 3
  | some (.array _) => 3
  | some .double => 4
  | some .float => 5
  | some _ => 1
def mxN (y : MethodName) : MethodName := ⟨"java/lang/AbstractStringBuilder", y.name, y.desc⟩
/-- the words that a call of a kind asks -/
def mWords (o i kd : Nat) (M : Mi) : List Cond := match kd with
  | 0 => [.methodLink (oN o) i (mN M), .static (mN M), .initialized (mN M).cls]
  | 1 => [.methodLink (oN o) i (mN M), .instanceMethod (mN M), .selects (mN M).cls (mN M) (mN M), .initialized (mN M).cls]
  | 2 => [.methodLink (oN o) i (mN M), .instanceMethod (mN M), .initialized (mN M).cls]
  | 3 => [.static (mN M), .initialized (mN M).cls]
  | 4 => [.instanceMethod (mN M), .initialized (mN M).cls]
  | 12 => [.methodLink (oN o) i (mN M), .instanceMethod (mN M), .sameMethod (mN M).cls (mN M).cls (mN M).name (mN M).desc, .selects "java/lang/StringBuilder" (mN M) (mN M), .initialized (mN M).cls]
  | 13 => [.methodLink (oN o) i (mN M), .instanceMethod (mN M), .sameMethod (mN M).cls (mN M).cls (mN M).name (mN M).desc, .superclass (oN o) (mN M).cls, .initialized (mN M).cls]
  | _ => [.methodLink (oN o) i (mxN (mN M)), .sameMethod "java/lang/AbstractStringBuilder" "java/lang/AbstractStringBuilder" (mN M).name (mN M).desc, .instanceMethod (mxN (mN M)), .selects "java/lang/StringBuilder" (mxN (mN M)) (mN M), .instanceMethod (mN M), .initialized (mN M).cls]
def mChk (o i kd rc np : Nat) (M : Mi) (is : List Nat) : Bool := ckL is (mWords o i kd M) && (rcOf (mR M) == rc) && decide ((parseMethodDescriptor (mN M).desc).map (fun d => d.parameters.length) = some np) && decide ((mN M).cls ≠ "java/lang/invoke/MethodHandle" ∧ (mN M).cls ≠ "java/lang/invoke/VarHandle") && (!(kd == 3 || kd == 4) || nestT.any (fun q => q.1 == o && q.2.1 == i && decide (q.2.2 = mN M))) && (!(kd == 2 || kd == 4) || (decide ((mN M).name = "<init>") && decide (mR M = none))) && (!(kd == 1) || decide ((cls[mO M]?).map (fun q => q.1) = some (mN M).cls)) && (!(kd == 12) || decide ((mN M).cls = "java/lang/AbstractStringBuilder")) && (!(kd == 13) || decide ((mN M).name ≠ "<init>"))
/-- own, pool entry, kind, kind of answer, how many parameters, the method -/
abbrev Ml : Type := Nat × Nat × Nat × Nat × Nat × Mi
theorem cdJ0_charAt_5068e : Cond.code (mN mJ0_charAt_5068e) (mC mJ0_charAt_5068e) (mL mJ0_charAt_5068e) (mR mJ0_charAt_5068e) ∈ GL := gl_mem 3062 rfl rfl
theorem cdJ0_checkBoundsBeginEnd_23922 : Cond.code (mN mJ0_checkBoundsBeginEnd_23922) (mC mJ0_checkBoundsBeginEnd_23922) (mL mJ0_checkBoundsBeginEnd_23922) (mR mJ0_checkBoundsBeginEnd_23922) ∈ GL := gl_mem 4082 rfl rfl
theorem cdJ0_checkBoundsOffCount_cabcc : Cond.code (mN mJ0_checkBoundsOffCount_cabcc) (mC mJ0_checkBoundsOffCount_cabcc) (mL mJ0_checkBoundsOffCount_cabcc) (mR mJ0_checkBoundsOffCount_cabcc) ∈ GL := gl_mem 4047 rfl rfl
theorem cdJ0_checkIndex_df160 : Cond.code (mN mJ0_checkIndex_df160) (mC mJ0_checkIndex_df160) (mL mJ0_checkIndex_df160) (mR mJ0_checkIndex_df160) ∈ GL := gl_mem 3072 rfl rfl
theorem cdJ0_coder_7d493 : Cond.code (mN mJ0_coder_7d493) (mC mJ0_coder_7d493) (mL mJ0_coder_7d493) (mR mJ0_coder_7d493) ∈ GL := gl_mem 3056 rfl rfl
theorem cdJ0_getBytes_840e7 : Cond.code (mN mJ0_getBytes_840e7) (mC mJ0_getBytes_840e7) (mL mJ0_getBytes_840e7) (mR mJ0_getBytes_840e7) ∈ GL := gl_mem 4099 rfl rfl
theorem cdJ0_init_81219 : Cond.code (mN mJ0_init_81219) (mC mJ0_init_81219) (mL mJ0_init_81219) (mR mJ0_init_81219) ∈ GL := gl_mem 4136 rfl rfl
theorem cdJ0_init_db425 : Cond.code (mN mJ0_init_db425) (mC mJ0_init_db425) (mL mJ0_init_db425) (mR mJ0_init_db425) ∈ GL := gl_mem 4139 rfl rfl
theorem cdJ0_isLatin1_aae02 : Cond.code (mN mJ0_isLatin1_aae02) (mC mJ0_isLatin1_aae02) (mL mJ0_isLatin1_aae02) (mR mJ0_isLatin1_aae02) ∈ GL := gl_mem 3066 rfl rfl
theorem cdJ0_length_8abf5 : Cond.code (mN mJ0_length_8abf5) (mC mJ0_length_8abf5) (mL mJ0_length_8abf5) (mR mJ0_length_8abf5) ∈ GL := gl_mem 3052 rfl rfl
theorem cdJ1_canEncode_fc78d : Cond.code (mN mJ1_canEncode_fc78d) (mC mJ1_canEncode_fc78d) (mL mJ1_canEncode_fc78d) (mR mJ1_canEncode_fc78d) ∈ GL := gl_mem 4031 rfl rfl
theorem cdJ1_charAt_3b067 : Cond.code (mN mJ1_charAt_3b067) (mC mJ1_charAt_3b067) (mL mJ1_charAt_3b067) (mR mJ1_charAt_3b067) ∈ GL := gl_mem 3069 rfl rfl
theorem cdJ1_inflate_0e8fd : Cond.code (mN mJ1_inflate_0e8fd) (mC mJ1_inflate_0e8fd) (mL mJ1_inflate_0e8fd) (mR mJ1_inflate_0e8fd) ∈ GL := gl_mem 4038 rfl rfl
theorem cdJ2_charAt_3b067 : Cond.code (mN mJ2_charAt_3b067) (mC mJ2_charAt_3b067) (mL mJ2_charAt_3b067) (mR mJ2_charAt_3b067) ∈ GL := gl_mem 3080 rfl rfl
theorem cdJ2_checkBoundsBeginEnd_d044e : Cond.code (mN mJ2_checkBoundsBeginEnd_d044e) (mC mJ2_checkBoundsBeginEnd_d044e) (mL mJ2_checkBoundsBeginEnd_d044e) (mR mJ2_checkBoundsBeginEnd_d044e) ∈ GL := gl_mem 4079 rfl rfl
theorem cdJ2_checkBoundsOffCount_d044e : Cond.code (mN mJ2_checkBoundsOffCount_d044e) (mC mJ2_checkBoundsOffCount_d044e) (mL mJ2_checkBoundsOffCount_d044e) (mR mJ2_checkBoundsOffCount_d044e) ∈ GL := gl_mem 4044 rfl rfl
theorem cdJ2_checkIndex_2214a : Cond.code (mN mJ2_checkIndex_2214a) (mC mJ2_checkIndex_2214a) (mL mJ2_checkIndex_2214a) (mR mJ2_checkIndex_2214a) ∈ GL := gl_mem 3083 rfl rfl
theorem cdJ2_coderFromArrayLen_85cad : Cond.code (mN mJ2_coderFromArrayLen_85cad) (mC mJ2_coderFromArrayLen_85cad) (mL mJ2_coderFromArrayLen_85cad) (mR mJ2_coderFromArrayLen_85cad) ∈ GL := gl_mem 4173 rfl rfl
theorem cdJ2_compress_39247 : Cond.code (mN mJ2_compress_39247) (mC mJ2_compress_39247) (mL mJ2_compress_39247) (mR mJ2_compress_39247) ∈ GL := gl_mem 4166 rfl rfl
theorem cdJ2_compress_5af95 : Cond.code (mN mJ2_compress_5af95) (mC mJ2_compress_5af95) (mL mJ2_compress_5af95) (mR mJ2_compress_5af95) ∈ GL := gl_mem 4169 rfl rfl
theorem cdJ2_getChar_3b067 : Cond.code (mN mJ2_getChar_3b067) (mC mJ2_getChar_3b067) (mL mJ2_getChar_3b067) (mR mJ2_getChar_3b067) ∈ GL := gl_mem 3090 rfl rfl
theorem cdJ2_getChars_46870 : Cond.code (mN mJ2_getChars_46870) (mC mJ2_getChars_46870) (mL mJ2_getChars_46870) (mR mJ2_getChars_46870) ∈ GL := gl_mem 4122 rfl rfl
theorem cdJ2_getChars_ba4f3 : Cond.code (mN mJ2_getChars_ba4f3) (mC mJ2_getChars_ba4f3) (mL mJ2_getChars_ba4f3) (mR mJ2_getChars_ba4f3) ∈ GL := gl_mem 4125 rfl rfl
theorem cdJ2_inflate_0e8fd : Cond.code (mN mJ2_inflate_0e8fd) (mC mJ2_inflate_0e8fd) (mL mJ2_inflate_0e8fd) (mR mJ2_inflate_0e8fd) ∈ GL := gl_mem 4041 rfl rfl
theorem cdJ2_length_9d52b : Cond.code (mN mJ2_length_9d52b) (mC mJ2_length_9d52b) (mL mJ2_length_9d52b) (mR mJ2_length_9d52b) ∈ GL := gl_mem 3086 rfl rfl
theorem cdJ2_newBytesFor_77867 : Cond.code (mN mJ2_newBytesFor_77867) (mC mJ2_newBytesFor_77867) (mL mJ2_newBytesFor_77867) (mR mJ2_newBytesFor_77867) ∈ GL := gl_mem 3208 rfl rfl
theorem cdJ2_newBytesLength_0f7a4 : Cond.code (mN mJ2_newBytesLength_0f7a4) (mC mJ2_newBytesLength_0f7a4) (mL mJ2_newBytesLength_0f7a4) (mR mJ2_newBytesLength_0f7a4) ∈ GL := gl_mem 3211 rfl rfl
theorem cdJ2_putCharSB_b72d1 : Cond.code (mN mJ2_putCharSB_b72d1) (mC mJ2_putCharSB_b72d1) (mL mJ2_putCharSB_b72d1) (mR mJ2_putCharSB_b72d1) ∈ GL := gl_mem 4056 rfl rfl
theorem cdJ2_putChar_b72d1 : Cond.code (mN mJ2_putChar_b72d1) (mC mJ2_putChar_b72d1) (mL mJ2_putChar_b72d1) (mR mJ2_putChar_b72d1) ∈ GL := gl_mem 4053 rfl rfl
theorem cdJ2_putCharsAt_cd4e5 : Cond.code (mN mJ2_putCharsAt_cd4e5) (mC mJ2_putCharsAt_cd4e5) (mL mJ2_putCharsAt_cd4e5) (mR mJ2_putCharsAt_cd4e5) ∈ GL := gl_mem 4076 rfl rfl
theorem cdJ3_checkFromIndexSize_8c36e : Cond.code (mN mJ3_checkFromIndexSize_8c36e) (mC mJ3_checkFromIndexSize_8c36e) (mL mJ3_checkFromIndexSize_8c36e) (mR mJ3_checkFromIndexSize_8c36e) ∈ GL := gl_mem 4050 rfl rfl
theorem cdJ3_checkFromToIndex_8c36e : Cond.code (mN mJ3_checkFromToIndex_8c36e) (mC mJ3_checkFromToIndex_8c36e) (mL mJ3_checkFromToIndex_8c36e) (mR mJ3_checkFromToIndex_8c36e) ∈ GL := gl_mem 4085 rfl rfl
theorem cdJ3_checkIndex_8e157 : Cond.code (mN mJ3_checkIndex_8e157) (mC mJ3_checkIndex_8e157) (mL mJ3_checkIndex_8e157) (mR mJ3_checkIndex_8e157) ∈ GL := gl_mem 3077 rfl rfl
theorem cdJ4_append_15ec4 : Cond.code (mN mJ4_append_15ec4) (mC mJ4_append_15ec4) (mL mJ4_append_15ec4) (mR mJ4_append_15ec4) ∈ GL := gl_mem 4066 rfl rfl
theorem cdJ4_append_bf812 : Cond.code (mN mJ4_append_bf812) (mC mJ4_append_bf812) (mL mJ4_append_bf812) (mR mJ4_append_bf812) ∈ GL := gl_mem 4106 rfl rfl
theorem cdJ4_append_cf468 : Cond.code (mN mJ4_append_cf468) (mC mJ4_append_cf468) (mL mJ4_append_cf468) (mR mJ4_append_cf468) ∈ GL := gl_mem 3229 rfl rfl
theorem cdJ4_init_da8c8 : Cond.code (mN mJ4_init_da8c8) (mC mJ4_init_da8c8) (mL mJ4_init_da8c8) (mR mJ4_init_da8c8) ∈ GL := gl_mem 3200 rfl rfl
theorem cdJ4_length_8abf5 : Cond.code (mN mJ4_length_8abf5) (mC mJ4_length_8abf5) (mL mJ4_length_8abf5) (mR mJ4_length_8abf5) ∈ GL := gl_mem 4151 rfl rfl
theorem cdJ4_toString_0e30d : Cond.code (mN mJ4_toString_0e30d) (mC mJ4_toString_0e30d) (mL mJ4_toString_0e30d) (mR mJ4_toString_0e30d) ∈ GL := gl_mem 4131 rfl rfl
theorem cdJ5_append_3fe6f : Cond.code (mN mJ5_append_3fe6f) (mC mJ5_append_3fe6f) (mL mJ5_append_3fe6f) (mR mJ5_append_3fe6f) ∈ GL := gl_mem 3232 rfl rfl
theorem cdJ5_append_c97b9 : Cond.code (mN mJ5_append_c97b9) (mC mJ5_append_c97b9) (mL mJ5_append_c97b9) (mR mJ5_append_c97b9) ∈ GL := gl_mem 4109 rfl rfl
theorem cdJ5_append_cf1ce : Cond.code (mN mJ5_append_cf1ce) (mC mJ5_append_cf1ce) (mL mJ5_append_cf1ce) (mR mJ5_append_cf1ce) ∈ GL := gl_mem 4069 rfl rfl
theorem cdJ5_ensureCapacityInternal_d00df : Cond.code (mN mJ5_ensureCapacityInternal_d00df) (mC mJ5_ensureCapacityInternal_d00df) (mL mJ5_ensureCapacityInternal_d00df) (mR mJ5_ensureCapacityInternal_d00df) ∈ GL := gl_mem 3236 rfl rfl
theorem cdJ5_getValue_6d5f1 : Cond.code (mN mJ5_getValue_6d5f1) (mC mJ5_getValue_6d5f1) (mL mJ5_getValue_6d5f1) (mR mJ5_getValue_6d5f1) ∈ GL := gl_mem 4145 rfl rfl
theorem cdJ5_inflateIfNeededFor_a7421 : Cond.code (mN mJ5_inflateIfNeededFor_a7421) (mC mJ5_inflateIfNeededFor_a7421) (mL mJ5_inflateIfNeededFor_a7421) (mR mJ5_inflateIfNeededFor_a7421) ∈ GL := gl_mem 4094 rfl rfl
theorem cdJ5_init_d00df : Cond.code (mN mJ5_init_d00df) (mC mJ5_init_d00df) (mL mJ5_init_d00df) (mR mJ5_init_d00df) ∈ GL := gl_mem 3203 rfl rfl
theorem cdJ5_isLatin1_aae02 : Cond.code (mN mJ5_isLatin1_aae02) (mC mJ5_isLatin1_aae02) (mL mJ5_isLatin1_aae02) (mR mJ5_isLatin1_aae02) ∈ GL := gl_mem 4028 rfl rfl
theorem cdJ5_length_8abf5 : Cond.code (mN mJ5_length_8abf5) (mC mJ5_length_8abf5) (mL mJ5_length_8abf5) (mR mJ5_length_8abf5) ∈ GL := gl_mem 4153 rfl rfl
theorem cdJ5_newCapacity_0f7a4 : Cond.code (mN mJ5_newCapacity_0f7a4) (mC mJ5_newCapacity_0f7a4) (mL mJ5_newCapacity_0f7a4) (mR mJ5_newCapacity_0f7a4) ∈ GL := gl_mem 4000 rfl rfl
theorem cdJ5_putStringAt_47b60 : Cond.code (mN mJ5_putStringAt_47b60) (mC mJ5_putStringAt_47b60) (mL mJ5_putStringAt_47b60) (mR mJ5_putStringAt_47b60) ∈ GL := gl_mem 4090 rfl rfl
theorem cdJ6_bitCount_0f7a4 : Cond.code (mN mJ6_bitCount_0f7a4) (mC mJ6_bitCount_0f7a4) (mL mJ6_bitCount_0f7a4) (mR mJ6_bitCount_0f7a4) ∈ GL := gl_mem 8077 rfl rfl
theorem cdJ6_getChars_ba4f3 : Cond.code (mN mJ6_getChars_ba4f3) (mC mJ6_getChars_ba4f3) (mL mJ6_getChars_ba4f3) (mR mJ6_getChars_ba4f3) ∈ GL := gl_mem 4115 rfl rfl
theorem cdJ6_stringSize_0f7a4 : Cond.code (mN mJ6_stringSize_0f7a4) (mC mJ6_stringSize_0f7a4) (mL mJ6_stringSize_0f7a4) (mR mJ6_stringSize_0f7a4) ∈ GL := gl_mem 4112 rfl rfl
theorem cdJ7_checkLength_df160 : Cond.code (mN mJ7_checkLength_df160) (mC mJ7_checkLength_df160) (mL mJ7_checkLength_df160) (mR mJ7_checkLength_df160) ∈ GL := gl_mem 4163 rfl rfl
theorem cdJ7_copyOfRangeByte_39247 : Cond.code (mN mJ7_copyOfRangeByte_39247) (mC mJ7_copyOfRangeByte_39247) (mL mJ7_copyOfRangeByte_39247) (mR mJ7_copyOfRangeByte_39247) ∈ GL := gl_mem 4160 rfl rfl
theorem cdJ7_copyOfRange_39247 : Cond.code (mN mJ7_copyOfRange_39247) (mC mJ7_copyOfRange_39247) (mL mJ7_copyOfRange_39247) (mR mJ7_copyOfRange_39247) ∈ GL := gl_mem 4157 rfl rfl
theorem cdJ7_copyOf_9075b : Cond.code (mN mJ7_copyOf_9075b) (mC mJ7_copyOf_9075b) (mL mJ7_copyOf_9075b) (mR mJ7_copyOf_9075b) ∈ GL := gl_mem 4012 rfl rfl
theorem cdJ8_hugeLength_7cf53 : Cond.code (mN mJ8_hugeLength_7cf53) (mC mJ8_hugeLength_7cf53) (mL mJ8_hugeLength_7cf53) (mR mJ8_hugeLength_7cf53) ∈ GL := gl_mem 4008 rfl rfl
theorem cdJ8_newLength_cabcc : Cond.code (mN mJ8_newLength_cabcc) (mC mJ8_newLength_cabcc) (mL mJ8_newLength_cabcc) (mR mJ8_newLength_cabcc) ∈ GL := gl_mem 4003 rfl rfl
theorem cdJ9_abs_067f4 : Cond.code (mN mJ9_abs_067f4) (mC mJ9_abs_067f4) (mL mJ9_abs_067f4) (mR mJ9_abs_067f4) ∈ GL := gl_mem 2187 rfl rfl
theorem cdJ9_abs_0f7a4 : Cond.code (mN mJ9_abs_0f7a4) (mC mJ9_abs_0f7a4) (mL mJ9_abs_0f7a4) (mR mJ9_abs_0f7a4) ∈ GL := gl_mem 7191 rfl rfl
theorem cdJ9_max_7cf53 : Cond.code (mN mJ9_max_7cf53) (mC mJ9_max_7cf53) (mL mJ9_max_7cf53) (mR mJ9_max_7cf53) ∈ GL := gl_mem 2057 rfl rfl
theorem cdJ9_min_7cf53 : Cond.code (mN mJ9_min_7cf53) (mC mJ9_min_7cf53) (mL mJ9_min_7cf53) (mR mJ9_min_7cf53) ∈ GL := gl_mem 2054 rfl rfl
theorem cdJxe99ae_doubleToLongBits_ccdee : Cond.code (mN mJxe99ae_doubleToLongBits_ccdee) (mC mJxe99ae_doubleToLongBits_ccdee) (mL mJxe99ae_doubleToLongBits_ccdee) (mR mJxe99ae_doubleToLongBits_ccdee) ∈ GL := gl_mem 7057 rfl rfl
theorem cdJxe99ae_isNaN_b9ae7 : Cond.code (mN mJxe99ae_isNaN_b9ae7) (mC mJxe99ae_isNaN_b9ae7) (mL mJxe99ae_isNaN_b9ae7) (mR mJxe99ae_isNaN_b9ae7) ∈ GL := gl_mem 7060 rfl rfl
theorem cdJxf58ca_floatToIntBits_5c35a : Cond.code (mN mJxf58ca_floatToIntBits_5c35a) (mC mJxf58ca_floatToIntBits_5c35a) (mL mJxf58ca_floatToIntBits_5c35a) (mR mJxf58ca_floatToIntBits_5c35a) ∈ GL := gl_mem 7070 rfl rfl
theorem cdJxf58ca_isNaN_12338 : Cond.code (mN mJxf58ca_isNaN_12338) (mC mJxf58ca_isNaN_12338) (mL mJxf58ca_isNaN_12338) (mR mJxf58ca_isNaN_12338) ∈ GL := gl_mem 7073 rfl rfl
theorem cdX0_add : Cond.code (mN mX0_add) (mC mX0_add) (mL mX0_add) (mR mX0_add) ∈ GL := gl_mem 4205 rfl rfl
theorem cdX0_addNumber : Cond.code (mN mX0_addNumber) (mC mX0_addNumber) (mL mX0_addNumber) (mR mX0_addNumber) ∈ GL := gl_mem 4231 rfl rfl
theorem cdX0_init : Cond.code (mN mX0_init) (mC mX0_init) (mL mX0_init) (mR mX0_init) ∈ GL := gl_mem 1049 rfl rfl
theorem cdX10_asText : Cond.code (mN mX10_asText) (mC mX10_asText) (mL mX10_asText) (mR mX10_asText) ∈ GL := gl_mem 3195 rfl rfl
theorem cdX10_init : Cond.code (mN mX10_init) (mC mX10_init) (mL mX10_init) (mR mX10_init) ∈ GL := gl_mem 3154 rfl rfl
theorem cdX10_placeOf : Cond.code (mN mX10_placeOf) (mC mX10_placeOf) (mL mX10_placeOf) (mR mX10_placeOf) ∈ GL := gl_mem 5103 rfl rfl
theorem cdX10_word : Cond.code (mN mX10_word) (mC mX10_word) (mL mX10_word) (mR mX10_word) ∈ GL := gl_mem 3035 rfl rfl
theorem cdX11_alike : Cond.code (mN mX11_alike) (mC mX11_alike) (mL mX11_alike) (mR mX11_alike) ∈ GL := gl_mem 5220 rfl rfl
theorem cdX11_back : Cond.code (mN mX11_back) (mC mX11_back) (mL mX11_back) (mR mX11_back) ∈ GL := gl_mem 6025 rfl rfl
theorem cdX11_box : Cond.code (mN mX11_box) (mC mX11_box) (mL mX11_box) (mR mX11_box) ∈ GL := gl_mem 2197 rfl rfl
theorem cdX11_byteOf : Cond.code (mN mX11_byteOf) (mC mX11_byteOf) (mL mX11_byteOf) (mR mX11_byteOf) ∈ GL := gl_mem 2209 rfl rfl
theorem cdX11_bytes : Cond.code (mN mX11_bytes) (mC mX11_bytes) (mL mX11_bytes) (mR mX11_bytes) ∈ GL := gl_mem 5157 rfl rfl
theorem cdX11_cellsKept : Cond.code (mN mX11_cellsKept) (mC mX11_cellsKept) (mL mX11_cellsKept) (mR mX11_cellsKept) ∈ GL := gl_mem 5207 rfl rfl
theorem cdX11_cellsOfUnlikeRows : Cond.code (mN mX11_cellsOfUnlikeRows) (mC mX11_cellsOfUnlikeRows) (mL mX11_cellsOfUnlikeRows) (mR mX11_cellsOfUnlikeRows) ∈ GL := gl_mem 6037 rfl rfl
theorem cdX11_copyRows : Cond.code (mN mX11_copyRows) (mC mX11_copyRows) (mL mX11_copyRows) (mR mX11_copyRows) ∈ GL := gl_mem 6000 rfl rfl
theorem cdX11_copyVersions : Cond.code (mN mX11_copyVersions) (mC mX11_copyVersions) (mL mX11_copyVersions) (mR mX11_copyVersions) ∈ GL := gl_mem 6013 rfl rfl
theorem cdX11_count : Cond.code (mN mX11_count) (mC mX11_count) (mL mX11_count) (mR mX11_count) ∈ GL := gl_mem 6029 rfl rfl
theorem cdX11_cut : Cond.code (mN mX11_cut) (mC mX11_cut) (mL mX11_cut) (mR mX11_cut) ∈ GL := gl_mem 5137 rfl rfl
theorem cdX11_define : Cond.code (mN mX11_define) (mC mX11_define) (mL mX11_define) (mR mX11_define) ∈ GL := gl_mem 2213 rfl rfl
theorem cdX11_digest : Cond.code (mN mX11_digest) (mC mX11_digest) (mL mX11_digest) (mR mX11_digest) ∈ GL := gl_mem 5226 rfl rfl
theorem cdX11_digestOf : Cond.code (mN mX11_digestOf) (mC mX11_digestOf) (mL mX11_digestOf) (mR mX11_digestOf) ∈ GL := gl_mem 5229 rfl rfl
theorem cdX11_drop : Cond.code (mN mX11_drop) (mC mX11_drop) (mL mX11_drop) (mR mX11_drop) ∈ GL := gl_mem 3174 rfl rfl
theorem cdX11_enterNumber : Cond.code (mN mX11_enterNumber) (mC mX11_enterNumber) (mL mX11_enterNumber) (mR mX11_enterNumber) ∈ GL := gl_mem 2166 rfl rfl
theorem cdX11_feed : Cond.code (mN mX11_feed) (mC mX11_feed) (mL mX11_feed) (mR mX11_feed) ∈ GL := gl_mem 2206 rfl rfl
theorem cdX11_field : Cond.code (mN mX11_field) (mC mX11_field) (mL mX11_field) (mR mX11_field) ∈ GL := gl_mem 3182 rfl rfl
theorem cdX11_firstHolder : Cond.code (mN mX11_firstHolder) (mC mX11_firstHolder) (mL mX11_firstHolder) (mR mX11_firstHolder) ∈ GL := gl_mem 6003 rfl rfl
theorem cdX11_fit : Cond.code (mN mX11_fit) (mC mX11_fit) (mL mX11_fit) (mR mX11_fit) ∈ GL := gl_mem 5187 rfl rfl
theorem cdX11_found : Cond.code (mN mX11_found) (mC mX11_found) (mL mX11_found) (mR mX11_found) ∈ GL := gl_mem 5183 rfl rfl
theorem cdX11_frame : Cond.code (mN mX11_frame) (mC mX11_frame) (mL mX11_frame) (mR mX11_frame) ∈ GL := gl_mem 5141 rfl rfl
theorem cdX11_frameSize : Cond.code (mN mX11_frameSize) (mC mX11_frameSize) (mL mX11_frameSize) (mR mX11_frameSize) ∈ GL := gl_mem 5161 rfl rfl
theorem cdX11_holdersOf : Cond.code (mN mX11_holdersOf) (mC mX11_holdersOf) (mL mX11_holdersOf) (mR mX11_holdersOf) ∈ GL := gl_mem 2095 rfl rfl
theorem cdX11_image : Cond.code (mN mX11_image) (mC mX11_image) (mL mX11_image) (mR mX11_image) ∈ GL := gl_mem 5237 rfl rfl
theorem cdX11_init : Cond.code (mN mX11_init) (mC mX11_init) (mL mX11_init) (mR mX11_init) ∈ GL := gl_mem 1031 rfl rfl
theorem cdX11_isFirstOfRow : Cond.code (mN mX11_isFirstOfRow) (mC mX11_isFirstOfRow) (mL mX11_isFirstOfRow) (mR mX11_isFirstOfRow) ∈ GL := gl_mem 6021 rfl rfl
theorem cdX11_isOnWire : Cond.code (mN mX11_isOnWire) (mC mX11_isOnWire) (mL mX11_isOnWire) (mR mX11_isOnWire) ∈ GL := gl_mem 5035 rfl rfl
theorem cdX11_isSlot : Cond.code (mN mX11_isSlot) (mC mX11_isSlot) (mL mX11_isSlot) (mR mX11_isSlot) ∈ GL := gl_mem 2046 rfl rfl
theorem cdX11_isVersion : Cond.code (mN mX11_isVersion) (mC mX11_isVersion) (mL mX11_isVersion) (mR mX11_isVersion) ∈ GL := gl_mem 2216 rfl rfl
theorem cdX11_lackOf : Cond.code (mN mX11_lackOf) (mC mX11_lackOf) (mL mX11_lackOf) (mR mX11_lackOf) ∈ GL := gl_mem 3178 rfl rfl
theorem cdX11_latch : Cond.code (mN mX11_latch) (mC mX11_latch) (mL mX11_latch) (mR mX11_latch) ∈ GL := gl_mem 2152 rfl rfl
theorem cdX11_lax : Cond.code (mN mX11_lax) (mC mX11_lax) (mL mX11_lax) (mR mX11_lax) ∈ GL := gl_mem 2202 rfl rfl
theorem cdX11_load : Cond.code (mN mX11_load) (mC mX11_load) (mL mX11_load) (mR mX11_load) ∈ GL := gl_mem 5031 rfl rfl
theorem cdX11_make : Cond.code (mN mX11_make) (mC mX11_make) (mL mX11_make) (mR mX11_make) ∈ GL := gl_mem 2043 rfl rfl
theorem cdX11_mode : Cond.code (mN mX11_mode) (mC mX11_mode) (mL mX11_mode) (mR mX11_mode) ∈ GL := gl_mem 5165 rfl rfl
theorem cdX11_of : Cond.code (mN mX11_of) (mC mX11_of) (mL mX11_of) (mR mX11_of) ∈ GL := gl_mem 2087 rfl rfl
theorem cdX11_pack : Cond.code (mN mX11_pack) (mC mX11_pack) (mL mX11_pack) (mR mX11_pack) ∈ GL := gl_mem 4194 rfl rfl
theorem cdX11_paper : Cond.code (mN mX11_paper) (mC mX11_paper) (mL mX11_paper) (mR mX11_paper) ∈ GL := gl_mem 4189 rfl rfl
theorem cdX11_poke : Cond.code (mN mX11_poke) (mC mX11_poke) (mL mX11_poke) (mR mX11_poke) ∈ GL := gl_mem 5133 rfl rfl
theorem cdX11_putFrame : Cond.code (mN mX11_putFrame) (mC mX11_putFrame) (mL mX11_putFrame) (mR mX11_putFrame) ∈ GL := gl_mem 5022 rfl rfl
theorem cdX11_read : Cond.code (mN mX11_read) (mC mX11_read) (mL mX11_read) (mR mX11_read) ∈ GL := gl_mem 2099 rfl rfl
theorem cdX11_real : Cond.code (mN mX11_real) (mC mX11_real) (mL mX11_real) (mR mX11_real) ∈ GL := gl_mem 2181 rfl rfl
theorem cdX11_refusedBy : Cond.code (mN mX11_refusedBy) (mC mX11_refusedBy) (mL mX11_refusedBy) (mR mX11_refusedBy) ∈ GL := gl_mem 2115 rfl rfl
theorem cdX11_same : Cond.code (mN mX11_same) (mC mX11_same) (mL mX11_same) (mR mX11_same) ∈ GL := gl_mem 2083 rfl rfl
theorem cdX11_scan : Cond.code (mN mX11_scan) (mC mX11_scan) (mL mX11_scan) (mR mX11_scan) ∈ GL := gl_mem 5179 rfl rfl
theorem cdX11_slotsWith : Cond.code (mN mX11_slotsWith) (mC mX11_slotsWith) (mL mX11_slotsWith) (mR mX11_slotsWith) ∈ GL := gl_mem 6033 rfl rfl
theorem cdX11_smallest : Cond.code (mN mX11_smallest) (mC mX11_smallest) (mL mX11_smallest) (mR mX11_smallest) ∈ GL := gl_mem 5175 rfl rfl
theorem cdX11_spell : Cond.code (mN mX11_spell) (mC mX11_spell) (mL mX11_spell) (mR mX11_spell) ∈ GL := gl_mem 3191 rfl rfl
theorem cdX11_stop : Cond.code (mN mX11_stop) (mC mX11_stop) (mL mX11_stop) (mR mX11_stop) ∈ GL := gl_mem 5125 rfl rfl
theorem cdX11_stopBy : Cond.code (mN mX11_stopBy) (mC mX11_stopBy) (mL mX11_stopBy) (mR mX11_stopBy) ∈ GL := gl_mem 5018 rfl rfl
theorem cdX11_thing : Cond.code (mN mX11_thing) (mC mX11_thing) (mL mX11_thing) (mR mX11_thing) ∈ GL := gl_mem 2079 rfl rfl
theorem cdX11_trip : Cond.code (mN mX11_trip) (mC mX11_trip) (mL mX11_trip) (mR mX11_trip) ∈ GL := gl_mem 5202 rfl rfl
theorem cdX11_unlikeRows : Cond.code (mN mX11_unlikeRows) (mC mX11_unlikeRows) (mL mX11_unlikeRows) (mR mX11_unlikeRows) ∈ GL := gl_mem 6017 rfl rfl
theorem cdX11_versionsThere : Cond.code (mN mX11_versionsThere) (mC mX11_versionsThere) (mL mX11_versionsThere) (mR mX11_versionsThere) ∈ GL := gl_mem 6041 rfl rfl
theorem cdX11_wire : Cond.code (mN mX11_wire) (mC mX11_wire) (mL mX11_wire) (mR mX11_wire) ∈ GL := gl_mem 5129 rfl rfl
theorem cdX11_write : Cond.code (mN mX11_write) (mC mX11_write) (mL mX11_write) (mR mX11_write) ∈ GL := gl_mem 2157 rfl rfl
theorem cdX12_alike : Cond.code (mN mX12_alike) (mC mX12_alike) (mL mX12_alike) (mR mX12_alike) ∈ GL := gl_mem 8125 rfl rfl
theorem cdX12_areAlike : Cond.code (mN mX12_areAlike) (mC mX12_areAlike) (mL mX12_areAlike) (mR mX12_areAlike) ∈ GL := gl_mem 8115 rfl rfl
theorem cdX12_areNoBoxes : Cond.code (mN mX12_areNoBoxes) (mC mX12_areNoBoxes) (mL mX12_areNoBoxes) (mR mX12_areNoBoxes) ∈ GL := gl_mem 8019 rfl rfl
theorem cdX12_areNoNumbers : Cond.code (mN mX12_areNoNumbers) (mC mX12_areNoNumbers) (mL mX12_areNoNumbers) (mR mX12_areNoNumbers) ∈ GL := gl_mem 8035 rfl rfl
theorem cdX12_back : Cond.code (mN mX12_back) (mC mX12_back) (mL mX12_back) (mR mX12_back) ∈ GL := gl_mem 8150 rfl rfl
theorem cdX12_bars : Cond.code (mN mX12_bars) (mC mX12_bars) (mL mX12_bars) (mR mX12_bars) ∈ GL := gl_mem 7041 rfl rfl
theorem cdX12_box : Cond.code (mN mX12_box) (mC mX12_box) (mL mX12_box) (mR mX12_box) ∈ GL := gl_mem 7098 rfl rfl
theorem cdX12_bytes : Cond.code (mN mX12_bytes) (mC mX12_bytes) (mL mX12_bytes) (mR mX12_bytes) ∈ GL := gl_mem 8084 rfl rfl
theorem cdX12_comes : Cond.code (mN mX12_comes) (mC mX12_comes) (mL mX12_comes) (mR mX12_comes) ∈ GL := gl_mem 7090 rfl rfl
theorem cdX12_count : Cond.code (mN mX12_count) (mC mX12_count) (mL mX12_count) (mR mX12_count) ∈ GL := gl_mem 8154 rfl rfl
theorem cdX12_cut : Cond.code (mN mX12_cut) (mC mX12_cut) (mL mX12_cut) (mR mX12_cut) ∈ GL := gl_mem 8070 rfl rfl
theorem cdX12_define : Cond.code (mN mX12_define) (mC mX12_define) (mL mX12_define) (mR mX12_define) ∈ GL := gl_mem 7110 rfl rfl
theorem cdX12_digest : Cond.code (mN mX12_digest) (mC mX12_digest) (mL mX12_digest) (mR mX12_digest) ∈ GL := gl_mem 8129 rfl rfl
theorem cdX12_digestOf : Cond.code (mN mX12_digestOf) (mC mX12_digestOf) (mL mX12_digestOf) (mR mX12_digestOf) ∈ GL := gl_mem 7235 rfl rfl
theorem cdX12_digestOf_ : Cond.code (mN mX12_digestOf_) (mC mX12_digestOf_) (mL mX12_digestOf_) (mR mX12_digestOf_) ∈ GL := gl_mem 8133 rfl rfl
theorem cdX12_drop : Cond.code (mN mX12_drop) (mC mX12_drop) (mL mX12_drop) (mR mX12_drop) ∈ GL := gl_mem 7163 rfl rfl
theorem cdX12_fails : Cond.code (mN mX12_fails) (mC mX12_fails) (mL mX12_fails) (mR mX12_fails) ∈ GL := gl_mem 7207 rfl rfl
theorem cdX12_feed : Cond.code (mN mX12_feed) (mC mX12_feed) (mL mX12_feed) (mR mX12_feed) ∈ GL := gl_mem 7106 rfl rfl
theorem cdX12_field : Cond.code (mN mX12_field) (mC mX12_field) (mL mX12_field) (mR mX12_field) ∈ GL := gl_mem 7167 rfl rfl
theorem cdX12_fieldFor : Cond.code (mN mX12_fieldFor) (mC mX12_fieldFor) (mL mX12_fieldFor) (mR mX12_fieldFor) ∈ GL := gl_mem 8047 rfl rfl
theorem cdX12_fit : Cond.code (mN mX12_fit) (mC mX12_fit) (mL mX12_fit) (mR mX12_fit) ∈ GL := gl_mem 8108 rfl rfl
theorem cdX12_fits : Cond.code (mN mX12_fits) (mC mX12_fits) (mL mX12_fits) (mR mX12_fits) ∈ GL := gl_mem 8051 rfl rfl
theorem cdX12_found : Cond.code (mN mX12_found) (mC mX12_found) (mL mX12_found) (mR mX12_found) ∈ GL := gl_mem 8104 rfl rfl
theorem cdX12_frame : Cond.code (mN mX12_frame) (mC mX12_frame) (mL mX12_frame) (mR mX12_frame) ∈ GL := gl_mem 8074 rfl rfl
theorem cdX12_free : Cond.code (mN mX12_free) (mC mX12_free) (mL mX12_free) (mR mX12_free) ∈ GL := gl_mem 7017 rfl rfl
theorem cdX12_holders : Cond.code (mN mX12_holders) (mC mX12_holders) (mL mX12_holders) (mR mX12_holders) ∈ GL := gl_mem 7021 rfl rfl
theorem cdX12_image : Cond.code (mN mX12_image) (mC mX12_image) (mL mX12_image) (mR mX12_image) ∈ GL := gl_mem 8142 rfl rfl
theorem cdX12_init : Cond.code (mN mX12_init) (mC mX12_init) (mL mX12_init) (mR mX12_init) ∈ GL := gl_mem 6046 rfl rfl
theorem cdX12_is : Cond.code (mN mX12_is) (mC mX12_is) (mL mX12_is) (mR mX12_is) ∈ GL := gl_mem 7125 rfl rfl
theorem cdX12_isCut : Cond.code (mN mX12_isCut) (mC mX12_isCut) (mL mX12_isCut) (mR mX12_isCut) ∈ GL := gl_mem 8015 rfl rfl
theorem cdX12_isDefault : Cond.code (mN mX12_isDefault) (mC mX12_isDefault) (mL mX12_isDefault) (mR mX12_isDefault) ∈ GL := gl_mem 7159 rfl rfl
theorem cdX12_isDigit : Cond.code (mN mX12_isDigit) (mC mX12_isDigit) (mL mX12_isDigit) (mR mX12_isDigit) ∈ GL := gl_mem 7155 rfl rfl
theorem cdX12_isField : Cond.code (mN mX12_isField) (mC mX12_isField) (mL mX12_isField) (mR mX12_isField) ∈ GL := gl_mem 7117 rfl rfl
theorem cdX12_isKind : Cond.code (mN mX12_isKind) (mC mX12_isKind) (mL mX12_isKind) (mR mX12_isKind) ∈ GL := gl_mem 7129 rfl rfl
theorem cdX12_isLost : Cond.code (mN mX12_isLost) (mC mX12_isLost) (mL mX12_isLost) (mR mX12_isLost) ∈ GL := gl_mem 8007 rfl rfl
theorem cdX12_isMany : Cond.code (mN mX12_isMany) (mC mX12_isMany) (mL mX12_isMany) (mR mX12_isMany) ∈ GL := gl_mem 7151 rfl rfl
theorem cdX12_isNoBody : Cond.code (mN mX12_isNoBody) (mC mX12_isNoBody) (mL mX12_isNoBody) (mR mX12_isNoBody) ∈ GL := gl_mem 8011 rfl rfl
theorem cdX12_isNoFrame : Cond.code (mN mX12_isNoFrame) (mC mX12_isNoFrame) (mL mX12_isNoFrame) (mR mX12_isNoFrame) ∈ GL := gl_mem 8003 rfl rfl
theorem cdX12_isNoValue : Cond.code (mN mX12_isNoValue) (mC mX12_isNoValue) (mL mX12_isNoValue) (mR mX12_isNoValue) ∈ GL := gl_mem 8023 rfl rfl
theorem cdX12_isRow : Cond.code (mN mX12_isRow) (mC mX12_isRow) (mL mX12_isRow) (mR mX12_isRow) ∈ GL := gl_mem 8092 rfl rfl
theorem cdX12_isSlot : Cond.code (mN mX12_isSlot) (mC mX12_isSlot) (mL mX12_isSlot) (mR mX12_isSlot) ∈ GL := gl_mem 7010 rfl rfl
theorem cdX12_isValue : Cond.code (mN mX12_isValue) (mC mX12_isValue) (mL mX12_isValue) (mR mX12_isValue) ∈ GL := gl_mem 8030 rfl rfl
theorem cdX12_isVersion : Cond.code (mN mX12_isVersion) (mC mX12_isVersion) (mL mX12_isVersion) (mR mX12_isVersion) ∈ GL := gl_mem 7113 rfl rfl
theorem cdX12_isWhole : Cond.code (mN mX12_isWhole) (mC mX12_isWhole) (mL mX12_isWhole) (mR mX12_isWhole) ∈ GL := gl_mem 8054 rfl rfl
theorem cdX12_isWord : Cond.code (mN mX12_isWord) (mC mX12_isWord) (mL mX12_isWord) (mR mX12_isWord) ∈ GL := gl_mem 7145 rfl rfl
theorem cdX12_latch : Cond.code (mN mX12_latch) (mC mX12_latch) (mL mX12_latch) (mR mX12_latch) ∈ GL := gl_mem 7081 rfl rfl
theorem cdX12_lax : Cond.code (mN mX12_lax) (mC mX12_lax) (mL mX12_lax) (mR mX12_lax) ∈ GL := gl_mem 7102 rfl rfl
theorem cdX12_load : Cond.code (mN mX12_load) (mC mX12_load) (mL mX12_load) (mR mX12_load) ∈ GL := gl_mem 7239 rfl rfl
theorem cdX12_make : Cond.code (mN mX12_make) (mC mX12_make) (mL mX12_make) (mR mX12_make) ∈ GL := gl_mem 7007 rfl rfl
theorem cdX12_mode : Cond.code (mN mX12_mode) (mC mX12_mode) (mL mX12_mode) (mR mX12_mode) ∈ GL := gl_mem 8088 rfl rfl
theorem cdX12_noField : Cond.code (mN mX12_noField) (mC mX12_noField) (mL mX12_noField) (mR mX12_noField) ∈ GL := gl_mem 7171 rfl rfl
theorem cdX12_numberOf : Cond.code (mN mX12_numberOf) (mC mX12_numberOf) (mL mX12_numberOf) (mR mX12_numberOf) ∈ GL := gl_mem 7067 rfl rfl
theorem cdX12_of : Cond.code (mN mX12_of) (mC mX12_of) (mL mX12_of) (mR mX12_of) ∈ GL := gl_mem 7033 rfl rfl
theorem cdX12_pack : Cond.code (mN mX12_pack) (mC mX12_pack) (mL mX12_pack) (mR mX12_pack) ∈ GL := gl_mem 7199 rfl rfl
theorem cdX12_packs : Cond.code (mN mX12_packs) (mC mX12_packs) (mL mX12_packs) (mR mX12_packs) ∈ GL := gl_mem 7203 rfl rfl
theorem cdX12_paper : Cond.code (mN mX12_paper) (mC mX12_paper) (mL mX12_paper) (mR mX12_paper) ∈ GL := gl_mem 7195 rfl rfl
theorem cdX12_poke : Cond.code (mN mX12_poke) (mC mX12_poke) (mL mX12_poke) (mR mX12_poke) ∈ GL := gl_mem 8066 rfl rfl
theorem cdX12_puts : Cond.code (mN mX12_puts) (mC mX12_puts) (mL mX12_puts) (mR mX12_puts) ∈ GL := gl_mem 7218 rfl rfl
theorem cdX12_putsNumbers : Cond.code (mN mX12_putsNumbers) (mC mX12_putsNumbers) (mL mX12_putsNumbers) (mR mX12_putsNumbers) ∈ GL := gl_mem 7223 rfl rfl
theorem cdX12_read : Cond.code (mN mX12_read) (mC mX12_read) (mL mX12_read) (mR mX12_read) ∈ GL := gl_mem 7037 rfl rfl
theorem cdX12_reads : Cond.code (mN mX12_reads) (mC mX12_reads) (mL mX12_reads) (mR mX12_reads) ∈ GL := gl_mem 7211 rfl rfl
theorem cdX12_real : Cond.code (mN mX12_real) (mC mX12_real) (mL mX12_real) (mR mX12_real) ∈ GL := gl_mem 7094 rfl rfl
theorem cdX12_real_ : Cond.code (mN mX12_real_) (mC mX12_real_) (mL mX12_real_) (mR mX12_real_) ∈ GL := gl_mem 8118 rfl rfl
theorem cdX12_refuses : Cond.code (mN mX12_refuses) (mC mX12_refuses) (mL mX12_refuses) (mR mX12_refuses) ∈ GL := gl_mem 7048 rfl rfl
theorem cdX12_same : Cond.code (mN mX12_same) (mC mX12_same) (mL mX12_same) (mR mX12_same) ∈ GL := gl_mem 7029 rfl rfl
theorem cdX12_says : Cond.code (mN mX12_says) (mC mX12_says) (mL mX12_says) (mR mX12_says) ∈ GL := gl_mem 7180 rfl rfl
theorem cdX12_saysNumber : Cond.code (mN mX12_saysNumber) (mC mX12_saysNumber) (mL mX12_saysNumber) (mR mX12_saysNumber) ∈ GL := gl_mem 7188 rfl rfl
theorem cdX12_says_ : Cond.code (mN mX12_says_) (mC mX12_says_) (mL mX12_says_) (mR mX12_says_) ∈ GL := gl_mem 7184 rfl rfl
theorem cdX12_scan : Cond.code (mN mX12_scan) (mC mX12_scan) (mL mX12_scan) (mR mX12_scan) ∈ GL := gl_mem 8100 rfl rfl
theorem cdX12_sign : Cond.code (mN mX12_sign) (mC mX12_sign) (mL mX12_sign) (mR mX12_sign) ∈ GL := gl_mem 7121 rfl rfl
theorem cdX12_smallest : Cond.code (mN mX12_smallest) (mC mX12_smallest) (mL mX12_smallest) (mR mX12_smallest) ∈ GL := gl_mem 8096 rfl rfl
theorem cdX12_spell : Cond.code (mN mX12_spell) (mC mX12_spell) (mL mX12_spell) (mR mX12_spell) ∈ GL := gl_mem 7176 rfl rfl
theorem cdX12_stop : Cond.code (mN mX12_stop) (mC mX12_stop) (mL mX12_stop) (mR mX12_stop) ∈ GL := gl_mem 8058 rfl rfl
theorem cdX12_stops : Cond.code (mN mX12_stops) (mC mX12_stops) (mL mX12_stops) (mR mX12_stops) ∈ GL := gl_mem 7232 rfl rfl
theorem cdX12_takes : Cond.code (mN mX12_takes) (mC mX12_takes) (mL mX12_takes) (mR mX12_takes) ∈ GL := gl_mem 8039 rfl rfl
theorem cdX12_takesField : Cond.code (mN mX12_takesField) (mC mX12_takesField) (mL mX12_takesField) (mR mX12_takesField) ∈ GL := gl_mem 8043 rfl rfl
theorem cdX12_thing : Cond.code (mN mX12_thing) (mC mX12_thing) (mL mX12_thing) (mR mX12_thing) ∈ GL := gl_mem 7025 rfl rfl
theorem cdX12_told : Cond.code (mN mX12_told) (mC mX12_told) (mL mX12_told) (mR mX12_told) ∈ GL := gl_mem 8027 rfl rfl
theorem cdX12_trip : Cond.code (mN mX12_trip) (mC mX12_trip) (mL mX12_trip) (mR mX12_trip) ∈ GL := gl_mem 8112 rfl rfl
theorem cdX12_unlike : Cond.code (mN mX12_unlike) (mC mX12_unlike) (mL mX12_unlike) (mR mX12_unlike) ∈ GL := gl_mem 8146 rfl rfl
theorem cdX12_weighs : Cond.code (mN mX12_weighs) (mC mX12_weighs) (mL mX12_weighs) (mR mX12_weighs) ∈ GL := gl_mem 7227 rfl rfl
theorem cdX12_widened : Cond.code (mN mX12_widened) (mC mX12_widened) (mL mX12_widened) (mR mX12_widened) ∈ GL := gl_mem 7051 rfl rfl
theorem cdX12_widens : Cond.code (mN mX12_widens) (mC mX12_widens) (mL mX12_widens) (mR mX12_widens) ∈ GL := gl_mem 7044 rfl rfl
theorem cdX12_width : Cond.code (mN mX12_width) (mC mX12_width) (mL mX12_width) (mR mX12_width) ∈ GL := gl_mem 7214 rfl rfl
theorem cdX12_wire : Cond.code (mN mX12_wire) (mC mX12_wire) (mL mX12_wire) (mR mX12_wire) ∈ GL := gl_mem 8062 rfl rfl
theorem cdX12_within : Cond.code (mN mX12_within) (mC mX12_within) (mL mX12_within) (mR mX12_within) ∈ GL := gl_mem 7013 rfl rfl
theorem cdX12_wordOf : Cond.code (mN mX12_wordOf) (mC mX12_wordOf) (mL mX12_wordOf) (mR mX12_wordOf) ∈ GL := gl_mem 7132 rfl rfl
theorem cdX12_write : Cond.code (mN mX12_write) (mC mX12_write) (mL mX12_write) (mR mX12_write) ∈ GL := gl_mem 7086 rfl rfl
theorem cdX1_fitOf : Cond.code (mN mX1_fitOf) (mC mX1_fitOf) (mL mX1_fitOf) (mR mX1_fitOf) ∈ GL := gl_mem 5196 rfl rfl
theorem cdX1_fitOfNone : Cond.code (mN mX1_fitOfNone) (mC mX1_fitOfNone) (mL mX1_fitOfNone) (mR mX1_fitOfNone) ∈ GL := gl_mem 5192 rfl rfl
theorem cdX1_init : Cond.code (mN mX1_init) (mC mX1_init) (mL mX1_init) (mR mX1_init) ∈ GL := gl_mem 3113 rfl rfl
theorem cdX1_spellTo : Cond.code (mN mX1_spellTo) (mC mX1_spellTo) (mL mX1_spellTo) (mR mX1_spellTo) ∈ GL := gl_mem 4060 rfl rfl
theorem cdX1_tell : Cond.code (mN mX1_tell) (mC mX1_tell) (mL mX1_tell) (mR mX1_tell) ∈ GL := gl_mem 3186 rfl rfl
theorem cdX2_cellsPresent : Cond.code (mN mX2_cellsPresent) (mC mX2_cellsPresent) (mL mX2_cellsPresent) (mR mX2_cellsPresent) ∈ GL := gl_mem 5153 rfl rfl
theorem cdX2_fieldsPresent : Cond.code (mN mX2_fieldsPresent) (mC mX2_fieldsPresent) (mL mX2_fieldsPresent) (mR mX2_fieldsPresent) ∈ GL := gl_mem 5149 rfl rfl
theorem cdX2_init : Cond.code (mN mX2_init) (mC mX2_init) (mL mX2_init) (mR mX2_init) ∈ GL := gl_mem 1117 rfl rfl
theorem cdX2_keep : Cond.code (mN mX2_keep) (mC mX2_keep) (mL mX2_keep) (mR mX2_keep) ∈ GL := gl_mem 5083 rfl rfl
theorem cdX2_loses : Cond.code (mN mX2_loses) (mC mX2_loses) (mL mX2_loses) (mR mX2_loses) ∈ GL := gl_mem 5044 rfl rfl
theorem cdX2_nextByte : Cond.code (mN mX2_nextByte) (mC mX2_nextByte) (mL mX2_nextByte) (mR mX2_nextByte) ∈ GL := gl_mem 5057 rfl rfl
theorem cdX2_reads : Cond.code (mN mX2_reads) (mC mX2_reads) (mL mX2_reads) (mR mX2_reads) ∈ GL := gl_mem 5049 rfl rfl
theorem cdX2_readsBoxes : Cond.code (mN mX2_readsBoxes) (mC mX2_readsBoxes) (mL mX2_readsBoxes) (mR mX2_readsBoxes) ∈ GL := gl_mem 5070 rfl rfl
theorem cdX2_readsCells : Cond.code (mN mX2_readsCells) (mC mX2_readsCells) (mL mX2_readsCells) (mR mX2_readsCells) ∈ GL := gl_mem 5066 rfl rfl
theorem cdX2_readsPlain : Cond.code (mN mX2_readsPlain) (mC mX2_readsPlain) (mL mX2_readsPlain) (mR mX2_readsPlain) ∈ GL := gl_mem 5095 rfl rfl
theorem cdX2_readsPresent : Cond.code (mN mX2_readsPresent) (mC mX2_readsPresent) (mL mX2_readsPresent) (mR mX2_readsPresent) ∈ GL := gl_mem 5053 rfl rfl
theorem cdX2_readsRuns : Cond.code (mN mX2_readsRuns) (mC mX2_readsRuns) (mL mX2_readsRuns) (mR mX2_readsRuns) ∈ GL := gl_mem 5091 rfl rfl
theorem cdX2_readsSize : Cond.code (mN mX2_readsSize) (mC mX2_readsSize) (mL mX2_readsSize) (mR mX2_readsSize) ∈ GL := gl_mem 5061 rfl rfl
theorem cdX2_readsSteps : Cond.code (mN mX2_readsSteps) (mC mX2_readsSteps) (mL mX2_readsSteps) (mR mX2_readsSteps) ∈ GL := gl_mem 5087 rfl rfl
theorem cdX2_readsValue : Cond.code (mN mX2_readsValue) (mC mX2_readsValue) (mL mX2_readsValue) (mR mX2_readsValue) ∈ GL := gl_mem 5075 rfl rfl
theorem cdX2_stands : Cond.code (mN mX2_stands) (mC mX2_stands) (mL mX2_stands) (mR mX2_stands) ∈ GL := gl_mem 5039 rfl rfl
theorem cdX2_sumOf : Cond.code (mN mX2_sumOf) (mC mX2_sumOf) (mL mX2_sumOf) (mR mX2_sumOf) ∈ GL := gl_mem 5026 rfl rfl
theorem cdX2_tell : Cond.code (mN mX2_tell) (mC mX2_tell) (mL mX2_tell) (mR mX2_tell) ∈ GL := gl_mem 5145 rfl rfl
theorem cdX3_init : Cond.code (mN mX3_init) (mC mX3_init) (mL mX3_init) (mR mX3_init) ∈ GL := gl_mem 1200 rfl rfl
theorem cdX4_asFloat : Cond.code (mN mX4_asFloat) (mC mX4_asFloat) (mL mX4_asFloat) (mR mX4_asFloat) ∈ GL := gl_mem 2190 rfl rfl
theorem cdX4_byLong : Cond.code (mN mX4_byLong) (mC mX4_byLong) (mL mX4_byLong) (mR mX4_byLong) ∈ GL := gl_mem 2161 rfl rfl
theorem cdX4_composed : Cond.code (mN mX4_composed) (mC mX4_composed) (mL mX4_composed) (mR mX4_composed) ∈ GL := gl_mem 2135 rfl rfl
theorem cdX4_digitsOf : Cond.code (mN mX4_digitsOf) (mC mX4_digitsOf) (mL mX4_digitsOf) (mR mX4_digitsOf) ∈ GL := gl_mem 2141 rfl rfl
theorem cdX4_doubleOfFloat : Cond.code (mN mX4_doubleOfFloat) (mC mX4_doubleOfFloat) (mL mX4_doubleOfFloat) (mR mX4_doubleOfFloat) ∈ GL := gl_mem 2124 rfl rfl
theorem cdX4_has : Cond.code (mN mX4_has) (mC mX4_has) (mL mX4_has) (mR mX4_has) ∈ GL := gl_mem 5078 rfl rfl
theorem cdX4_isNumberKind : Cond.code (mN mX4_isNumberKind) (mC mX4_isNumberKind) (mL mX4_isNumberKind) (mR mX4_isNumberKind) ∈ GL := gl_mem 2109 rfl rfl
theorem cdX4_isWholeKind : Cond.code (mN mX4_isWholeKind) (mC mX4_isWholeKind) (mL mX4_isWholeKind) (mR mX4_isWholeKind) ∈ GL := gl_mem 2121 rfl rfl
theorem cdX4_nearest : Cond.code (mN mX4_nearest) (mC mX4_nearest) (mL mX4_nearest) (mR mX4_nearest) ∈ GL := gl_mem 2138 rfl rfl
theorem cdX4_quotient : Cond.code (mN mX4_quotient) (mC mX4_quotient) (mL mX4_quotient) (mR mX4_quotient) ∈ GL := gl_mem 2184 rfl rfl
theorem cdX4_ratio : Cond.code (mN mX4_ratio) (mC mX4_ratio) (mL mX4_ratio) (mR mX4_ratio) ∈ GL := gl_mem 2193 rfl rfl
theorem cdX4_rounded : Cond.code (mN mX4_rounded) (mC mX4_rounded) (mL mX4_rounded) (mR mX4_rounded) ∈ GL := gl_mem 2144 rfl rfl
theorem cdX4_signed : Cond.code (mN mX4_signed) (mC mX4_signed) (mL mX4_signed) (mR mX4_signed) ∈ GL := gl_mem 2147 rfl rfl
theorem cdX4_topBit : Cond.code (mN mX4_topBit) (mC mX4_topBit) (mL mX4_topBit) (mR mX4_topBit) ∈ GL := gl_mem 2132 rfl rfl
theorem cdX4_widened : Cond.code (mN mX4_widened) (mC mX4_widened) (mL mX4_widened) (mR mX4_widened) ∈ GL := gl_mem 2118 rfl rfl
theorem cdX4_widens : Cond.code (mN mX4_widens) (mC mX4_widens) (mL mX4_widens) (mR mX4_widens) ∈ GL := gl_mem 2106 rfl rfl
theorem cdX4_width : Cond.code (mN mX4_width) (mC mX4_width) (mL mX4_width) (mR mX4_width) ∈ GL := gl_mem 4227 rfl rfl
theorem cdX5_addBoxes : Cond.code (mN mX5_addBoxes) (mC mX5_addBoxes) (mL mX5_addBoxes) (mR mX5_addBoxes) ∈ GL := gl_mem 4224 rfl rfl
theorem cdX5_addField : Cond.code (mN mX5_addField) (mC mX5_addField) (mL mX5_addField) (mR mX5_addField) ∈ GL := gl_mem 4220 rfl rfl
theorem cdX5_addNumbers : Cond.code (mN mX5_addNumbers) (mC mX5_addNumbers) (mL mX5_addNumbers) (mR mX5_addNumbers) ∈ GL := gl_mem 4236 rfl rfl
theorem cdX5_addRuns : Cond.code (mN mX5_addRuns) (mC mX5_addRuns) (mL mX5_addRuns) (mR mX5_addRuns) ∈ GL := gl_mem 5014 rfl rfl
theorem cdX5_addSteps : Cond.code (mN mX5_addSteps) (mC mX5_addSteps) (mL mX5_addSteps) (mR mX5_addSteps) ∈ GL := gl_mem 5010 rfl rfl
theorem cdX5_gathers : Cond.code (mN mX5_gathers) (mC mX5_gathers) (mL mX5_gathers) (mR mX5_gathers) ∈ GL := gl_mem 4209 rfl rfl
theorem cdX5_init : Cond.code (mN mX5_init) (mC mX5_init) (mL mX5_init) (mR mX5_init) ∈ GL := gl_mem 1043 rfl rfl
theorem cdX5_packs : Cond.code (mN mX5_packs) (mC mX5_packs) (mL mX5_packs) (mR mX5_packs) ∈ GL := gl_mem 4198 rfl rfl
theorem cdX5_presentBits : Cond.code (mN mX5_presentBits) (mC mX5_presentBits) (mL mX5_presentBits) (mR mX5_presentBits) ∈ GL := gl_mem 4201 rfl rfl
theorem cdX5_refuses : Cond.code (mN mX5_refuses) (mC mX5_refuses) (mL mX5_refuses) (mR mX5_refuses) ∈ GL := gl_mem 4213 rfl rfl
theorem cdX6_choose : Cond.code (mN mX6_choose) (mC mX6_choose) (mL mX6_choose) (mR mX6_choose) ∈ GL := gl_mem 5000 rfl rfl
theorem cdX6_init : Cond.code (mN mX6_init) (mC mX6_init) (mL mX6_init) (mR mX6_init) ∈ GL := gl_mem 1066 rfl rfl
theorem cdX6_offer : Cond.code (mN mX6_offer) (mC mX6_offer) (mL mX6_offer) (mR mX6_offer) ∈ GL := gl_mem 5006 rfl rfl
theorem cdX6_tell : Cond.code (mN mX6_tell) (mC mX6_tell) (mL mX6_tell) (mR mX6_tell) ∈ GL := gl_mem 5171 rfl rfl
theorem cdX7_agreements : Cond.code (mN mX7_agreements) (mC mX7_agreements) (mL mX7_agreements) (mR mX7_agreements) ∈ GL := gl_mem 5211 rfl rfl
theorem cdX7_agrees : Cond.code (mN mX7_agrees) (mC mX7_agrees) (mL mX7_agrees) (mR mX7_agrees) ∈ GL := gl_mem 5215 rfl rfl
theorem cdX7_init : Cond.code (mN mX7_init) (mC mX7_init) (mL mX7_init) (mR mX7_init) ∈ GL := gl_mem 2050 rfl rfl
theorem cdX7_put : Cond.code (mN mX7_put) (mC mX7_put) (mL mX7_put) (mR mX7_put) ∈ GL := gl_mem 2176 rfl rfl
theorem cdX7_refusalOfBox : Cond.code (mN mX7_refusalOfBox) (mC mX7_refusalOfBox) (mL mX7_refusalOfBox) (mR mX7_refusalOfBox) ∈ GL := gl_mem 2172 rfl rfl
theorem cdX7_refusalOfNumber : Cond.code (mN mX7_refusalOfNumber) (mC mX7_refusalOfNumber) (mL mX7_refusalOfNumber) (mR mX7_refusalOfNumber) ∈ GL := gl_mem 2169 rfl rfl
theorem cdX7_refusalToView : Cond.code (mN mX7_refusalToView) (mC mX7_refusalToView) (mL mX7_refusalToView) (mR mX7_refusalToView) ∈ GL := gl_mem 2102 rfl rfl
theorem cdX7_size : Cond.code (mN mX7_size) (mC mX7_size) (mL mX7_size) (mR mX7_size) ∈ GL := gl_mem 2091 rfl rfl
theorem cdX7_twin : Cond.code (mN mX7_twin) (mC mX7_twin) (mL mX7_twin) (mR mX7_twin) ∈ GL := gl_mem 6007 rfl rfl
theorem cdX8_faultAt : Cond.code (mN mX8_faultAt) (mC mX8_faultAt) (mL mX8_faultAt) (mR mX8_faultAt) ∈ GL := gl_mem 3024 rfl rfl
theorem cdX8_here : Cond.code (mN mX8_here) (mC mX8_here) (mL mX8_here) (mR mX8_here) ∈ GL := gl_mem 3019 rfl rfl
theorem cdX8_init : Cond.code (mN mX8_init) (mC mX8_init) (mL mX8_init) (mR mX8_init) ∈ GL := gl_mem 2221 rfl rfl
theorem cdX8_isWord : Cond.code (mN mX8_isWord) (mC mX8_isWord) (mL mX8_isWord) (mR mX8_isWord) ∈ GL := gl_mem 3048 rfl rfl
theorem cdX8_nextCells : Cond.code (mN mX8_nextCells) (mC mX8_nextCells) (mL mX8_nextCells) (mR mX8_nextCells) ∈ GL := gl_mem 3100 rfl rfl
theorem cdX8_nextDigits : Cond.code (mN mX8_nextDigits) (mC mX8_nextDigits) (mL mX8_nextDigits) (mR mX8_nextDigits) ∈ GL := gl_mem 3104 rfl rfl
theorem cdX8_nextField : Cond.code (mN mX8_nextField) (mC mX8_nextField) (mL mX8_nextField) (mR mX8_nextField) ∈ GL := gl_mem 3015 rfl rfl
theorem cdX8_nextKind : Cond.code (mN mX8_nextKind) (mC mX8_nextKind) (mL mX8_nextKind) (mR mX8_nextKind) ∈ GL := gl_mem 3032 rfl rfl
theorem cdX8_readsDefault : Cond.code (mN mX8_readsDefault) (mC mX8_readsDefault) (mL mX8_readsDefault) (mR mX8_readsDefault) ∈ GL := gl_mem 3109 rfl rfl
theorem cdX8_skips : Cond.code (mN mX8_skips) (mC mX8_skips) (mL mX8_skips) (mR mX8_skips) ∈ GL := gl_mem 3028 rfl rfl
theorem cdX8_understood : Cond.code (mN mX8_understood) (mC mX8_understood) (mL mX8_understood) (mR mX8_understood) ∈ GL := gl_mem 3009 rfl rfl
theorem cdX9_enter : Cond.code (mN mX9_enter) (mC mX9_enter) (mL mX9_enter) (mR mX9_enter) ∈ GL := gl_mem 5111 rfl rfl
theorem cdX9_fill : Cond.code (mN mX9_fill) (mC mX9_fill) (mL mX9_fill) (mR mX9_fill) ∈ GL := gl_mem 5107 rfl rfl
theorem cdX9_fillByDefault : Cond.code (mN mX9_fillByDefault) (mC mX9_fillByDefault) (mL mX9_fillByDefault) (mR mX9_fillByDefault) ∈ GL := gl_mem 5119 rfl rfl
theorem cdX9_init : Cond.code (mN mX9_init) (mC mX9_init) (mL mX9_init) (mR mX9_init) ∈ GL := gl_mem 1176 rfl rfl
theorem cdX9_takes : Cond.code (mN mX9_takes) (mC mX9_takes) (mL mX9_takes) (mR mX9_takes) ∈ GL := gl_mem 5099 rfl rfl
theorem cdx_length : Cond.code (mxN yJ4_length_8abf5) cJ5_length_8abf5 1 (some .int) ∈ GL := gl_mem 4153 rfl rfl
def mlT_0 : List Ml := [(0, 19, 1, 0, 1, mX0_add)]
def mlI_0 : List (List Nat) := [[4232, 4203, 4204, 1003]]
theorem mk_0_19 : mChk 0 19 1 0 1 mX0_add [4232, 4203, 4204, 1003] = true := by decide +kernel
def mlT_1 : List Ml := [(1, 32, 0, 1, 2, mX4_widens), (1, 38, 0, 1, 1, mX4_isWholeKind), (1, 42, 1, 3, 1, mJ4_append_cf468), (1, 48, 0, 3, 1, mX10_word), (1, 54, 1, 3, 1, mJ4_append_15ec4), (1, 59, 1, 3, 1, mJ4_append_bf812)]
def mlI_1 : List (List Nat) := [[5197, 2105, 1011], [5198, 2120, 1011], [4061, 3227, 3228, 1022], [4062, 3034, 1015], [4063, 4064, 4065, 1022], [4103, 4104, 4105, 1022]]
theorem mk_1_32 : mChk 1 32 0 1 2 mX4_widens [5197, 2105, 1011] = true := by decide +kernel
theorem mk_1_38 : mChk 1 38 0 1 1 mX4_isWholeKind [5198, 2120, 1011] = true := by decide +kernel
theorem mk_1_42 : mChk 1 42 1 3 1 mJ4_append_cf468 [4061, 3227, 3228, 1022] = true := by decide +kernel
theorem mk_1_48 : mChk 1 48 0 3 1 mX10_word [4062, 3034, 1015] = true := by decide +kernel
theorem mk_1_54 : mChk 1 54 1 3 1 mJ4_append_15ec4 [4063, 4064, 4065, 1022] = true := by decide +kernel
theorem mk_1_59 : mChk 1 59 1 3 1 mJ4_append_bf812 [4103, 4104, 4105, 1022] = true := by decide +kernel
def mlT_2 : List Ml := [(2, 59, 3, 1, 1, mX11_isVersion), (2, 63, 1, 1, 2, mX2_loses), (2, 67, 0, 1, 3, mX2_sumOf), (2, 71, 1, 1, 4, mX2_reads), (2, 75, 1, 1, 1, mX2_readsPresent), (2, 86, 1, 1, 2, mX2_readsSize), (2, 90, 1, 1, 2, mX2_readsCells), (2, 93, 1, 1, 0, mX2_fieldsPresent), (2, 97, 1, 1, 0, mX2_cellsPresent), (2, 100, 1, 1, 0, mX2_nextByte), (2, 112, 0, 1, 2, mJ9_min_7cf53), (2, 121, 1, 1, 1, mX2_readsBoxes), (2, 124, 1, 1, 3, mX2_readsSteps), (2, 128, 1, 1, 3, mX2_readsRuns), (2, 131, 1, 1, 3, mX2_readsPlain), (2, 134, 0, 1, 1, mX4_isNumberKind), (2, 139, 1, 1, 3, mX2_readsValue), (2, 143, 1, 0, 3, mX2_keep), (2, 147, 0, 1, 2, mX4_has)]
def mlI_2 : List (List Nat) := [[2215, 1001], [5041, 5043, 23, 1005], [5045, 5025, 1005], [5046, 5047, 5048, 1005], [5050, 5052, 24, 1005], [5058, 5060, 26, 1005], [5063, 5065, 27, 1005], [5146, 5148, 36, 1005], [5150, 5152, 37, 1005], [5054, 5056, 25, 1005], [5062, 2053, 1010], [5067, 5069, 28, 1005], [5084, 5086, 31, 1005], [5088, 5090, 32, 1005], [5092, 5094, 33, 1005], [5071, 2108, 1011], [5072, 5074, 29, 1005], [5080, 5082, 30, 1005], [5076, 5077, 1011]]
theorem mk_2_59 : mChk 2 59 3 1 1 mX11_isVersion [2215, 1001] = true := by decide +kernel
theorem mk_2_63 : mChk 2 63 1 1 2 mX2_loses [5041, 5043, 23, 1005] = true := by decide +kernel
theorem mk_2_67 : mChk 2 67 0 1 3 mX2_sumOf [5045, 5025, 1005] = true := by decide +kernel
theorem mk_2_71 : mChk 2 71 1 1 4 mX2_reads [5046, 5047, 5048, 1005] = true := by decide +kernel
theorem mk_2_75 : mChk 2 75 1 1 1 mX2_readsPresent [5050, 5052, 24, 1005] = true := by decide +kernel
theorem mk_2_86 : mChk 2 86 1 1 2 mX2_readsSize [5058, 5060, 26, 1005] = true := by decide +kernel
theorem mk_2_90 : mChk 2 90 1 1 2 mX2_readsCells [5063, 5065, 27, 1005] = true := by decide +kernel
theorem mk_2_93 : mChk 2 93 1 1 0 mX2_fieldsPresent [5146, 5148, 36, 1005] = true := by decide +kernel
theorem mk_2_97 : mChk 2 97 1 1 0 mX2_cellsPresent [5150, 5152, 37, 1005] = true := by decide +kernel
theorem mk_2_100 : mChk 2 100 1 1 0 mX2_nextByte [5054, 5056, 25, 1005] = true := by decide +kernel
theorem mk_2_112 : mChk 2 112 0 1 2 mJ9_min_7cf53 [5062, 2053, 1010] = true := by decide +kernel
theorem mk_2_121 : mChk 2 121 1 1 1 mX2_readsBoxes [5067, 5069, 28, 1005] = true := by decide +kernel
theorem mk_2_124 : mChk 2 124 1 1 3 mX2_readsSteps [5084, 5086, 31, 1005] = true := by decide +kernel
theorem mk_2_128 : mChk 2 128 1 1 3 mX2_readsRuns [5088, 5090, 32, 1005] = true := by decide +kernel
theorem mk_2_131 : mChk 2 131 1 1 3 mX2_readsPlain [5092, 5094, 33, 1005] = true := by decide +kernel
theorem mk_2_134 : mChk 2 134 0 1 1 mX4_isNumberKind [5071, 2108, 1011] = true := by decide +kernel
theorem mk_2_139 : mChk 2 139 1 1 3 mX2_readsValue [5072, 5074, 29, 1005] = true := by decide +kernel
theorem mk_2_143 : mChk 2 143 1 0 3 mX2_keep [5080, 5082, 30, 1005] = true := by decide +kernel
theorem mk_2_147 : mChk 2 147 0 1 2 mX4_has [5076, 5077, 1011] = true := by decide +kernel
def mlT_4 : List Ml := [(4, 9, 0, 1, 1, mX4_isNumberKind), (4, 21, 0, 2, 2, mX4_nearest), (4, 25, 0, 1, 1, mX4_isWholeKind), (4, 28, 0, 2, 1, mX4_doubleOfFloat), (4, 36, 0, 2, 1, mJ9_abs_067f4), (4, 41, 0, 2, 1, mX4_asFloat), (4, 44, 0, 2, 3, mX4_ratio), (4, 48, 0, 2, 3, mX4_signed), (4, 52, 0, 1, 1, mX4_topBit), (4, 56, 0, 1, 1, mX4_digitsOf), (4, 60, 0, 2, 2, mX4_rounded), (4, 64, 0, 2, 3, mX4_composed)]
def mlI_4 : List (List Nat) := [[2107, 2108, 1011], [2136, 2137, 1011], [2119, 2120, 1011], [2122, 2123, 1011], [2185, 2186, 1010], [2188, 2189, 1011], [2191, 2192, 1011], [2145, 2146, 1011], [2130, 2131, 1011], [2139, 2140, 1011], [2142, 2143, 1011], [2133, 2134, 1011]]
theorem mk_4_9 : mChk 4 9 0 1 1 mX4_isNumberKind [2107, 2108, 1011] = true := by decide +kernel
theorem mk_4_21 : mChk 4 21 0 2 2 mX4_nearest [2136, 2137, 1011] = true := by decide +kernel
theorem mk_4_25 : mChk 4 25 0 1 1 mX4_isWholeKind [2119, 2120, 1011] = true := by decide +kernel
theorem mk_4_28 : mChk 4 28 0 2 1 mX4_doubleOfFloat [2122, 2123, 1011] = true := by decide +kernel
theorem mk_4_36 : mChk 4 36 0 2 1 mJ9_abs_067f4 [2185, 2186, 1010] = true := by decide +kernel
theorem mk_4_41 : mChk 4 41 0 2 1 mX4_asFloat [2188, 2189, 1011] = true := by decide +kernel
theorem mk_4_44 : mChk 4 44 0 2 3 mX4_ratio [2191, 2192, 1011] = true := by decide +kernel
theorem mk_4_48 : mChk 4 48 0 2 3 mX4_signed [2145, 2146, 1011] = true := by decide +kernel
theorem mk_4_52 : mChk 4 52 0 1 1 mX4_topBit [2130, 2131, 1011] = true := by decide +kernel
theorem mk_4_56 : mChk 4 56 0 1 1 mX4_digitsOf [2139, 2140, 1011] = true := by decide +kernel
theorem mk_4_60 : mChk 4 60 0 2 2 mX4_rounded [2142, 2143, 1011] = true := by decide +kernel
theorem mk_4_64 : mChk 4 64 0 2 3 mX4_composed [2133, 2134, 1011] = true := by decide +kernel
def mlT_5 : List Ml := [(5, 11, 4, 0, 0, mX0_init), (5, 20, 4, 0, 0, mX6_init), (5, 46, 0, 1, 2, mX5_presentBits), (5, 50, 1, 0, 1, mX0_add), (5, 66, 1, 1, 2, mX5_gathers), (5, 70, 1, 1, 0, mX7_size), (5, 76, 1, 0, 2, mX5_addField), (5, 84, 1, 1, 2, mX5_refuses), (5, 94, 0, 1, 3, mX7_refusalToView), (5, 102, 0, 2, 3, mX4_widened), (5, 108, 1, 0, 1, mX5_addBoxes), (5, 111, 1, 0, 1, mX5_addNumbers), (5, 114, 0, 1, 1, mX4_width), (5, 118, 1, 0, 2, mX0_addNumber), (5, 122, 1, 0, 2, mX6_choose), (5, 135, 1, 0, 1, mX5_addSteps), (5, 138, 1, 0, 1, mX5_addRuns)]
def mlI_5 : List (List Nat) := [[1048, 1003], [1065, 1004], [4199, 4200, 1002], [4202, 4203, 4204, 1003], [4206, 4207, 4208, 1002], [4214, 2089, 2090, 1009], [4217, 4219, 14, 1002], [4210, 4212, 13, 1002], [4215, 2101, 1009], [4216, 2117, 1011], [4221, 4223, 15, 1002], [4233, 4235, 16, 1002], [4225, 4226, 1011], [4228, 4229, 4230, 1003], [4237, 4238, 4239, 1004], [5007, 5009, 18, 1002], [5011, 5013, 19, 1002]]
theorem mk_5_11 : mChk 5 11 4 0 0 mX0_init [1048, 1003] = true := by decide +kernel
theorem mk_5_20 : mChk 5 20 4 0 0 mX6_init [1065, 1004] = true := by decide +kernel
theorem mk_5_46 : mChk 5 46 0 1 2 mX5_presentBits [4199, 4200, 1002] = true := by decide +kernel
theorem mk_5_50 : mChk 5 50 1 0 1 mX0_add [4202, 4203, 4204, 1003] = true := by decide +kernel
theorem mk_5_66 : mChk 5 66 1 1 2 mX5_gathers [4206, 4207, 4208, 1002] = true := by decide +kernel
theorem mk_5_70 : mChk 5 70 1 1 0 mX7_size [4214, 2089, 2090, 1009] = true := by decide +kernel
theorem mk_5_76 : mChk 5 76 1 0 2 mX5_addField [4217, 4219, 14, 1002] = true := by decide +kernel
theorem mk_5_84 : mChk 5 84 1 1 2 mX5_refuses [4210, 4212, 13, 1002] = true := by decide +kernel
theorem mk_5_94 : mChk 5 94 0 1 3 mX7_refusalToView [4215, 2101, 1009] = true := by decide +kernel
theorem mk_5_102 : mChk 5 102 0 2 3 mX4_widened [4216, 2117, 1011] = true := by decide +kernel
theorem mk_5_108 : mChk 5 108 1 0 1 mX5_addBoxes [4221, 4223, 15, 1002] = true := by decide +kernel
theorem mk_5_111 : mChk 5 111 1 0 1 mX5_addNumbers [4233, 4235, 16, 1002] = true := by decide +kernel
theorem mk_5_114 : mChk 5 114 0 1 1 mX4_width [4225, 4226, 1011] = true := by decide +kernel
theorem mk_5_118 : mChk 5 118 1 0 2 mX0_addNumber [4228, 4229, 4230, 1003] = true := by decide +kernel
theorem mk_5_122 : mChk 5 122 1 0 2 mX6_choose [4237, 4238, 4239, 1004] = true := by decide +kernel
theorem mk_5_135 : mChk 5 135 1 0 1 mX5_addSteps [5007, 5009, 18, 1002] = true := by decide +kernel
theorem mk_5_138 : mChk 5 138 1 0 1 mX5_addRuns [5011, 5013, 19, 1002] = true := by decide +kernel
def mlT_6 : List Ml := [(6, 24, 0, 1, 1, mX4_width), (6, 30, 0, 1, 2, mJ9_max_7cf53), (6, 36, 1, 0, 4, mX6_offer)]
def mlI_6 : List (List Nat) := [[5001, 4226, 1011], [5002, 2056, 1010], [5003, 5005, 17, 1004]]
theorem mk_6_24 : mChk 6 24 0 1 1 mX4_width [5001, 4226, 1011] = true := by decide +kernel
theorem mk_6_30 : mChk 6 30 0 1 2 mJ9_max_7cf53 [5002, 2056, 1010] = true := by decide +kernel
theorem mk_6_36 : mChk 6 36 1 0 4 mX6_offer [5003, 5005, 17, 1004] = true := by decide +kernel
def mlT_7 : List Ml := [(7, 9, 0, 1, 2, mJ9_min_7cf53), (7, 15, 0, 1, 2, mJ9_max_7cf53), (7, 32, 1, 1, 0, mX7_size), (7, 36, 2, 0, 2, mX7_init), (7, 45, 0, 1, 2, mX4_widens), (7, 51, 0, 1, 3, mX7_refusalOfBox), (7, 55, 0, 2, 3, mX4_widened), (7, 59, 0, 1, 1, mX4_isWholeKind), (7, 63, 1, 1, 2, mX7_agrees)]
def mlI_7 : List (List Nat) := [[2052, 2053, 1010], [2055, 2056, 1010], [2103, 2089, 2090, 1009], [6009, 2049, 1009], [2104, 2105, 1011], [2170, 2171, 1009], [2177, 2117, 1011], [5216, 2120, 1011], [5212, 5213, 5214, 1009]]
theorem mk_7_9 : mChk 7 9 0 1 2 mJ9_min_7cf53 [2052, 2053, 1010] = true := by decide +kernel
theorem mk_7_15 : mChk 7 15 0 1 2 mJ9_max_7cf53 [2055, 2056, 1010] = true := by decide +kernel
theorem mk_7_32 : mChk 7 32 1 1 0 mX7_size [2103, 2089, 2090, 1009] = true := by decide +kernel
theorem mk_7_36 : mChk 7 36 2 0 2 mX7_init [6009, 2049, 1009] = true := by decide +kernel
theorem mk_7_45 : mChk 7 45 0 1 2 mX4_widens [2104, 2105, 1011] = true := by decide +kernel
theorem mk_7_51 : mChk 7 51 0 1 3 mX7_refusalOfBox [2170, 2171, 1009] = true := by decide +kernel
theorem mk_7_55 : mChk 7 55 0 2 3 mX4_widened [2177, 2117, 1011] = true := by decide +kernel
theorem mk_7_59 : mChk 7 59 0 1 1 mX4_isWholeKind [5216, 2120, 1011] = true := by decide +kernel
theorem mk_7_63 : mChk 7 63 1 1 2 mX7_agrees [5212, 5213, 5214, 1009] = true := by decide +kernel
def mlT_8 : List Ml := [(8, 37, 1, 3, 0, mX8_nextField), (8, 43, 2, 0, 2, mX10_init), (8, 46, 1, 1, 0, mX8_here), (8, 50, 1, 1, 1, mX8_faultAt), (8, 54, 3, 1, 1, mX11_isSlot), (8, 57, 1, 1, 1, mX8_skips), (8, 61, 1, 1, 0, mX8_nextKind), (8, 64, 1, 1, 0, mX8_nextCells), (8, 67, 1, 1, 1, mX8_readsDefault), (8, 70, 2, 0, 6, mX1_init), (8, 73, 0, 3, 1, mX10_word), (8, 77, 1, 1, 2, mX8_isWord), (8, 81, 1, 1, 0, mJ0_length_8abf5), (8, 86, 1, 1, 1, mJ0_charAt_5068e), (8, 90, 1, 1, 1, mX8_nextDigits), (8, 94, 0, 1, 2, mJ9_max_7cf53)]
def mlI_8 : List (List Nat) := [[3012, 3014, 3, 1014], [3152, 3153, 1015], [3016, 3018, 4, 1014], [3021, 3023, 5, 1014], [2045, 1001], [3025, 3027, 6, 1014], [3029, 3031, 7, 1014], [3097, 3099, 9, 1014], [3106, 3108, 11, 1014], [3111, 3112, 1020], [3033, 3034, 1015], [3045, 3047, 8, 1014], [3049, 3050, 3051, 1016], [3059, 3060, 3061, 1016], [3101, 3103, 10, 1014], [3105, 2056, 1010]]
theorem mk_8_37 : mChk 8 37 1 3 0 mX8_nextField [3012, 3014, 3, 1014] = true := by decide +kernel
theorem mk_8_43 : mChk 8 43 2 0 2 mX10_init [3152, 3153, 1015] = true := by decide +kernel
theorem mk_8_46 : mChk 8 46 1 1 0 mX8_here [3016, 3018, 4, 1014] = true := by decide +kernel
theorem mk_8_50 : mChk 8 50 1 1 1 mX8_faultAt [3021, 3023, 5, 1014] = true := by decide +kernel
theorem mk_8_54 : mChk 8 54 3 1 1 mX11_isSlot [2045, 1001] = true := by decide +kernel
theorem mk_8_57 : mChk 8 57 1 1 1 mX8_skips [3025, 3027, 6, 1014] = true := by decide +kernel
theorem mk_8_61 : mChk 8 61 1 1 0 mX8_nextKind [3029, 3031, 7, 1014] = true := by decide +kernel
theorem mk_8_64 : mChk 8 64 1 1 0 mX8_nextCells [3097, 3099, 9, 1014] = true := by decide +kernel
theorem mk_8_67 : mChk 8 67 1 1 1 mX8_readsDefault [3106, 3108, 11, 1014] = true := by decide +kernel
theorem mk_8_70 : mChk 8 70 2 0 6 mX1_init [3111, 3112, 1020] = true := by decide +kernel
theorem mk_8_73 : mChk 8 73 0 3 1 mX10_word [3033, 3034, 1015] = true := by decide +kernel
theorem mk_8_77 : mChk 8 77 1 1 2 mX8_isWord [3045, 3047, 8, 1014] = true := by decide +kernel
theorem mk_8_81 : mChk 8 81 1 1 0 mJ0_length_8abf5 [3049, 3050, 3051, 1016] = true := by decide +kernel
theorem mk_8_86 : mChk 8 86 1 1 1 mJ0_charAt_5068e [3059, 3060, 3061, 1016] = true := by decide +kernel
theorem mk_8_90 : mChk 8 90 1 1 1 mX8_nextDigits [3101, 3103, 10, 1014] = true := by decide +kernel
theorem mk_8_94 : mChk 8 94 0 1 2 mJ9_max_7cf53 [3105, 2056, 1010] = true := by decide +kernel
def mlT_9 : List Ml := [(9, 41, 1, 1, 1, mX10_placeOf), (9, 51, 1, 1, 5, mX9_fill), (9, 55, 1, 1, 2, mX9_fillByDefault), (9, 69, 2, 0, 2, mX7_init), (9, 80, 0, 1, 5, mX9_enter), (9, 85, 0, 1, 3, mX7_refusalOfBox), (9, 89, 1, 0, 3, mX7_put), (9, 93, 0, 1, 1, mX4_isWholeKind), (9, 99, 0, 1, 2, mX4_has), (9, 113, 0, 2, 2, mX4_byLong), (9, 117, 1, 1, 0, mX7_size)]
def mlI_9 : List (List Nat) := [[5100, 5101, 5102, 1015], [5104, 5106, 34, 1006], [5116, 5118, 35, 1006], [5108, 2049, 1009], [5109, 5110, 1006], [5112, 2171, 1009], [5113, 2174, 2175, 1009], [5114, 2120, 1011], [5115, 5077, 1011], [5120, 2160, 1011], [5121, 2089, 2090, 1009]]
theorem mk_9_41 : mChk 9 41 1 1 1 mX10_placeOf [5100, 5101, 5102, 1015] = true := by decide +kernel
theorem mk_9_51 : mChk 9 51 1 1 5 mX9_fill [5104, 5106, 34, 1006] = true := by decide +kernel
theorem mk_9_55 : mChk 9 55 1 1 2 mX9_fillByDefault [5116, 5118, 35, 1006] = true := by decide +kernel
theorem mk_9_69 : mChk 9 69 2 0 2 mX7_init [5108, 2049, 1009] = true := by decide +kernel
theorem mk_9_80 : mChk 9 80 0 1 5 mX9_enter [5109, 5110, 1006] = true := by decide +kernel
theorem mk_9_85 : mChk 9 85 0 1 3 mX7_refusalOfBox [5112, 2171, 1009] = true := by decide +kernel
theorem mk_9_89 : mChk 9 89 1 0 3 mX7_put [5113, 2174, 2175, 1009] = true := by decide +kernel
theorem mk_9_93 : mChk 9 93 0 1 1 mX4_isWholeKind [5114, 2120, 1011] = true := by decide +kernel
theorem mk_9_99 : mChk 9 99 0 1 2 mX4_has [5115, 5077, 1011] = true := by decide +kernel
theorem mk_9_113 : mChk 9 113 0 2 2 mX4_byLong [5120, 2160, 1011] = true := by decide +kernel
theorem mk_9_117 : mChk 9 117 1 1 0 mX7_size [5121, 2089, 2090, 1009] = true := by decide +kernel
def mlT_10 : List Ml := [(10, 44, 2, 0, 0, mJ4_init_da8c8), (10, 45, 1, 3, 1, mJ4_append_cf468), (10, 49, 1, 0, 1, mX1_spellTo), (10, 53, 1, 3, 0, mJ4_toString_0e30d)]
def mlI_10 : List (List Nat) := [[3198, 3199, 1022], [3226, 3227, 3228, 1022], [4057, 4058, 4059, 1020], [4128, 4129, 4130, 1022]]
theorem mk_10_44 : mChk 10 44 2 0 0 mJ4_init_da8c8 [3198, 3199, 1022] = true := by decide +kernel
theorem mk_10_45 : mChk 10 45 1 3 1 mJ4_append_cf468 [3226, 3227, 3228, 1022] = true := by decide +kernel
theorem mk_10_49 : mChk 10 49 1 0 1 mX1_spellTo [4057, 4058, 4059, 1020] = true := by decide +kernel
theorem mk_10_53 : mChk 10 53 1 3 0 mJ4_toString_0e30d [4128, 4129, 4130, 1022] = true := by decide +kernel
def mlT_11 : List Ml := [(11, 35, 4, 0, 0, mX5_init), (11, 42, 4, 0, 0, mX2_init), (11, 49, 4, 0, 0, mX9_init), (11, 59, 4, 0, 0, mX3_init), (11, 87, 0, 1, 1, mX11_isSlot), (11, 91, 2, 0, 2, mX7_init), (11, 97, 1, 1, 0, mX7_size), (11, 101, 1, 1, 1, mX11_holdersOf), (11, 105, 0, 1, 3, mX7_refusalToView), (11, 109, 1, 1, 1, mX11_refusedBy), (11, 120, 0, 2, 3, mX4_widened), (11, 128, 0, 1, 1, mX4_isNumberKind), (11, 131, 0, 2, 2, mX4_byLong), (11, 135, 1, 1, 4, mX11_enterNumber), (11, 139, 0, 2, 3, mX4_quotient), (11, 143, 0, 1, 3, mX7_refusalOfBox), (11, 146, 1, 0, 3, mX7_put), (11, 150, 0, 1, 2, mX11_byteOf), (11, 154, 0, 1, 1, mX11_isVersion), (11, 159, 2, 0, 2, mX8_init), (11, 162, 1, 3, 0, mX8_understood), (11, 172, 1, 1, 1, mX11_lackOf), (11, 179, 1, 1, 1, mX1_tell), (11, 184, 1, 3, 0, mX10_asText), (11, 188, 1, 1, 0, mJ0_length_8abf5), (11, 192, 1, 1, 1, mJ0_charAt_5068e), (11, 196, 1, 1, 2, mX5_packs), (11, 209, 1, 0, 4, mX11_stopBy), (11, 220, 1, 0, 2, mX11_putFrame), (11, 224, 1, 1, 1, mX11_isOnWire), (11, 227, 1, 1, 4, mX2_stands), (11, 238, 1, 1, 4, mX9_takes), (11, 254, 1, 1, 1, mX2_tell), (11, 255, 1, 1, 1, mX11_frameSize), (11, 260, 1, 1, 2, mX5_gathers), (11, 271, 1, 0, 2, mX6_choose), (11, 277, 1, 1, 1, mX6_tell), (11, 278, 1, 1, 1, mX10_placeOf), (11, 281, 1, 1, 0, mX1_fitOfNone), (11, 284, 1, 1, 1, mX1_fitOf), (11, 291, 1, 1, 4, mX2_reads), (11, 295, 1, 1, 1, mX11_cellsKept), (11, 298, 0, 1, 2, mJ9_min_7cf53), (11, 303, 1, 1, 2, mX7_agrees), (11, 307, 0, 2, 1, mX11_digestOf), (11, 316, 0, 0, 2, mX11_copyRows), (11, 321, 0, 0, 2, mX11_copyVersions), (11, 338, 1, 1, 0, mX11_unlikeRows), (11, 341, 1, 1, 1, mX11_slotsWith), (11, 345, 1, 1, 0, mX11_cellsOfUnlikeRows), (11, 348, 1, 1, 0, mX11_versionsThere), (11, 351, 0, 1, 3, mX7_refusalOfNumber), (11, 354, 0, 1, 3, mX2_sumOf), (11, 358, 1, 1, 1, mX7_agreements), (11, 365, 0, 1, 2, mX11_firstHolder), (11, 369, 1, 3, 0, mX7_twin), (11, 373, 1, 1, 1, mX11_isFirstOfRow)]
def mlI_11 : List (List Nat) := [[1042, 1002], [1116, 1005], [1175, 1006], [1199, 1007], [2044, 2045, 1001], [2048, 2049, 1009], [2088, 2089, 2090, 1009], [2092, 2094, 0, 1001], [2100, 2101, 1009], [2112, 2114, 1, 1001], [2116, 2117, 1011], [2158, 2108, 1011], [2159, 2160, 1011], [2163, 2165, 2, 1001], [2182, 2183, 1011], [2198, 2171, 1009], [2173, 2174, 2175, 1009], [2207, 2208, 1001], [2214, 2215, 1001], [2219, 2220, 1014], [3006, 3007, 3008, 1014], [3175, 3177, 12, 1001], [3183, 3184, 3185, 1020], [3192, 3193, 3194, 1015], [4185, 3050, 3051, 1016], [4190, 3060, 3061, 1016], [4195, 4196, 4197, 1002], [5015, 5017, 20, 1001], [5019, 5021, 21, 1001], [5032, 5034, 22, 1001], [5036, 5037, 5038, 1005], [5096, 5097, 5098, 1006], [5142, 5143, 5144, 1005], [5158, 5160, 38, 1001], [5166, 4207, 4208, 1002], [5167, 4238, 4239, 1004], [5168, 5169, 5170, 1004], [5188, 5101, 5102, 1015], [5189, 5190, 5191, 1020], [5193, 5194, 5195, 1020], [5203, 5047, 5048, 1005], [5204, 5206, 39, 1001], [5221, 2053, 1010], [5222, 5213, 5214, 1009], [5227, 5228, 1001], [5238, 5239, 1001], [6011, 6012, 1001], [6014, 6016, 40, 1001], [6030, 6032, 42, 1001], [6034, 6036, 43, 1001], [6038, 6040, 44, 1001], [2167, 2168, 1009], [5024, 5025, 1005], [5208, 5209, 5210, 1009], [6001, 6002, 1001], [6004, 6005, 6006, 1009], [6018, 6020, 41, 1001]]
theorem mk_11_35 : mChk 11 35 4 0 0 mX5_init [1042, 1002] = true := by decide +kernel
theorem mk_11_42 : mChk 11 42 4 0 0 mX2_init [1116, 1005] = true := by decide +kernel
theorem mk_11_49 : mChk 11 49 4 0 0 mX9_init [1175, 1006] = true := by decide +kernel
theorem mk_11_59 : mChk 11 59 4 0 0 mX3_init [1199, 1007] = true := by decide +kernel
theorem mk_11_87 : mChk 11 87 0 1 1 mX11_isSlot [2044, 2045, 1001] = true := by decide +kernel
theorem mk_11_91 : mChk 11 91 2 0 2 mX7_init [2048, 2049, 1009] = true := by decide +kernel
theorem mk_11_97 : mChk 11 97 1 1 0 mX7_size [2088, 2089, 2090, 1009] = true := by decide +kernel
theorem mk_11_101 : mChk 11 101 1 1 1 mX11_holdersOf [2092, 2094, 0, 1001] = true := by decide +kernel
theorem mk_11_105 : mChk 11 105 0 1 3 mX7_refusalToView [2100, 2101, 1009] = true := by decide +kernel
theorem mk_11_109 : mChk 11 109 1 1 1 mX11_refusedBy [2112, 2114, 1, 1001] = true := by decide +kernel
theorem mk_11_120 : mChk 11 120 0 2 3 mX4_widened [2116, 2117, 1011] = true := by decide +kernel
theorem mk_11_128 : mChk 11 128 0 1 1 mX4_isNumberKind [2158, 2108, 1011] = true := by decide +kernel
theorem mk_11_131 : mChk 11 131 0 2 2 mX4_byLong [2159, 2160, 1011] = true := by decide +kernel
theorem mk_11_135 : mChk 11 135 1 1 4 mX11_enterNumber [2163, 2165, 2, 1001] = true := by decide +kernel
theorem mk_11_139 : mChk 11 139 0 2 3 mX4_quotient [2182, 2183, 1011] = true := by decide +kernel
theorem mk_11_143 : mChk 11 143 0 1 3 mX7_refusalOfBox [2198, 2171, 1009] = true := by decide +kernel
theorem mk_11_146 : mChk 11 146 1 0 3 mX7_put [2173, 2174, 2175, 1009] = true := by decide +kernel
theorem mk_11_150 : mChk 11 150 0 1 2 mX11_byteOf [2207, 2208, 1001] = true := by decide +kernel
theorem mk_11_154 : mChk 11 154 0 1 1 mX11_isVersion [2214, 2215, 1001] = true := by decide +kernel
theorem mk_11_159 : mChk 11 159 2 0 2 mX8_init [2219, 2220, 1014] = true := by decide +kernel
theorem mk_11_162 : mChk 11 162 1 3 0 mX8_understood [3006, 3007, 3008, 1014] = true := by decide +kernel
theorem mk_11_172 : mChk 11 172 1 1 1 mX11_lackOf [3175, 3177, 12, 1001] = true := by decide +kernel
theorem mk_11_179 : mChk 11 179 1 1 1 mX1_tell [3183, 3184, 3185, 1020] = true := by decide +kernel
theorem mk_11_184 : mChk 11 184 1 3 0 mX10_asText [3192, 3193, 3194, 1015] = true := by decide +kernel
theorem mk_11_188 : mChk 11 188 1 1 0 mJ0_length_8abf5 [4185, 3050, 3051, 1016] = true := by decide +kernel
theorem mk_11_192 : mChk 11 192 1 1 1 mJ0_charAt_5068e [4190, 3060, 3061, 1016] = true := by decide +kernel
theorem mk_11_196 : mChk 11 196 1 1 2 mX5_packs [4195, 4196, 4197, 1002] = true := by decide +kernel
theorem mk_11_209 : mChk 11 209 1 0 4 mX11_stopBy [5015, 5017, 20, 1001] = true := by decide +kernel
theorem mk_11_220 : mChk 11 220 1 0 2 mX11_putFrame [5019, 5021, 21, 1001] = true := by decide +kernel
theorem mk_11_224 : mChk 11 224 1 1 1 mX11_isOnWire [5032, 5034, 22, 1001] = true := by decide +kernel
theorem mk_11_227 : mChk 11 227 1 1 4 mX2_stands [5036, 5037, 5038, 1005] = true := by decide +kernel
theorem mk_11_238 : mChk 11 238 1 1 4 mX9_takes [5096, 5097, 5098, 1006] = true := by decide +kernel
theorem mk_11_254 : mChk 11 254 1 1 1 mX2_tell [5142, 5143, 5144, 1005] = true := by decide +kernel
theorem mk_11_255 : mChk 11 255 1 1 1 mX11_frameSize [5158, 5160, 38, 1001] = true := by decide +kernel
theorem mk_11_260 : mChk 11 260 1 1 2 mX5_gathers [5166, 4207, 4208, 1002] = true := by decide +kernel
theorem mk_11_271 : mChk 11 271 1 0 2 mX6_choose [5167, 4238, 4239, 1004] = true := by decide +kernel
theorem mk_11_277 : mChk 11 277 1 1 1 mX6_tell [5168, 5169, 5170, 1004] = true := by decide +kernel
theorem mk_11_278 : mChk 11 278 1 1 1 mX10_placeOf [5188, 5101, 5102, 1015] = true := by decide +kernel
theorem mk_11_281 : mChk 11 281 1 1 0 mX1_fitOfNone [5189, 5190, 5191, 1020] = true := by decide +kernel
theorem mk_11_284 : mChk 11 284 1 1 1 mX1_fitOf [5193, 5194, 5195, 1020] = true := by decide +kernel
theorem mk_11_291 : mChk 11 291 1 1 4 mX2_reads [5203, 5047, 5048, 1005] = true := by decide +kernel
theorem mk_11_295 : mChk 11 295 1 1 1 mX11_cellsKept [5204, 5206, 39, 1001] = true := by decide +kernel
theorem mk_11_298 : mChk 11 298 0 1 2 mJ9_min_7cf53 [5221, 2053, 1010] = true := by decide +kernel
theorem mk_11_303 : mChk 11 303 1 1 2 mX7_agrees [5222, 5213, 5214, 1009] = true := by decide +kernel
theorem mk_11_307 : mChk 11 307 0 2 1 mX11_digestOf [5227, 5228, 1001] = true := by decide +kernel
theorem mk_11_316 : mChk 11 316 0 0 2 mX11_copyRows [5238, 5239, 1001] = true := by decide +kernel
theorem mk_11_321 : mChk 11 321 0 0 2 mX11_copyVersions [6011, 6012, 1001] = true := by decide +kernel
theorem mk_11_338 : mChk 11 338 1 1 0 mX11_unlikeRows [6014, 6016, 40, 1001] = true := by decide +kernel
theorem mk_11_341 : mChk 11 341 1 1 1 mX11_slotsWith [6030, 6032, 42, 1001] = true := by decide +kernel
theorem mk_11_345 : mChk 11 345 1 1 0 mX11_cellsOfUnlikeRows [6034, 6036, 43, 1001] = true := by decide +kernel
theorem mk_11_348 : mChk 11 348 1 1 0 mX11_versionsThere [6038, 6040, 44, 1001] = true := by decide +kernel
theorem mk_11_351 : mChk 11 351 0 1 3 mX7_refusalOfNumber [2167, 2168, 1009] = true := by decide +kernel
theorem mk_11_354 : mChk 11 354 0 1 3 mX2_sumOf [5024, 5025, 1005] = true := by decide +kernel
theorem mk_11_358 : mChk 11 358 1 1 1 mX7_agreements [5208, 5209, 5210, 1009] = true := by decide +kernel
theorem mk_11_365 : mChk 11 365 0 1 2 mX11_firstHolder [6001, 6002, 1001] = true := by decide +kernel
theorem mk_11_369 : mChk 11 369 1 3 0 mX7_twin [6004, 6005, 6006, 1009] = true := by decide +kernel
theorem mk_11_373 : mChk 11 373 1 1 1 mX11_isFirstOfRow [6018, 6020, 41, 1001] = true := by decide +kernel
def mlT_12 : List Ml := [(12, 134, 0, 1, 3, mX12_within), (12, 138, 0, 1, 1, mJxf58ca_floatToIntBits_5c35a), (12, 144, 0, 2, 1, mJxe99ae_doubleToLongBits_ccdee), (12, 154, 0, 2, 2, mX12_numberOf), (12, 162, 1, 1, 1, mX12_holders), (12, 166, 0, 1, 1, mX12_isSlot), (12, 170, 1, 1, 0, mX12_free), (12, 174, 0, 1, 2, mX12_widens), (12, 178, 1, 1, 3, mX12_bars), (12, 182, 1, 1, 1, mX12_refuses), (12, 185, 0, 2, 3, mX12_widened), (12, 195, 1, 1, 4, mX12_comes), (12, 208, 1, 1, 0, mX12_sign), (12, 228, 1, 1, 0, mJ0_length_8abf5), (12, 233, 1, 1, 1, mJ0_charAt_5068e), (12, 237, 0, 3, 1, mX12_wordOf), (12, 241, 1, 1, 2, mX12_isWord), (12, 245, 1, 1, 1, mX12_is), (12, 248, 1, 1, 0, mX12_isDigit), (12, 252, 1, 1, 1, mX12_isKind), (12, 255, 1, 1, 1, mX12_isMany), (12, 258, 1, 1, 1, mX12_isDefault), (12, 261, 0, 1, 1, mX12_isVersion), (12, 264, 1, 1, 1, mX12_isField), (12, 267, 1, 1, 2, mX12_noField), (12, 275, 1, 0, 1, mX12_says), (12, 279, 0, 1, 1, mJ9_abs_0f7a4), (12, 284, 1, 0, 1, mX12_says_), (12, 287, 1, 0, 1, mX12_saysNumber), (12, 302, 0, 1, 1, mX12_width), (12, 306, 0, 1, 2, mJ9_max_7cf53), (12, 320, 1, 0, 1, mX12_weighs), (12, 323, 1, 0, 2, mX12_puts), (12, 333, 1, 1, 3, mX12_fails), (12, 336, 1, 1, 1, mX12_reads), (12, 339, 1, 0, 1, mX12_putsNumbers), (12, 346, 1, 1, 1, mX12_packs), (12, 349, 1, 1, 4, mX12_stops), (12, 356, 0, 1, 4, mX12_digestOf), (12, 372, 1, 1, 2, mX12_isLost), (12, 375, 1, 1, 1, mX12_isCut), (12, 378, 1, 2, 1, mX12_told), (12, 382, 0, 1, 2, mX12_isValue), (12, 386, 1, 1, 4, mX12_isNoValue), (12, 390, 1, 1, 1, mX12_areNoBoxes), (12, 393, 1, 1, 2, mX12_areNoNumbers), (12, 396, 1, 1, 0, mX12_isNoBody), (12, 402, 0, 1, 1, mX12_isWhole), (12, 405, 1, 1, 2, mX12_fieldFor), (12, 408, 1, 1, 3, mX12_fits), (12, 412, 1, 1, 2, mX12_takesField), (12, 415, 1, 1, 1, mX12_isNoFrame), (12, 418, 1, 1, 1, mX12_takes), (12, 421, 0, 1, 1, mJ6_bitCount_0f7a4), (12, 426, 1, 1, 1, mX12_isRow), (12, 433, 0, 4, 2, mX12_real_), (12, 437, 0, 1, 4, mX12_areAlike), (12, 449, 1, 2, 1, mX12_digestOf_), (12, 462, 1, 1, 0, mX12_unlike)]
def mlI_12 : List (List Nat) := [[7011, 7012, 1008], [7068, 7069, 1012], [7055, 7056, 1013], [7065, 7066, 1008], [7018, 7020, 46, 1008], [7008, 7009, 1008], [7014, 7016, 45, 1008], [7042, 7043, 1008], [7038, 7040, 47, 1008], [7045, 7047, 48, 1008], [7049, 7050, 1008], [7087, 7089, 49, 1008], [7118, 7120, 51, 1008], [7146, 3050, 3051, 1016], [7147, 3060, 3061, 1016], [7130, 7131, 1008], [7142, 7144, 54, 1008], [7122, 7124, 52, 1008], [7152, 7154, 56, 1008], [7126, 7128, 53, 1008], [7148, 7150, 55, 1008], [7156, 7158, 57, 1008], [7111, 7112, 1008], [7114, 7116, 50, 1008], [7168, 7170, 58, 1008], [7177, 7179, 59, 1008], [7189, 7190, 1010], [7181, 7183, 60, 1008], [7185, 7187, 61, 1008], [7212, 7213, 1008], [7228, 2056, 1010], [7224, 7226, 67, 1008], [7215, 7217, 65, 1008], [7204, 7206, 63, 1008], [7208, 7210, 64, 1008], [7220, 7222, 66, 1008], [7200, 7202, 62, 1008], [7229, 7231, 68, 1008], [7233, 7234, 1008], [8004, 8006, 70, 1008], [8012, 8014, 72, 1008], [8024, 8026, 75, 1008], [8028, 8029, 1008], [8020, 8022, 74, 1008], [8016, 8018, 73, 1008], [8032, 8034, 76, 1008], [8008, 8010, 71, 1008], [8052, 8053, 1008], [8044, 8046, 79, 1008], [8048, 8050, 80, 1008], [8040, 8042, 78, 1008], [8000, 8002, 69, 1008], [8036, 8038, 77, 1008], [8075, 8076, 1026], [8089, 8091, 81, 1008], [8116, 8117, 1008], [8113, 8114, 1008], [8130, 8132, 82, 1008], [8143, 8145, 83, 1008]]
theorem mk_12_134 : mChk 12 134 0 1 3 mX12_within [7011, 7012, 1008] = true := by decide +kernel
theorem mk_12_138 : mChk 12 138 0 1 1 mJxf58ca_floatToIntBits_5c35a [7068, 7069, 1012] = true := by decide +kernel
theorem mk_12_144 : mChk 12 144 0 2 1 mJxe99ae_doubleToLongBits_ccdee [7055, 7056, 1013] = true := by decide +kernel
theorem mk_12_154 : mChk 12 154 0 2 2 mX12_numberOf [7065, 7066, 1008] = true := by decide +kernel
theorem mk_12_162 : mChk 12 162 1 1 1 mX12_holders [7018, 7020, 46, 1008] = true := by decide +kernel
theorem mk_12_166 : mChk 12 166 0 1 1 mX12_isSlot [7008, 7009, 1008] = true := by decide +kernel
theorem mk_12_170 : mChk 12 170 1 1 0 mX12_free [7014, 7016, 45, 1008] = true := by decide +kernel
theorem mk_12_174 : mChk 12 174 0 1 2 mX12_widens [7042, 7043, 1008] = true := by decide +kernel
theorem mk_12_178 : mChk 12 178 1 1 3 mX12_bars [7038, 7040, 47, 1008] = true := by decide +kernel
theorem mk_12_182 : mChk 12 182 1 1 1 mX12_refuses [7045, 7047, 48, 1008] = true := by decide +kernel
theorem mk_12_185 : mChk 12 185 0 2 3 mX12_widened [7049, 7050, 1008] = true := by decide +kernel
theorem mk_12_195 : mChk 12 195 1 1 4 mX12_comes [7087, 7089, 49, 1008] = true := by decide +kernel
theorem mk_12_208 : mChk 12 208 1 1 0 mX12_sign [7118, 7120, 51, 1008] = true := by decide +kernel
theorem mk_12_228 : mChk 12 228 1 1 0 mJ0_length_8abf5 [7146, 3050, 3051, 1016] = true := by decide +kernel
theorem mk_12_233 : mChk 12 233 1 1 1 mJ0_charAt_5068e [7147, 3060, 3061, 1016] = true := by decide +kernel
theorem mk_12_237 : mChk 12 237 0 3 1 mX12_wordOf [7130, 7131, 1008] = true := by decide +kernel
theorem mk_12_241 : mChk 12 241 1 1 2 mX12_isWord [7142, 7144, 54, 1008] = true := by decide +kernel
theorem mk_12_245 : mChk 12 245 1 1 1 mX12_is [7122, 7124, 52, 1008] = true := by decide +kernel
theorem mk_12_248 : mChk 12 248 1 1 0 mX12_isDigit [7152, 7154, 56, 1008] = true := by decide +kernel
theorem mk_12_252 : mChk 12 252 1 1 1 mX12_isKind [7126, 7128, 53, 1008] = true := by decide +kernel
theorem mk_12_255 : mChk 12 255 1 1 1 mX12_isMany [7148, 7150, 55, 1008] = true := by decide +kernel
theorem mk_12_258 : mChk 12 258 1 1 1 mX12_isDefault [7156, 7158, 57, 1008] = true := by decide +kernel
theorem mk_12_261 : mChk 12 261 0 1 1 mX12_isVersion [7111, 7112, 1008] = true := by decide +kernel
theorem mk_12_264 : mChk 12 264 1 1 1 mX12_isField [7114, 7116, 50, 1008] = true := by decide +kernel
theorem mk_12_267 : mChk 12 267 1 1 2 mX12_noField [7168, 7170, 58, 1008] = true := by decide +kernel
theorem mk_12_275 : mChk 12 275 1 0 1 mX12_says [7177, 7179, 59, 1008] = true := by decide +kernel
theorem mk_12_279 : mChk 12 279 0 1 1 mJ9_abs_0f7a4 [7189, 7190, 1010] = true := by decide +kernel
theorem mk_12_284 : mChk 12 284 1 0 1 mX12_says_ [7181, 7183, 60, 1008] = true := by decide +kernel
theorem mk_12_287 : mChk 12 287 1 0 1 mX12_saysNumber [7185, 7187, 61, 1008] = true := by decide +kernel
theorem mk_12_302 : mChk 12 302 0 1 1 mX12_width [7212, 7213, 1008] = true := by decide +kernel
theorem mk_12_306 : mChk 12 306 0 1 2 mJ9_max_7cf53 [7228, 2056, 1010] = true := by decide +kernel
theorem mk_12_320 : mChk 12 320 1 0 1 mX12_weighs [7224, 7226, 67, 1008] = true := by decide +kernel
theorem mk_12_323 : mChk 12 323 1 0 2 mX12_puts [7215, 7217, 65, 1008] = true := by decide +kernel
theorem mk_12_333 : mChk 12 333 1 1 3 mX12_fails [7204, 7206, 63, 1008] = true := by decide +kernel
theorem mk_12_336 : mChk 12 336 1 1 1 mX12_reads [7208, 7210, 64, 1008] = true := by decide +kernel
theorem mk_12_339 : mChk 12 339 1 0 1 mX12_putsNumbers [7220, 7222, 66, 1008] = true := by decide +kernel
theorem mk_12_346 : mChk 12 346 1 1 1 mX12_packs [7200, 7202, 62, 1008] = true := by decide +kernel
theorem mk_12_349 : mChk 12 349 1 1 4 mX12_stops [7229, 7231, 68, 1008] = true := by decide +kernel
theorem mk_12_356 : mChk 12 356 0 1 4 mX12_digestOf [7233, 7234, 1008] = true := by decide +kernel
theorem mk_12_372 : mChk 12 372 1 1 2 mX12_isLost [8004, 8006, 70, 1008] = true := by decide +kernel
theorem mk_12_375 : mChk 12 375 1 1 1 mX12_isCut [8012, 8014, 72, 1008] = true := by decide +kernel
theorem mk_12_378 : mChk 12 378 1 2 1 mX12_told [8024, 8026, 75, 1008] = true := by decide +kernel
theorem mk_12_382 : mChk 12 382 0 1 2 mX12_isValue [8028, 8029, 1008] = true := by decide +kernel
theorem mk_12_386 : mChk 12 386 1 1 4 mX12_isNoValue [8020, 8022, 74, 1008] = true := by decide +kernel
theorem mk_12_390 : mChk 12 390 1 1 1 mX12_areNoBoxes [8016, 8018, 73, 1008] = true := by decide +kernel
theorem mk_12_393 : mChk 12 393 1 1 2 mX12_areNoNumbers [8032, 8034, 76, 1008] = true := by decide +kernel
theorem mk_12_396 : mChk 12 396 1 1 0 mX12_isNoBody [8008, 8010, 71, 1008] = true := by decide +kernel
theorem mk_12_402 : mChk 12 402 0 1 1 mX12_isWhole [8052, 8053, 1008] = true := by decide +kernel
theorem mk_12_405 : mChk 12 405 1 1 2 mX12_fieldFor [8044, 8046, 79, 1008] = true := by decide +kernel
theorem mk_12_408 : mChk 12 408 1 1 3 mX12_fits [8048, 8050, 80, 1008] = true := by decide +kernel
theorem mk_12_412 : mChk 12 412 1 1 2 mX12_takesField [8040, 8042, 78, 1008] = true := by decide +kernel
theorem mk_12_415 : mChk 12 415 1 1 1 mX12_isNoFrame [8000, 8002, 69, 1008] = true := by decide +kernel
theorem mk_12_418 : mChk 12 418 1 1 1 mX12_takes [8036, 8038, 77, 1008] = true := by decide +kernel
theorem mk_12_421 : mChk 12 421 0 1 1 mJ6_bitCount_0f7a4 [8075, 8076, 1026] = true := by decide +kernel
theorem mk_12_426 : mChk 12 426 1 1 1 mX12_isRow [8089, 8091, 81, 1008] = true := by decide +kernel
theorem mk_12_433 : mChk 12 433 0 4 2 mX12_real_ [8116, 8117, 1008] = true := by decide +kernel
theorem mk_12_437 : mChk 12 437 0 1 4 mX12_areAlike [8113, 8114, 1008] = true := by decide +kernel
theorem mk_12_449 : mChk 12 449 1 2 1 mX12_digestOf_ [8130, 8132, 82, 1008] = true := by decide +kernel
theorem mk_12_462 : mChk 12 462 1 1 0 mX12_unlike [8143, 8145, 83, 1008] = true := by decide +kernel
def mlT_13 : List Ml := [(13, 47, 0, 1, 2, mJ2_coderFromArrayLen_85cad), (13, 54, 0, 3, 3, mJ7_copyOfRange_39247), (13, 106, 0, 0, 5, mJ1_inflate_0e8fd), (13, 335, 1, 1, 0, mJ0_coder_7d493), (13, 489, 2, 0, 2, mJ0_init_db425), (13, 492, 1, 1, 0, mJ0_isLatin1_aae02), (13, 495, 0, 1, 2, mJ1_charAt_3b067), (13, 498, 0, 1, 2, mJ2_charAt_3b067), (13, 549, 14, 1, 0, mJ4_length_8abf5), (13, 552, 12, 3, 0, mJ5_getValue_6d5f1), (13, 1047, 12, 1, 0, mJ5_isLatin1_aae02), (13, 1051, 0, 3, 3, mJ2_compress_39247), (13, 1059, 0, 1, 3, mJ3_checkIndex_8e157), (13, 1062, 0, 1, 4, mJ3_checkFromToIndex_8c36e), (13, 1065, 0, 1, 4, mJ3_checkFromIndexSize_8c36e)]
def mlI_13 : List (List Nat) := [[4171, 4172, 1019], [4155, 4156, 1024], [4101, 4037, 1017], [3053, 3054, 3055, 1016], [4137, 4138, 1016], [3063, 3064, 3065, 1016], [3067, 3068, 1017], [3078, 3079, 1019], [4146, 4148, 4147, 4149, 4150, 1022], [4141, 4142, 4143, 4144, 1021], [4154, 4025, 4026, 4027, 1021], [4164, 4165, 1019], [3075, 3076, 1018], [4083, 4084, 1018], [4048, 4049, 1018]]
theorem mk_13_47 : mChk 13 47 0 1 2 mJ2_coderFromArrayLen_85cad [4171, 4172, 1019] = true := by decide +kernel
theorem mk_13_54 : mChk 13 54 0 3 3 mJ7_copyOfRange_39247 [4155, 4156, 1024] = true := by decide +kernel
theorem mk_13_106 : mChk 13 106 0 0 5 mJ1_inflate_0e8fd [4101, 4037, 1017] = true := by decide +kernel
theorem mk_13_335 : mChk 13 335 1 1 0 mJ0_coder_7d493 [3053, 3054, 3055, 1016] = true := by decide +kernel
theorem mk_13_489 : mChk 13 489 2 0 2 mJ0_init_db425 [4137, 4138, 1016] = true := by decide +kernel
theorem mk_13_492 : mChk 13 492 1 1 0 mJ0_isLatin1_aae02 [3063, 3064, 3065, 1016] = true := by decide +kernel
theorem mk_13_495 : mChk 13 495 0 1 2 mJ1_charAt_3b067 [3067, 3068, 1017] = true := by decide +kernel
theorem mk_13_498 : mChk 13 498 0 1 2 mJ2_charAt_3b067 [3078, 3079, 1019] = true := by decide +kernel
theorem mk_13_549 : mChk 13 549 14 1 0 mJ4_length_8abf5 [4146, 4148, 4147, 4149, 4150, 1022] = true := by decide +kernel
theorem mk_13_552 : mChk 13 552 12 3 0 mJ5_getValue_6d5f1 [4141, 4142, 4143, 4144, 1021] = true := by decide +kernel
theorem mk_13_1047 : mChk 13 1047 12 1 0 mJ5_isLatin1_aae02 [4154, 4025, 4026, 4027, 1021] = true := by decide +kernel
theorem mk_13_1051 : mChk 13 1051 0 3 3 mJ2_compress_39247 [4164, 4165, 1019] = true := by decide +kernel
theorem mk_13_1059 : mChk 13 1059 0 1 3 mJ3_checkIndex_8e157 [3075, 3076, 1018] = true := by decide +kernel
theorem mk_13_1062 : mChk 13 1062 0 1 4 mJ3_checkFromToIndex_8c36e [4083, 4084, 1018] = true := by decide +kernel
theorem mk_13_1065 : mChk 13 1065 0 1 4 mJ3_checkFromIndexSize_8c36e [4048, 4049, 1018] = true := by decide +kernel
def mlT_14 : List Ml := [(14, 1, 2, 0, 1, mJ5_init_d00df), (14, 29, 13, 3, 1, mJ5_append_cf1ce), (14, 50, 13, 3, 1, mJ5_append_3fe6f), (14, 53, 13, 3, 1, mJ5_append_c97b9), (14, 137, 2, 0, 1, mJ0_init_81219), (14, 343, 13, 1, 0, mJ5_length_8abf5)]
def mlI_14 : List (List Nat) := [[3201, 3202, 1021], [4067, 4068, 8160, 3225, 1021], [3230, 3231, 8156, 3225, 1021], [4107, 4108, 8164, 3225, 1021], [4134, 4135, 1016], [4152, 4147, 4148, 3225, 1021]]
theorem mk_14_1 : mChk 14 1 2 0 1 mJ5_init_d00df [3201, 3202, 1021] = true := by decide +kernel
theorem mk_14_29 : mChk 14 29 13 3 1 mJ5_append_cf1ce [4067, 4068, 8160, 3225, 1021] = true := by decide +kernel
theorem mk_14_50 : mChk 14 50 13 3 1 mJ5_append_3fe6f [3230, 3231, 8156, 3225, 1021] = true := by decide +kernel
theorem mk_14_53 : mChk 14 53 13 3 1 mJ5_append_c97b9 [4107, 4108, 8164, 3225, 1021] = true := by decide +kernel
theorem mk_14_137 : mChk 14 137 2 0 1 mJ0_init_81219 [4134, 4135, 1016] = true := by decide +kernel
theorem mk_14_343 : mChk 14 343 13 1 0 mJ5_length_8abf5 [4152, 4147, 4148, 3225, 1021] = true := by decide +kernel
def mlT_15 : List Ml := [(15, 26, 0, 3, 1, mJ2_newBytesFor_77867), (15, 32, 1, 1, 0, mJ0_length_8abf5), (15, 40, 1, 1, 0, mJ0_coder_7d493), (15, 83, 12, 1, 0, mJ5_isLatin1_aae02), (15, 100, 12, 0, 1, mJ5_ensureCapacityInternal_d00df), (15, 104, 12, 1, 1, mJ5_newCapacity_0f7a4), (15, 108, 0, 3, 2, mJ7_copyOf_9075b), (15, 114, 0, 1, 3, mJ8_newLength_cabcc), (15, 125, 0, 0, 5, mJ1_inflate_0e8fd), (15, 191, 0, 1, 1, mJ1_canEncode_fc78d), (15, 197, 0, 0, 3, mJ2_putCharSB_b72d1), (15, 208, 12, 0, 2, mJ5_putStringAt_47b60), (15, 226, 0, 1, 6, mJ2_putCharsAt_cd4e5), (15, 245, 0, 1, 1, mJ6_stringSize_0f7a4), (15, 248, 0, 1, 3, mJ6_getChars_ba4f3), (15, 251, 0, 1, 4, mJ2_getChars_46870), (15, 397, 12, 0, 1, mJ5_inflateIfNeededFor_a7421), (15, 399, 1, 0, 3, mJ0_getBytes_840e7)]
def mlI_15 : List (List Nat) := [[3206, 3207, 1019], [4086, 3050, 3051, 1016], [4095, 3054, 3055, 1016], [4024, 4025, 4026, 4027, 1021], [3233, 3235, 8157, 9001, 1021], [3237, 3239, 8158, 9000, 1021], [4010, 4011, 1024], [4001, 4002, 1023], [4036, 4037, 1017], [4029, 4030, 1017], [4054, 4055, 1019], [4087, 4089, 8162, 9002, 1021], [4074, 4075, 1019], [4110, 4111, 1026], [4113, 4114, 1026], [4120, 4121, 1019], [4091, 4093, 8163, 9003, 1021], [4096, 4097, 4098, 1016]]
theorem mk_15_26 : mChk 15 26 0 3 1 mJ2_newBytesFor_77867 [3206, 3207, 1019] = true := by decide +kernel
theorem mk_15_32 : mChk 15 32 1 1 0 mJ0_length_8abf5 [4086, 3050, 3051, 1016] = true := by decide +kernel
theorem mk_15_40 : mChk 15 40 1 1 0 mJ0_coder_7d493 [4095, 3054, 3055, 1016] = true := by decide +kernel
theorem mk_15_83 : mChk 15 83 12 1 0 mJ5_isLatin1_aae02 [4024, 4025, 4026, 4027, 1021] = true := by decide +kernel
theorem mk_15_100 : mChk 15 100 12 0 1 mJ5_ensureCapacityInternal_d00df [3233, 3235, 8157, 9001, 1021] = true := by decide +kernel
theorem mk_15_104 : mChk 15 104 12 1 1 mJ5_newCapacity_0f7a4 [3237, 3239, 8158, 9000, 1021] = true := by decide +kernel
theorem mk_15_108 : mChk 15 108 0 3 2 mJ7_copyOf_9075b [4010, 4011, 1024] = true := by decide +kernel
theorem mk_15_114 : mChk 15 114 0 1 3 mJ8_newLength_cabcc [4001, 4002, 1023] = true := by decide +kernel
theorem mk_15_125 : mChk 15 125 0 0 5 mJ1_inflate_0e8fd [4036, 4037, 1017] = true := by decide +kernel
theorem mk_15_191 : mChk 15 191 0 1 1 mJ1_canEncode_fc78d [4029, 4030, 1017] = true := by decide +kernel
theorem mk_15_197 : mChk 15 197 0 0 3 mJ2_putCharSB_b72d1 [4054, 4055, 1019] = true := by decide +kernel
theorem mk_15_208 : mChk 15 208 12 0 2 mJ5_putStringAt_47b60 [4087, 4089, 8162, 9002, 1021] = true := by decide +kernel
theorem mk_15_226 : mChk 15 226 0 1 6 mJ2_putCharsAt_cd4e5 [4074, 4075, 1019] = true := by decide +kernel
theorem mk_15_245 : mChk 15 245 0 1 1 mJ6_stringSize_0f7a4 [4110, 4111, 1026] = true := by decide +kernel
theorem mk_15_248 : mChk 15 248 0 1 3 mJ6_getChars_ba4f3 [4113, 4114, 1026] = true := by decide +kernel
theorem mk_15_251 : mChk 15 251 0 1 4 mJ2_getChars_46870 [4120, 4121, 1019] = true := by decide +kernel
theorem mk_15_397 : mChk 15 397 12 0 1 mJ5_inflateIfNeededFor_a7421 [4091, 4093, 8163, 9003, 1021] = true := by decide +kernel
theorem mk_15_399 : mChk 15 399 1 0 3 mJ0_getBytes_840e7 [4096, 4097, 4098, 1016] = true := by decide +kernel
def mlT_18 : List Ml := [(18, 9, 0, 0, 2, mJ0_checkIndex_df160), (18, 240, 0, 0, 5, mJ2_inflate_0e8fd)]
def mlI_18 : List (List Nat) := [[3070, 3071, 1016], [4039, 4040, 1019]]
theorem mk_18_9 : mChk 18 9 0 0 2 mJ0_checkIndex_df160 [3070, 3071, 1016] = true := by decide +kernel
theorem mk_18_240 : mChk 18 240 0 0 5 mJ2_inflate_0e8fd [4039, 4040, 1019] = true := by decide +kernel
def mlT_19 : List Ml := [(19, 11, 0, 1, 1, mJ2_newBytesLength_0f7a4), (19, 48, 0, 1, 1, mJ2_length_9d52b), (19, 67, 0, 0, 2, mJ2_checkIndex_2214a), (19, 71, 0, 1, 2, mJ2_getChar_3b067), (19, 96, 0, 0, 3, mJ2_checkBoundsBeginEnd_d044e), (19, 111, 0, 0, 3, mJ2_putChar_b72d1), (19, 123, 0, 1, 5, mJ2_compress_5af95), (19, 126, 0, 3, 3, mJ7_copyOfRange_39247), (19, 173, 0, 0, 3, mJ2_checkBoundsOffCount_d044e), (19, 241, 0, 0, 3, mJ0_checkBoundsBeginEnd_23922), (19, 393, 0, 1, 3, mJ2_getChars_ba4f3), (19, 414, 0, 0, 2, mJ0_checkIndex_df160), (19, 419, 0, 1, 3, mJ0_checkBoundsOffCount_cabcc)]
def mlI_19 : List (List Nat) := [[3209, 3210, 1019], [3084, 3085, 1019], [3081, 3082, 1019], [3088, 3089, 1019], [4077, 4078, 1019], [4051, 4052, 1019], [4167, 4168, 1019], [4170, 4156, 1024], [4042, 4043, 1019], [4080, 4081, 1016], [4123, 4124, 1019], [3087, 3071, 1016], [4045, 4046, 1016]]
theorem mk_19_11 : mChk 19 11 0 1 1 mJ2_newBytesLength_0f7a4 [3209, 3210, 1019] = true := by decide +kernel
theorem mk_19_48 : mChk 19 48 0 1 1 mJ2_length_9d52b [3084, 3085, 1019] = true := by decide +kernel
theorem mk_19_67 : mChk 19 67 0 0 2 mJ2_checkIndex_2214a [3081, 3082, 1019] = true := by decide +kernel
theorem mk_19_71 : mChk 19 71 0 1 2 mJ2_getChar_3b067 [3088, 3089, 1019] = true := by decide +kernel
theorem mk_19_96 : mChk 19 96 0 0 3 mJ2_checkBoundsBeginEnd_d044e [4077, 4078, 1019] = true := by decide +kernel
theorem mk_19_111 : mChk 19 111 0 0 3 mJ2_putChar_b72d1 [4051, 4052, 1019] = true := by decide +kernel
theorem mk_19_123 : mChk 19 123 0 1 5 mJ2_compress_5af95 [4167, 4168, 1019] = true := by decide +kernel
theorem mk_19_126 : mChk 19 126 0 3 3 mJ7_copyOfRange_39247 [4170, 4156, 1024] = true := by decide +kernel
theorem mk_19_173 : mChk 19 173 0 0 3 mJ2_checkBoundsOffCount_d044e [4042, 4043, 1019] = true := by decide +kernel
theorem mk_19_241 : mChk 19 241 0 0 3 mJ0_checkBoundsBeginEnd_23922 [4080, 4081, 1016] = true := by decide +kernel
theorem mk_19_393 : mChk 19 393 0 1 3 mJ2_getChars_ba4f3 [4123, 4124, 1019] = true := by decide +kernel
theorem mk_19_414 : mChk 19 414 0 0 2 mJ0_checkIndex_df160 [3087, 3071, 1016] = true := by decide +kernel
theorem mk_19_419 : mChk 19 419 0 1 3 mJ0_checkBoundsOffCount_cabcc [4045, 4046, 1016] = true := by decide +kernel
def mlT_21 : List Ml := [(21, 304, 0, 1, 2, mJ9_min_7cf53), (21, 339, 0, 3, 3, mJ7_copyOfRangeByte_39247), (21, 343, 0, 0, 2, mJ7_checkLength_df160)]
def mlI_21 : List (List Nat) := [[4020, 2053, 1010], [4158, 4159, 1024], [4161, 4162, 1024]]
theorem mk_21_304 : mChk 21 304 0 1 2 mJ9_min_7cf53 [4020, 2053, 1010] = true := by decide +kernel
theorem mk_21_339 : mChk 21 339 0 3 3 mJ7_copyOfRangeByte_39247 [4158, 4159, 1024] = true := by decide +kernel
theorem mk_21_343 : mChk 21 343 0 0 2 mJ7_checkLength_df160 [4161, 4162, 1024] = true := by decide +kernel
def mlT_22 : List Ml := [(22, 194, 0, 1, 2, mJ9_max_7cf53), (22, 201, 0, 1, 2, mJ8_hugeLength_7cf53)]
def mlI_22 : List (List Nat) := [[4004, 2056, 1010], [4006, 4007, 1023]]
theorem mk_22_194 : mChk 22 194 0 1 2 mJ9_max_7cf53 [4004, 2056, 1010] = true := by decide +kernel
theorem mk_22_201 : mChk 22 201 0 1 2 mJ8_hugeLength_7cf53 [4006, 4007, 1023] = true := by decide +kernel
def mlT_24 : List Ml := [(24, 9, 2, 0, 0, mX11_init), (24, 12, 2, 0, 0, mX12_init), (24, 13, 1, 1, 3, mX11_make), (24, 17, 1, 1, 3, mX12_make), (24, 18, 1, 1, 2, mX11_thing), (24, 22, 1, 1, 2, mX12_thing), (24, 23, 1, 1, 2, mX11_same), (24, 26, 1, 1, 2, mX12_same), (24, 27, 1, 1, 2, mX11_of), (24, 30, 1, 1, 2, mX12_of), (24, 31, 1, 1, 3, mX11_read), (24, 34, 1, 1, 3, mX12_read), (24, 35, 1, 2, 1, mX11_latch), (24, 39, 1, 2, 1, mX12_latch), (24, 42, 1, 1, 4, mX11_write), (24, 46, 1, 1, 4, mX12_write), (24, 47, 1, 1, 5, mX11_real), (24, 51, 1, 1, 5, mX12_real), (24, 52, 1, 1, 4, mX11_box), (24, 55, 1, 1, 4, mX12_box), (24, 56, 1, 1, 1, mX11_lax), (24, 60, 1, 1, 1, mX12_lax), (24, 61, 1, 1, 2, mX11_feed), (24, 64, 1, 1, 2, mX12_feed), (24, 65, 1, 1, 1, mX11_define), (24, 68, 1, 1, 1, mX12_define), (24, 69, 1, 1, 1, mX11_drop), (24, 72, 1, 1, 1, mX12_drop), (24, 73, 1, 1, 3, mX11_field), (24, 76, 1, 1, 3, mX12_field), (24, 77, 1, 1, 1, mX11_spell), (24, 80, 1, 1, 1, mX12_spell), (24, 81, 1, 1, 1, mX11_paper), (24, 84, 1, 1, 1, mX12_paper), (24, 85, 1, 1, 1, mX11_pack), (24, 88, 1, 1, 1, mX12_pack), (24, 89, 1, 1, 2, mX11_load), (24, 92, 1, 1, 2, mX12_load), (24, 93, 1, 1, 1, mX11_stop), (24, 96, 1, 1, 1, mX12_stop), (24, 97, 1, 1, 1, mX11_wire), (24, 100, 1, 1, 1, mX12_wire), (24, 101, 1, 1, 2, mX11_poke), (24, 104, 1, 1, 2, mX12_poke), (24, 105, 1, 1, 1, mX11_cut), (24, 108, 1, 1, 1, mX12_cut), (24, 109, 1, 1, 2, mX11_frame), (24, 112, 1, 1, 2, mX12_frame), (24, 113, 1, 1, 1, mX11_bytes), (24, 116, 1, 1, 1, mX12_bytes), (24, 117, 1, 1, 3, mX11_mode), (24, 120, 1, 1, 3, mX12_mode), (24, 121, 1, 1, 0, mX11_smallest), (24, 125, 1, 1, 0, mX12_smallest), (24, 126, 1, 1, 1, mX11_scan), (24, 129, 1, 1, 1, mX12_scan), (24, 130, 1, 1, 1, mX11_found), (24, 133, 1, 1, 1, mX12_found), (24, 134, 1, 1, 3, mX11_fit), (24, 137, 1, 1, 3, mX12_fit), (24, 138, 1, 1, 2, mX11_trip), (24, 141, 1, 1, 2, mX12_trip), (24, 142, 1, 1, 2, mX11_alike), (24, 145, 1, 1, 2, mX12_alike), (24, 146, 1, 2, 1, mX11_digest), (24, 149, 1, 2, 1, mX12_digest), (24, 150, 1, 1, 0, mX11_image), (24, 153, 1, 1, 0, mX12_image), (24, 154, 1, 1, 0, mX11_back), (24, 157, 1, 1, 0, mX12_back), (24, 158, 1, 1, 1, mX11_count), (24, 161, 1, 1, 1, mX12_count)]
def mlI_24 : List (List Nat) := [[1029, 1030, 1001], [6044, 6045, 1008], [2040, 2041, 2042, 1001], [7004, 7005, 7006, 1008], [2076, 2077, 2078, 1001], [7022, 7023, 7024, 1008], [2080, 2081, 2082, 1001], [7026, 7027, 7028, 1008], [2084, 2085, 2086, 1001], [7030, 7031, 7032, 1008], [2096, 2097, 2098, 1001], [7034, 7035, 7036, 1008], [2149, 2150, 2151, 1001], [7078, 7079, 7080, 1008], [2154, 2155, 2156, 1001], [7083, 7084, 7085, 1008], [2178, 2179, 2180, 1001], [7091, 7092, 7093, 1008], [2194, 2195, 2196, 1001], [7095, 7096, 7097, 1008], [2199, 2200, 2201, 1001], [7099, 7100, 7101, 1008], [2203, 2204, 2205, 1001], [7103, 7104, 7105, 1008], [2210, 2211, 2212, 1001], [7107, 7108, 7109, 1008], [3171, 3172, 3173, 1001], [7160, 7161, 7162, 1008], [3179, 3180, 3181, 1001], [7164, 7165, 7166, 1008], [3188, 3189, 3190, 1001], [7173, 7174, 7175, 1008], [4186, 4187, 4188, 1001], [7192, 7193, 7194, 1008], [4191, 4192, 4193, 1001], [7196, 7197, 7198, 1008], [5028, 5029, 5030, 1001], [7236, 7237, 7238, 1008], [5122, 5123, 5124, 1001], [8055, 8056, 8057, 1008], [5126, 5127, 5128, 1001], [8059, 8060, 8061, 1008], [5130, 5131, 5132, 1001], [8063, 8064, 8065, 1008], [5134, 5135, 5136, 1001], [8067, 8068, 8069, 1008], [5138, 5139, 5140, 1001], [8071, 8072, 8073, 1008], [5154, 5155, 5156, 1001], [8081, 8082, 8083, 1008], [5162, 5163, 5164, 1001], [8085, 8086, 8087, 1008], [5172, 5173, 5174, 1001], [8093, 8094, 8095, 1008], [5176, 5177, 5178, 1001], [8097, 8098, 8099, 1008], [5180, 5181, 5182, 1001], [8101, 8102, 8103, 1008], [5184, 5185, 5186, 1001], [8105, 8106, 8107, 1008], [5199, 5200, 5201, 1001], [8109, 8110, 8111, 1008], [5217, 5218, 5219, 1001], [8122, 8123, 8124, 1008], [5223, 5224, 5225, 1001], [8126, 8127, 8128, 1008], [5234, 5235, 5236, 1001], [8139, 8140, 8141, 1008], [6022, 6023, 6024, 1001], [8147, 8148, 8149, 1008], [6026, 6027, 6028, 1001], [8151, 8152, 8153, 1008]]
theorem mk_24_9 : mChk 24 9 2 0 0 mX11_init [1029, 1030, 1001] = true := by decide +kernel
theorem mk_24_12 : mChk 24 12 2 0 0 mX12_init [6044, 6045, 1008] = true := by decide +kernel
theorem mk_24_13 : mChk 24 13 1 1 3 mX11_make [2040, 2041, 2042, 1001] = true := by decide +kernel
theorem mk_24_17 : mChk 24 17 1 1 3 mX12_make [7004, 7005, 7006, 1008] = true := by decide +kernel
theorem mk_24_18 : mChk 24 18 1 1 2 mX11_thing [2076, 2077, 2078, 1001] = true := by decide +kernel
theorem mk_24_22 : mChk 24 22 1 1 2 mX12_thing [7022, 7023, 7024, 1008] = true := by decide +kernel
theorem mk_24_23 : mChk 24 23 1 1 2 mX11_same [2080, 2081, 2082, 1001] = true := by decide +kernel
theorem mk_24_26 : mChk 24 26 1 1 2 mX12_same [7026, 7027, 7028, 1008] = true := by decide +kernel
theorem mk_24_27 : mChk 24 27 1 1 2 mX11_of [2084, 2085, 2086, 1001] = true := by decide +kernel
theorem mk_24_30 : mChk 24 30 1 1 2 mX12_of [7030, 7031, 7032, 1008] = true := by decide +kernel
theorem mk_24_31 : mChk 24 31 1 1 3 mX11_read [2096, 2097, 2098, 1001] = true := by decide +kernel
theorem mk_24_34 : mChk 24 34 1 1 3 mX12_read [7034, 7035, 7036, 1008] = true := by decide +kernel
theorem mk_24_35 : mChk 24 35 1 2 1 mX11_latch [2149, 2150, 2151, 1001] = true := by decide +kernel
theorem mk_24_39 : mChk 24 39 1 2 1 mX12_latch [7078, 7079, 7080, 1008] = true := by decide +kernel
theorem mk_24_42 : mChk 24 42 1 1 4 mX11_write [2154, 2155, 2156, 1001] = true := by decide +kernel
theorem mk_24_46 : mChk 24 46 1 1 4 mX12_write [7083, 7084, 7085, 1008] = true := by decide +kernel
theorem mk_24_47 : mChk 24 47 1 1 5 mX11_real [2178, 2179, 2180, 1001] = true := by decide +kernel
theorem mk_24_51 : mChk 24 51 1 1 5 mX12_real [7091, 7092, 7093, 1008] = true := by decide +kernel
theorem mk_24_52 : mChk 24 52 1 1 4 mX11_box [2194, 2195, 2196, 1001] = true := by decide +kernel
theorem mk_24_55 : mChk 24 55 1 1 4 mX12_box [7095, 7096, 7097, 1008] = true := by decide +kernel
theorem mk_24_56 : mChk 24 56 1 1 1 mX11_lax [2199, 2200, 2201, 1001] = true := by decide +kernel
theorem mk_24_60 : mChk 24 60 1 1 1 mX12_lax [7099, 7100, 7101, 1008] = true := by decide +kernel
theorem mk_24_61 : mChk 24 61 1 1 2 mX11_feed [2203, 2204, 2205, 1001] = true := by decide +kernel
theorem mk_24_64 : mChk 24 64 1 1 2 mX12_feed [7103, 7104, 7105, 1008] = true := by decide +kernel
theorem mk_24_65 : mChk 24 65 1 1 1 mX11_define [2210, 2211, 2212, 1001] = true := by decide +kernel
theorem mk_24_68 : mChk 24 68 1 1 1 mX12_define [7107, 7108, 7109, 1008] = true := by decide +kernel
theorem mk_24_69 : mChk 24 69 1 1 1 mX11_drop [3171, 3172, 3173, 1001] = true := by decide +kernel
theorem mk_24_72 : mChk 24 72 1 1 1 mX12_drop [7160, 7161, 7162, 1008] = true := by decide +kernel
theorem mk_24_73 : mChk 24 73 1 1 3 mX11_field [3179, 3180, 3181, 1001] = true := by decide +kernel
theorem mk_24_76 : mChk 24 76 1 1 3 mX12_field [7164, 7165, 7166, 1008] = true := by decide +kernel
theorem mk_24_77 : mChk 24 77 1 1 1 mX11_spell [3188, 3189, 3190, 1001] = true := by decide +kernel
theorem mk_24_80 : mChk 24 80 1 1 1 mX12_spell [7173, 7174, 7175, 1008] = true := by decide +kernel
theorem mk_24_81 : mChk 24 81 1 1 1 mX11_paper [4186, 4187, 4188, 1001] = true := by decide +kernel
theorem mk_24_84 : mChk 24 84 1 1 1 mX12_paper [7192, 7193, 7194, 1008] = true := by decide +kernel
theorem mk_24_85 : mChk 24 85 1 1 1 mX11_pack [4191, 4192, 4193, 1001] = true := by decide +kernel
theorem mk_24_88 : mChk 24 88 1 1 1 mX12_pack [7196, 7197, 7198, 1008] = true := by decide +kernel
theorem mk_24_89 : mChk 24 89 1 1 2 mX11_load [5028, 5029, 5030, 1001] = true := by decide +kernel
theorem mk_24_92 : mChk 24 92 1 1 2 mX12_load [7236, 7237, 7238, 1008] = true := by decide +kernel
theorem mk_24_93 : mChk 24 93 1 1 1 mX11_stop [5122, 5123, 5124, 1001] = true := by decide +kernel
theorem mk_24_96 : mChk 24 96 1 1 1 mX12_stop [8055, 8056, 8057, 1008] = true := by decide +kernel
theorem mk_24_97 : mChk 24 97 1 1 1 mX11_wire [5126, 5127, 5128, 1001] = true := by decide +kernel
theorem mk_24_100 : mChk 24 100 1 1 1 mX12_wire [8059, 8060, 8061, 1008] = true := by decide +kernel
theorem mk_24_101 : mChk 24 101 1 1 2 mX11_poke [5130, 5131, 5132, 1001] = true := by decide +kernel
theorem mk_24_104 : mChk 24 104 1 1 2 mX12_poke [8063, 8064, 8065, 1008] = true := by decide +kernel
theorem mk_24_105 : mChk 24 105 1 1 1 mX11_cut [5134, 5135, 5136, 1001] = true := by decide +kernel
theorem mk_24_108 : mChk 24 108 1 1 1 mX12_cut [8067, 8068, 8069, 1008] = true := by decide +kernel
theorem mk_24_109 : mChk 24 109 1 1 2 mX11_frame [5138, 5139, 5140, 1001] = true := by decide +kernel
theorem mk_24_112 : mChk 24 112 1 1 2 mX12_frame [8071, 8072, 8073, 1008] = true := by decide +kernel
theorem mk_24_113 : mChk 24 113 1 1 1 mX11_bytes [5154, 5155, 5156, 1001] = true := by decide +kernel
theorem mk_24_116 : mChk 24 116 1 1 1 mX12_bytes [8081, 8082, 8083, 1008] = true := by decide +kernel
theorem mk_24_117 : mChk 24 117 1 1 3 mX11_mode [5162, 5163, 5164, 1001] = true := by decide +kernel
theorem mk_24_120 : mChk 24 120 1 1 3 mX12_mode [8085, 8086, 8087, 1008] = true := by decide +kernel
theorem mk_24_121 : mChk 24 121 1 1 0 mX11_smallest [5172, 5173, 5174, 1001] = true := by decide +kernel
theorem mk_24_125 : mChk 24 125 1 1 0 mX12_smallest [8093, 8094, 8095, 1008] = true := by decide +kernel
theorem mk_24_126 : mChk 24 126 1 1 1 mX11_scan [5176, 5177, 5178, 1001] = true := by decide +kernel
theorem mk_24_129 : mChk 24 129 1 1 1 mX12_scan [8097, 8098, 8099, 1008] = true := by decide +kernel
theorem mk_24_130 : mChk 24 130 1 1 1 mX11_found [5180, 5181, 5182, 1001] = true := by decide +kernel
theorem mk_24_133 : mChk 24 133 1 1 1 mX12_found [8101, 8102, 8103, 1008] = true := by decide +kernel
theorem mk_24_134 : mChk 24 134 1 1 3 mX11_fit [5184, 5185, 5186, 1001] = true := by decide +kernel
theorem mk_24_137 : mChk 24 137 1 1 3 mX12_fit [8105, 8106, 8107, 1008] = true := by decide +kernel
theorem mk_24_138 : mChk 24 138 1 1 2 mX11_trip [5199, 5200, 5201, 1001] = true := by decide +kernel
theorem mk_24_141 : mChk 24 141 1 1 2 mX12_trip [8109, 8110, 8111, 1008] = true := by decide +kernel
theorem mk_24_142 : mChk 24 142 1 1 2 mX11_alike [5217, 5218, 5219, 1001] = true := by decide +kernel
theorem mk_24_145 : mChk 24 145 1 1 2 mX12_alike [8122, 8123, 8124, 1008] = true := by decide +kernel
theorem mk_24_146 : mChk 24 146 1 2 1 mX11_digest [5223, 5224, 5225, 1001] = true := by decide +kernel
theorem mk_24_149 : mChk 24 149 1 2 1 mX12_digest [8126, 8127, 8128, 1008] = true := by decide +kernel
theorem mk_24_150 : mChk 24 150 1 1 0 mX11_image [5234, 5235, 5236, 1001] = true := by decide +kernel
theorem mk_24_153 : mChk 24 153 1 1 0 mX12_image [8139, 8140, 8141, 1008] = true := by decide +kernel
theorem mk_24_154 : mChk 24 154 1 1 0 mX11_back [6022, 6023, 6024, 1001] = true := by decide +kernel
theorem mk_24_157 : mChk 24 157 1 1 0 mX12_back [8147, 8148, 8149, 1008] = true := by decide +kernel
theorem mk_24_158 : mChk 24 158 1 1 1 mX11_count [6026, 6027, 6028, 1001] = true := by decide +kernel
theorem mk_24_161 : mChk 24 161 1 1 1 mX12_count [8151, 8152, 8153, 1008] = true := by decide +kernel
def mlT_25 : List Ml := [(25, 122, 0, 1, 1, mJxe99ae_isNaN_b9ae7)]
def mlI_25 : List (List Nat) := [[7058, 7059, 1013]]
theorem mk_25_122 : mChk 25 122 0 1 1 mJxe99ae_isNaN_b9ae7 [7058, 7059, 1013] = true := by decide +kernel
def mlT_26 : List Ml := [(26, 59, 0, 1, 1, mJxf58ca_isNaN_12338)]
def mlI_26 : List (List Nat) := [[7071, 7072, 1012]]
theorem mk_26_59 : mChk 26 59 0 1 1 mJxf58ca_isNaN_12338 [7071, 7072, 1012] = true := by decide +kernel
def mOk (q : Ml) : Prop := (∃ is, mChk q.1 q.2.1 q.2.2.1 q.2.2.2.1 q.2.2.2.2.1 q.2.2.2.2.2 is = true) ∧ Cond.code (mN q.2.2.2.2.2) (mC q.2.2.2.2.2) (mL q.2.2.2.2.2) (mR q.2.2.2.2.2) ∈ GL
theorem mlT_0_ok : ∀ q ∈ mlT_0, mOk q := List.forall_mem_cons.mpr ⟨⟨⟨_, mk_0_19⟩, cdX0_add⟩, fun _ h => absurd h List.not_mem_nil⟩
theorem mlT_1_ok : ∀ q ∈ mlT_1, mOk q := List.forall_mem_cons.mpr ⟨⟨⟨_, mk_1_32⟩, cdX4_widens⟩, List.forall_mem_cons.mpr ⟨⟨⟨_, mk_1_38⟩, cdX4_isWholeKind⟩, List.forall_mem_cons.mpr ⟨⟨⟨_, mk_1_42⟩, cdJ4_append_cf468⟩, List.forall_mem_cons.mpr ⟨⟨⟨_, mk_1_48⟩, cdX10_word⟩, List.forall_mem_cons.mpr ⟨⟨⟨_, mk_1_54⟩, cdJ4_append_15ec4⟩, List.forall_mem_cons.mpr ⟨⟨⟨_, mk_1_59⟩, cdJ4_append_bf812⟩, fun _ h => absurd h List.not_mem_nil⟩⟩⟩⟩⟩⟩
theorem mlT_2_ok : ∀ q ∈ mlT_2, mOk q := List.forall_mem_cons.mpr ⟨⟨⟨_, mk_2_59⟩, cdX11_isVersion⟩, List.forall_mem_cons.mpr ⟨⟨⟨_, mk_2_63⟩, cdX2_loses⟩, List.forall_mem_cons.mpr ⟨⟨⟨_, mk_2_67⟩, cdX2_sumOf⟩, List.forall_mem_cons.mpr ⟨⟨⟨_, mk_2_71⟩, cdX2_reads⟩, List.forall_mem_cons.mpr ⟨⟨⟨_, mk_2_75⟩, cdX2_readsPresent⟩, List.forall_mem_cons.mpr ⟨⟨⟨_, mk_2_86⟩, cdX2_readsSize⟩, List.forall_mem_cons.mpr ⟨⟨⟨_, mk_2_90⟩, cdX2_readsCells⟩, List.forall_mem_cons.mpr ⟨⟨⟨_, mk_2_93⟩, cdX2_fieldsPresent⟩, List.forall_mem_cons.mpr ⟨⟨⟨_, mk_2_97⟩, cdX2_cellsPresent⟩, List.forall_mem_cons.mpr ⟨⟨⟨_, mk_2_100⟩, cdX2_nextByte⟩, List.forall_mem_cons.mpr ⟨⟨⟨_, mk_2_112⟩, cdJ9_min_7cf53⟩, List.forall_mem_cons.mpr ⟨⟨⟨_, mk_2_121⟩, cdX2_readsBoxes⟩, List.forall_mem_cons.mpr ⟨⟨⟨_, mk_2_124⟩, cdX2_readsSteps⟩, List.forall_mem_cons.mpr ⟨⟨⟨_, mk_2_128⟩, cdX2_readsRuns⟩, List.forall_mem_cons.mpr ⟨⟨⟨_, mk_2_131⟩, cdX2_readsPlain⟩, List.forall_mem_cons.mpr ⟨⟨⟨_, mk_2_134⟩, cdX4_isNumberKind⟩, List.forall_mem_cons.mpr ⟨⟨⟨_, mk_2_139⟩, cdX2_readsValue⟩, List.forall_mem_cons.mpr ⟨⟨⟨_, mk_2_143⟩, cdX2_keep⟩, List.forall_mem_cons.mpr ⟨⟨⟨_, mk_2_147⟩, cdX4_has⟩, fun _ h => absurd h List.not_mem_nil⟩⟩⟩⟩⟩⟩⟩⟩⟩⟩⟩⟩⟩⟩⟩⟩⟩⟩⟩
theorem mlT_4_ok : ∀ q ∈ mlT_4, mOk q := List.forall_mem_cons.mpr ⟨⟨⟨_, mk_4_9⟩, cdX4_isNumberKind⟩, List.forall_mem_cons.mpr ⟨⟨⟨_, mk_4_21⟩, cdX4_nearest⟩, List.forall_mem_cons.mpr ⟨⟨⟨_, mk_4_25⟩, cdX4_isWholeKind⟩, List.forall_mem_cons.mpr ⟨⟨⟨_, mk_4_28⟩, cdX4_doubleOfFloat⟩, List.forall_mem_cons.mpr ⟨⟨⟨_, mk_4_36⟩, cdJ9_abs_067f4⟩, List.forall_mem_cons.mpr ⟨⟨⟨_, mk_4_41⟩, cdX4_asFloat⟩, List.forall_mem_cons.mpr ⟨⟨⟨_, mk_4_44⟩, cdX4_ratio⟩, List.forall_mem_cons.mpr ⟨⟨⟨_, mk_4_48⟩, cdX4_signed⟩, List.forall_mem_cons.mpr ⟨⟨⟨_, mk_4_52⟩, cdX4_topBit⟩, List.forall_mem_cons.mpr ⟨⟨⟨_, mk_4_56⟩, cdX4_digitsOf⟩, List.forall_mem_cons.mpr ⟨⟨⟨_, mk_4_60⟩, cdX4_rounded⟩, List.forall_mem_cons.mpr ⟨⟨⟨_, mk_4_64⟩, cdX4_composed⟩, fun _ h => absurd h List.not_mem_nil⟩⟩⟩⟩⟩⟩⟩⟩⟩⟩⟩⟩
theorem mlT_5_ok : ∀ q ∈ mlT_5, mOk q := List.forall_mem_cons.mpr ⟨⟨⟨_, mk_5_11⟩, cdX0_init⟩, List.forall_mem_cons.mpr ⟨⟨⟨_, mk_5_20⟩, cdX6_init⟩, List.forall_mem_cons.mpr ⟨⟨⟨_, mk_5_46⟩, cdX5_presentBits⟩, List.forall_mem_cons.mpr ⟨⟨⟨_, mk_5_50⟩, cdX0_add⟩, List.forall_mem_cons.mpr ⟨⟨⟨_, mk_5_66⟩, cdX5_gathers⟩, List.forall_mem_cons.mpr ⟨⟨⟨_, mk_5_70⟩, cdX7_size⟩, List.forall_mem_cons.mpr ⟨⟨⟨_, mk_5_76⟩, cdX5_addField⟩, List.forall_mem_cons.mpr ⟨⟨⟨_, mk_5_84⟩, cdX5_refuses⟩, List.forall_mem_cons.mpr ⟨⟨⟨_, mk_5_94⟩, cdX7_refusalToView⟩, List.forall_mem_cons.mpr ⟨⟨⟨_, mk_5_102⟩, cdX4_widened⟩, List.forall_mem_cons.mpr ⟨⟨⟨_, mk_5_108⟩, cdX5_addBoxes⟩, List.forall_mem_cons.mpr ⟨⟨⟨_, mk_5_111⟩, cdX5_addNumbers⟩, List.forall_mem_cons.mpr ⟨⟨⟨_, mk_5_114⟩, cdX4_width⟩, List.forall_mem_cons.mpr ⟨⟨⟨_, mk_5_118⟩, cdX0_addNumber⟩, List.forall_mem_cons.mpr ⟨⟨⟨_, mk_5_122⟩, cdX6_choose⟩, List.forall_mem_cons.mpr ⟨⟨⟨_, mk_5_135⟩, cdX5_addSteps⟩, List.forall_mem_cons.mpr ⟨⟨⟨_, mk_5_138⟩, cdX5_addRuns⟩, fun _ h => absurd h List.not_mem_nil⟩⟩⟩⟩⟩⟩⟩⟩⟩⟩⟩⟩⟩⟩⟩⟩⟩
theorem mlT_6_ok : ∀ q ∈ mlT_6, mOk q := List.forall_mem_cons.mpr ⟨⟨⟨_, mk_6_24⟩, cdX4_width⟩, List.forall_mem_cons.mpr ⟨⟨⟨_, mk_6_30⟩, cdJ9_max_7cf53⟩, List.forall_mem_cons.mpr ⟨⟨⟨_, mk_6_36⟩, cdX6_offer⟩, fun _ h => absurd h List.not_mem_nil⟩⟩⟩
theorem mlT_7_ok : ∀ q ∈ mlT_7, mOk q := List.forall_mem_cons.mpr ⟨⟨⟨_, mk_7_9⟩, cdJ9_min_7cf53⟩, List.forall_mem_cons.mpr ⟨⟨⟨_, mk_7_15⟩, cdJ9_max_7cf53⟩, List.forall_mem_cons.mpr ⟨⟨⟨_, mk_7_32⟩, cdX7_size⟩, List.forall_mem_cons.mpr ⟨⟨⟨_, mk_7_36⟩, cdX7_init⟩, List.forall_mem_cons.mpr ⟨⟨⟨_, mk_7_45⟩, cdX4_widens⟩, List.forall_mem_cons.mpr ⟨⟨⟨_, mk_7_51⟩, cdX7_refusalOfBox⟩, List.forall_mem_cons.mpr ⟨⟨⟨_, mk_7_55⟩, cdX4_widened⟩, List.forall_mem_cons.mpr ⟨⟨⟨_, mk_7_59⟩, cdX4_isWholeKind⟩, List.forall_mem_cons.mpr ⟨⟨⟨_, mk_7_63⟩, cdX7_agrees⟩, fun _ h => absurd h List.not_mem_nil⟩⟩⟩⟩⟩⟩⟩⟩⟩
theorem mlT_8_ok : ∀ q ∈ mlT_8, mOk q := List.forall_mem_cons.mpr ⟨⟨⟨_, mk_8_37⟩, cdX8_nextField⟩, List.forall_mem_cons.mpr ⟨⟨⟨_, mk_8_43⟩, cdX10_init⟩, List.forall_mem_cons.mpr ⟨⟨⟨_, mk_8_46⟩, cdX8_here⟩, List.forall_mem_cons.mpr ⟨⟨⟨_, mk_8_50⟩, cdX8_faultAt⟩, List.forall_mem_cons.mpr ⟨⟨⟨_, mk_8_54⟩, cdX11_isSlot⟩, List.forall_mem_cons.mpr ⟨⟨⟨_, mk_8_57⟩, cdX8_skips⟩, List.forall_mem_cons.mpr ⟨⟨⟨_, mk_8_61⟩, cdX8_nextKind⟩, List.forall_mem_cons.mpr ⟨⟨⟨_, mk_8_64⟩, cdX8_nextCells⟩, List.forall_mem_cons.mpr ⟨⟨⟨_, mk_8_67⟩, cdX8_readsDefault⟩, List.forall_mem_cons.mpr ⟨⟨⟨_, mk_8_70⟩, cdX1_init⟩, List.forall_mem_cons.mpr ⟨⟨⟨_, mk_8_73⟩, cdX10_word⟩, List.forall_mem_cons.mpr ⟨⟨⟨_, mk_8_77⟩, cdX8_isWord⟩, List.forall_mem_cons.mpr ⟨⟨⟨_, mk_8_81⟩, cdJ0_length_8abf5⟩, List.forall_mem_cons.mpr ⟨⟨⟨_, mk_8_86⟩, cdJ0_charAt_5068e⟩, List.forall_mem_cons.mpr ⟨⟨⟨_, mk_8_90⟩, cdX8_nextDigits⟩, List.forall_mem_cons.mpr ⟨⟨⟨_, mk_8_94⟩, cdJ9_max_7cf53⟩, fun _ h => absurd h List.not_mem_nil⟩⟩⟩⟩⟩⟩⟩⟩⟩⟩⟩⟩⟩⟩⟩⟩
theorem mlT_9_ok : ∀ q ∈ mlT_9, mOk q := List.forall_mem_cons.mpr ⟨⟨⟨_, mk_9_41⟩, cdX10_placeOf⟩, List.forall_mem_cons.mpr ⟨⟨⟨_, mk_9_51⟩, cdX9_fill⟩, List.forall_mem_cons.mpr ⟨⟨⟨_, mk_9_55⟩, cdX9_fillByDefault⟩, List.forall_mem_cons.mpr ⟨⟨⟨_, mk_9_69⟩, cdX7_init⟩, List.forall_mem_cons.mpr ⟨⟨⟨_, mk_9_80⟩, cdX9_enter⟩, List.forall_mem_cons.mpr ⟨⟨⟨_, mk_9_85⟩, cdX7_refusalOfBox⟩, List.forall_mem_cons.mpr ⟨⟨⟨_, mk_9_89⟩, cdX7_put⟩, List.forall_mem_cons.mpr ⟨⟨⟨_, mk_9_93⟩, cdX4_isWholeKind⟩, List.forall_mem_cons.mpr ⟨⟨⟨_, mk_9_99⟩, cdX4_has⟩, List.forall_mem_cons.mpr ⟨⟨⟨_, mk_9_113⟩, cdX4_byLong⟩, List.forall_mem_cons.mpr ⟨⟨⟨_, mk_9_117⟩, cdX7_size⟩, fun _ h => absurd h List.not_mem_nil⟩⟩⟩⟩⟩⟩⟩⟩⟩⟩⟩
theorem mlT_10_ok : ∀ q ∈ mlT_10, mOk q := List.forall_mem_cons.mpr ⟨⟨⟨_, mk_10_44⟩, cdJ4_init_da8c8⟩, List.forall_mem_cons.mpr ⟨⟨⟨_, mk_10_45⟩, cdJ4_append_cf468⟩, List.forall_mem_cons.mpr ⟨⟨⟨_, mk_10_49⟩, cdX1_spellTo⟩, List.forall_mem_cons.mpr ⟨⟨⟨_, mk_10_53⟩, cdJ4_toString_0e30d⟩, fun _ h => absurd h List.not_mem_nil⟩⟩⟩⟩
theorem mlT_11_ok : ∀ q ∈ mlT_11, mOk q := List.forall_mem_cons.mpr ⟨⟨⟨_, mk_11_35⟩, cdX5_init⟩, List.forall_mem_cons.mpr ⟨⟨⟨_, mk_11_42⟩, cdX2_init⟩, List.forall_mem_cons.mpr ⟨⟨⟨_, mk_11_49⟩, cdX9_init⟩, List.forall_mem_cons.mpr ⟨⟨⟨_, mk_11_59⟩, cdX3_init⟩, List.forall_mem_cons.mpr ⟨⟨⟨_, mk_11_87⟩, cdX11_isSlot⟩, List.forall_mem_cons.mpr ⟨⟨⟨_, mk_11_91⟩, cdX7_init⟩, List.forall_mem_cons.mpr ⟨⟨⟨_, mk_11_97⟩, cdX7_size⟩, List.forall_mem_cons.mpr ⟨⟨⟨_, mk_11_101⟩, cdX11_holdersOf⟩, List.forall_mem_cons.mpr ⟨⟨⟨_, mk_11_105⟩, cdX7_refusalToView⟩, List.forall_mem_cons.mpr ⟨⟨⟨_, mk_11_109⟩, cdX11_refusedBy⟩, List.forall_mem_cons.mpr ⟨⟨⟨_, mk_11_120⟩, cdX4_widened⟩, List.forall_mem_cons.mpr ⟨⟨⟨_, mk_11_128⟩, cdX4_isNumberKind⟩, List.forall_mem_cons.mpr ⟨⟨⟨_, mk_11_131⟩, cdX4_byLong⟩, List.forall_mem_cons.mpr ⟨⟨⟨_, mk_11_135⟩, cdX11_enterNumber⟩, List.forall_mem_cons.mpr ⟨⟨⟨_, mk_11_139⟩, cdX4_quotient⟩, List.forall_mem_cons.mpr ⟨⟨⟨_, mk_11_143⟩, cdX7_refusalOfBox⟩, List.forall_mem_cons.mpr ⟨⟨⟨_, mk_11_146⟩, cdX7_put⟩, List.forall_mem_cons.mpr ⟨⟨⟨_, mk_11_150⟩, cdX11_byteOf⟩, List.forall_mem_cons.mpr ⟨⟨⟨_, mk_11_154⟩, cdX11_isVersion⟩, List.forall_mem_cons.mpr ⟨⟨⟨_, mk_11_159⟩, cdX8_init⟩, List.forall_mem_cons.mpr ⟨⟨⟨_, mk_11_162⟩, cdX8_understood⟩, List.forall_mem_cons.mpr ⟨⟨⟨_, mk_11_172⟩, cdX11_lackOf⟩, List.forall_mem_cons.mpr ⟨⟨⟨_, mk_11_179⟩, cdX1_tell⟩, List.forall_mem_cons.mpr ⟨⟨⟨_, mk_11_184⟩, cdX10_asText⟩, List.forall_mem_cons.mpr ⟨⟨⟨_, mk_11_188⟩, cdJ0_length_8abf5⟩, List.forall_mem_cons.mpr ⟨⟨⟨_, mk_11_192⟩, cdJ0_charAt_5068e⟩, List.forall_mem_cons.mpr ⟨⟨⟨_, mk_11_196⟩, cdX5_packs⟩, List.forall_mem_cons.mpr ⟨⟨⟨_, mk_11_209⟩, cdX11_stopBy⟩, List.forall_mem_cons.mpr ⟨⟨⟨_, mk_11_220⟩, cdX11_putFrame⟩, List.forall_mem_cons.mpr ⟨⟨⟨_, mk_11_224⟩, cdX11_isOnWire⟩, List.forall_mem_cons.mpr ⟨⟨⟨_, mk_11_227⟩, cdX2_stands⟩, List.forall_mem_cons.mpr ⟨⟨⟨_, mk_11_238⟩, cdX9_takes⟩, List.forall_mem_cons.mpr ⟨⟨⟨_, mk_11_254⟩, cdX2_tell⟩, List.forall_mem_cons.mpr ⟨⟨⟨_, mk_11_255⟩, cdX11_frameSize⟩, List.forall_mem_cons.mpr ⟨⟨⟨_, mk_11_260⟩, cdX5_gathers⟩, List.forall_mem_cons.mpr ⟨⟨⟨_, mk_11_271⟩, cdX6_choose⟩, List.forall_mem_cons.mpr ⟨⟨⟨_, mk_11_277⟩, cdX6_tell⟩, List.forall_mem_cons.mpr ⟨⟨⟨_, mk_11_278⟩, cdX10_placeOf⟩, List.forall_mem_cons.mpr ⟨⟨⟨_, mk_11_281⟩, cdX1_fitOfNone⟩, List.forall_mem_cons.mpr ⟨⟨⟨_, mk_11_284⟩, cdX1_fitOf⟩, List.forall_mem_cons.mpr ⟨⟨⟨_, mk_11_291⟩, cdX2_reads⟩, List.forall_mem_cons.mpr ⟨⟨⟨_, mk_11_295⟩, cdX11_cellsKept⟩, List.forall_mem_cons.mpr ⟨⟨⟨_, mk_11_298⟩, cdJ9_min_7cf53⟩, List.forall_mem_cons.mpr ⟨⟨⟨_, mk_11_303⟩, cdX7_agrees⟩, List.forall_mem_cons.mpr ⟨⟨⟨_, mk_11_307⟩, cdX11_digestOf⟩, List.forall_mem_cons.mpr ⟨⟨⟨_, mk_11_316⟩, cdX11_copyRows⟩, List.forall_mem_cons.mpr ⟨⟨⟨_, mk_11_321⟩, cdX11_copyVersions⟩, List.forall_mem_cons.mpr ⟨⟨⟨_, mk_11_338⟩, cdX11_unlikeRows⟩, List.forall_mem_cons.mpr ⟨⟨⟨_, mk_11_341⟩, cdX11_slotsWith⟩, List.forall_mem_cons.mpr ⟨⟨⟨_, mk_11_345⟩, cdX11_cellsOfUnlikeRows⟩, List.forall_mem_cons.mpr ⟨⟨⟨_, mk_11_348⟩, cdX11_versionsThere⟩, List.forall_mem_cons.mpr ⟨⟨⟨_, mk_11_351⟩, cdX7_refusalOfNumber⟩, List.forall_mem_cons.mpr ⟨⟨⟨_, mk_11_354⟩, cdX2_sumOf⟩, List.forall_mem_cons.mpr ⟨⟨⟨_, mk_11_358⟩, cdX7_agreements⟩, List.forall_mem_cons.mpr ⟨⟨⟨_, mk_11_365⟩, cdX11_firstHolder⟩, List.forall_mem_cons.mpr ⟨⟨⟨_, mk_11_369⟩, cdX7_twin⟩, List.forall_mem_cons.mpr ⟨⟨⟨_, mk_11_373⟩, cdX11_isFirstOfRow⟩, fun _ h => absurd h List.not_mem_nil⟩⟩⟩⟩⟩⟩⟩⟩⟩⟩⟩⟩⟩⟩⟩⟩⟩⟩⟩⟩⟩⟩⟩⟩⟩⟩⟩⟩⟩⟩⟩⟩⟩⟩⟩⟩⟩⟩⟩⟩⟩⟩⟩⟩⟩⟩⟩⟩⟩⟩⟩⟩⟩⟩⟩⟩⟩
theorem mlT_12_ok : ∀ q ∈ mlT_12, mOk q := List.forall_mem_cons.mpr ⟨⟨⟨_, mk_12_134⟩, cdX12_within⟩, List.forall_mem_cons.mpr ⟨⟨⟨_, mk_12_138⟩, cdJxf58ca_floatToIntBits_5c35a⟩, List.forall_mem_cons.mpr ⟨⟨⟨_, mk_12_144⟩, cdJxe99ae_doubleToLongBits_ccdee⟩, List.forall_mem_cons.mpr ⟨⟨⟨_, mk_12_154⟩, cdX12_numberOf⟩, List.forall_mem_cons.mpr ⟨⟨⟨_, mk_12_162⟩, cdX12_holders⟩, List.forall_mem_cons.mpr ⟨⟨⟨_, mk_12_166⟩, cdX12_isSlot⟩, List.forall_mem_cons.mpr ⟨⟨⟨_, mk_12_170⟩, cdX12_free⟩, List.forall_mem_cons.mpr ⟨⟨⟨_, mk_12_174⟩, cdX12_widens⟩, List.forall_mem_cons.mpr ⟨⟨⟨_, mk_12_178⟩, cdX12_bars⟩, List.forall_mem_cons.mpr ⟨⟨⟨_, mk_12_182⟩, cdX12_refuses⟩, List.forall_mem_cons.mpr ⟨⟨⟨_, mk_12_185⟩, cdX12_widened⟩, List.forall_mem_cons.mpr ⟨⟨⟨_, mk_12_195⟩, cdX12_comes⟩, List.forall_mem_cons.mpr ⟨⟨⟨_, mk_12_208⟩, cdX12_sign⟩, List.forall_mem_cons.mpr ⟨⟨⟨_, mk_12_228⟩, cdJ0_length_8abf5⟩, List.forall_mem_cons.mpr ⟨⟨⟨_, mk_12_233⟩, cdJ0_charAt_5068e⟩, List.forall_mem_cons.mpr ⟨⟨⟨_, mk_12_237⟩, cdX12_wordOf⟩, List.forall_mem_cons.mpr ⟨⟨⟨_, mk_12_241⟩, cdX12_isWord⟩, List.forall_mem_cons.mpr ⟨⟨⟨_, mk_12_245⟩, cdX12_is⟩, List.forall_mem_cons.mpr ⟨⟨⟨_, mk_12_248⟩, cdX12_isDigit⟩, List.forall_mem_cons.mpr ⟨⟨⟨_, mk_12_252⟩, cdX12_isKind⟩, List.forall_mem_cons.mpr ⟨⟨⟨_, mk_12_255⟩, cdX12_isMany⟩, List.forall_mem_cons.mpr ⟨⟨⟨_, mk_12_258⟩, cdX12_isDefault⟩, List.forall_mem_cons.mpr ⟨⟨⟨_, mk_12_261⟩, cdX12_isVersion⟩, List.forall_mem_cons.mpr ⟨⟨⟨_, mk_12_264⟩, cdX12_isField⟩, List.forall_mem_cons.mpr ⟨⟨⟨_, mk_12_267⟩, cdX12_noField⟩, List.forall_mem_cons.mpr ⟨⟨⟨_, mk_12_275⟩, cdX12_says⟩, List.forall_mem_cons.mpr ⟨⟨⟨_, mk_12_279⟩, cdJ9_abs_0f7a4⟩, List.forall_mem_cons.mpr ⟨⟨⟨_, mk_12_284⟩, cdX12_says_⟩, List.forall_mem_cons.mpr ⟨⟨⟨_, mk_12_287⟩, cdX12_saysNumber⟩, List.forall_mem_cons.mpr ⟨⟨⟨_, mk_12_302⟩, cdX12_width⟩, List.forall_mem_cons.mpr ⟨⟨⟨_, mk_12_306⟩, cdJ9_max_7cf53⟩, List.forall_mem_cons.mpr ⟨⟨⟨_, mk_12_320⟩, cdX12_weighs⟩, List.forall_mem_cons.mpr ⟨⟨⟨_, mk_12_323⟩, cdX12_puts⟩, List.forall_mem_cons.mpr ⟨⟨⟨_, mk_12_333⟩, cdX12_fails⟩, List.forall_mem_cons.mpr ⟨⟨⟨_, mk_12_336⟩, cdX12_reads⟩, List.forall_mem_cons.mpr ⟨⟨⟨_, mk_12_339⟩, cdX12_putsNumbers⟩, List.forall_mem_cons.mpr ⟨⟨⟨_, mk_12_346⟩, cdX12_packs⟩, List.forall_mem_cons.mpr ⟨⟨⟨_, mk_12_349⟩, cdX12_stops⟩, List.forall_mem_cons.mpr ⟨⟨⟨_, mk_12_356⟩, cdX12_digestOf⟩, List.forall_mem_cons.mpr ⟨⟨⟨_, mk_12_372⟩, cdX12_isLost⟩, List.forall_mem_cons.mpr ⟨⟨⟨_, mk_12_375⟩, cdX12_isCut⟩, List.forall_mem_cons.mpr ⟨⟨⟨_, mk_12_378⟩, cdX12_told⟩, List.forall_mem_cons.mpr ⟨⟨⟨_, mk_12_382⟩, cdX12_isValue⟩, List.forall_mem_cons.mpr ⟨⟨⟨_, mk_12_386⟩, cdX12_isNoValue⟩, List.forall_mem_cons.mpr ⟨⟨⟨_, mk_12_390⟩, cdX12_areNoBoxes⟩, List.forall_mem_cons.mpr ⟨⟨⟨_, mk_12_393⟩, cdX12_areNoNumbers⟩, List.forall_mem_cons.mpr ⟨⟨⟨_, mk_12_396⟩, cdX12_isNoBody⟩, List.forall_mem_cons.mpr ⟨⟨⟨_, mk_12_402⟩, cdX12_isWhole⟩, List.forall_mem_cons.mpr ⟨⟨⟨_, mk_12_405⟩, cdX12_fieldFor⟩, List.forall_mem_cons.mpr ⟨⟨⟨_, mk_12_408⟩, cdX12_fits⟩, List.forall_mem_cons.mpr ⟨⟨⟨_, mk_12_412⟩, cdX12_takesField⟩, List.forall_mem_cons.mpr ⟨⟨⟨_, mk_12_415⟩, cdX12_isNoFrame⟩, List.forall_mem_cons.mpr ⟨⟨⟨_, mk_12_418⟩, cdX12_takes⟩, List.forall_mem_cons.mpr ⟨⟨⟨_, mk_12_421⟩, cdJ6_bitCount_0f7a4⟩, List.forall_mem_cons.mpr ⟨⟨⟨_, mk_12_426⟩, cdX12_isRow⟩, List.forall_mem_cons.mpr ⟨⟨⟨_, mk_12_433⟩, cdX12_real_⟩, List.forall_mem_cons.mpr ⟨⟨⟨_, mk_12_437⟩, cdX12_areAlike⟩, List.forall_mem_cons.mpr ⟨⟨⟨_, mk_12_449⟩, cdX12_digestOf_⟩, List.forall_mem_cons.mpr ⟨⟨⟨_, mk_12_462⟩, cdX12_unlike⟩, fun _ h => absurd h List.not_mem_nil⟩⟩⟩⟩⟩⟩⟩⟩⟩⟩⟩⟩⟩⟩⟩⟩⟩⟩⟩⟩⟩⟩⟩⟩⟩⟩⟩⟩⟩⟩⟩⟩⟩⟩⟩⟩⟩⟩⟩⟩⟩⟩⟩⟩⟩⟩⟩⟩⟩⟩⟩⟩⟩⟩⟩⟩⟩⟩⟩
theorem mlT_13_ok : ∀ q ∈ mlT_13, mOk q := List.forall_mem_cons.mpr ⟨⟨⟨_, mk_13_47⟩, cdJ2_coderFromArrayLen_85cad⟩, List.forall_mem_cons.mpr ⟨⟨⟨_, mk_13_54⟩, cdJ7_copyOfRange_39247⟩, List.forall_mem_cons.mpr ⟨⟨⟨_, mk_13_106⟩, cdJ1_inflate_0e8fd⟩, List.forall_mem_cons.mpr ⟨⟨⟨_, mk_13_335⟩, cdJ0_coder_7d493⟩, List.forall_mem_cons.mpr ⟨⟨⟨_, mk_13_489⟩, cdJ0_init_db425⟩, List.forall_mem_cons.mpr ⟨⟨⟨_, mk_13_492⟩, cdJ0_isLatin1_aae02⟩, List.forall_mem_cons.mpr ⟨⟨⟨_, mk_13_495⟩, cdJ1_charAt_3b067⟩, List.forall_mem_cons.mpr ⟨⟨⟨_, mk_13_498⟩, cdJ2_charAt_3b067⟩, List.forall_mem_cons.mpr ⟨⟨⟨_, mk_13_549⟩, cdJ4_length_8abf5⟩, List.forall_mem_cons.mpr ⟨⟨⟨_, mk_13_552⟩, cdJ5_getValue_6d5f1⟩, List.forall_mem_cons.mpr ⟨⟨⟨_, mk_13_1047⟩, cdJ5_isLatin1_aae02⟩, List.forall_mem_cons.mpr ⟨⟨⟨_, mk_13_1051⟩, cdJ2_compress_39247⟩, List.forall_mem_cons.mpr ⟨⟨⟨_, mk_13_1059⟩, cdJ3_checkIndex_8e157⟩, List.forall_mem_cons.mpr ⟨⟨⟨_, mk_13_1062⟩, cdJ3_checkFromToIndex_8c36e⟩, List.forall_mem_cons.mpr ⟨⟨⟨_, mk_13_1065⟩, cdJ3_checkFromIndexSize_8c36e⟩, fun _ h => absurd h List.not_mem_nil⟩⟩⟩⟩⟩⟩⟩⟩⟩⟩⟩⟩⟩⟩⟩
theorem mlT_14_ok : ∀ q ∈ mlT_14, mOk q := List.forall_mem_cons.mpr ⟨⟨⟨_, mk_14_1⟩, cdJ5_init_d00df⟩, List.forall_mem_cons.mpr ⟨⟨⟨_, mk_14_29⟩, cdJ5_append_cf1ce⟩, List.forall_mem_cons.mpr ⟨⟨⟨_, mk_14_50⟩, cdJ5_append_3fe6f⟩, List.forall_mem_cons.mpr ⟨⟨⟨_, mk_14_53⟩, cdJ5_append_c97b9⟩, List.forall_mem_cons.mpr ⟨⟨⟨_, mk_14_137⟩, cdJ0_init_81219⟩, List.forall_mem_cons.mpr ⟨⟨⟨_, mk_14_343⟩, cdJ5_length_8abf5⟩, fun _ h => absurd h List.not_mem_nil⟩⟩⟩⟩⟩⟩
theorem mlT_15_ok : ∀ q ∈ mlT_15, mOk q := List.forall_mem_cons.mpr ⟨⟨⟨_, mk_15_26⟩, cdJ2_newBytesFor_77867⟩, List.forall_mem_cons.mpr ⟨⟨⟨_, mk_15_32⟩, cdJ0_length_8abf5⟩, List.forall_mem_cons.mpr ⟨⟨⟨_, mk_15_40⟩, cdJ0_coder_7d493⟩, List.forall_mem_cons.mpr ⟨⟨⟨_, mk_15_83⟩, cdJ5_isLatin1_aae02⟩, List.forall_mem_cons.mpr ⟨⟨⟨_, mk_15_100⟩, cdJ5_ensureCapacityInternal_d00df⟩, List.forall_mem_cons.mpr ⟨⟨⟨_, mk_15_104⟩, cdJ5_newCapacity_0f7a4⟩, List.forall_mem_cons.mpr ⟨⟨⟨_, mk_15_108⟩, cdJ7_copyOf_9075b⟩, List.forall_mem_cons.mpr ⟨⟨⟨_, mk_15_114⟩, cdJ8_newLength_cabcc⟩, List.forall_mem_cons.mpr ⟨⟨⟨_, mk_15_125⟩, cdJ1_inflate_0e8fd⟩, List.forall_mem_cons.mpr ⟨⟨⟨_, mk_15_191⟩, cdJ1_canEncode_fc78d⟩, List.forall_mem_cons.mpr ⟨⟨⟨_, mk_15_197⟩, cdJ2_putCharSB_b72d1⟩, List.forall_mem_cons.mpr ⟨⟨⟨_, mk_15_208⟩, cdJ5_putStringAt_47b60⟩, List.forall_mem_cons.mpr ⟨⟨⟨_, mk_15_226⟩, cdJ2_putCharsAt_cd4e5⟩, List.forall_mem_cons.mpr ⟨⟨⟨_, mk_15_245⟩, cdJ6_stringSize_0f7a4⟩, List.forall_mem_cons.mpr ⟨⟨⟨_, mk_15_248⟩, cdJ6_getChars_ba4f3⟩, List.forall_mem_cons.mpr ⟨⟨⟨_, mk_15_251⟩, cdJ2_getChars_46870⟩, List.forall_mem_cons.mpr ⟨⟨⟨_, mk_15_397⟩, cdJ5_inflateIfNeededFor_a7421⟩, List.forall_mem_cons.mpr ⟨⟨⟨_, mk_15_399⟩, cdJ0_getBytes_840e7⟩, fun _ h => absurd h List.not_mem_nil⟩⟩⟩⟩⟩⟩⟩⟩⟩⟩⟩⟩⟩⟩⟩⟩⟩⟩
theorem mlT_18_ok : ∀ q ∈ mlT_18, mOk q := List.forall_mem_cons.mpr ⟨⟨⟨_, mk_18_9⟩, cdJ0_checkIndex_df160⟩, List.forall_mem_cons.mpr ⟨⟨⟨_, mk_18_240⟩, cdJ2_inflate_0e8fd⟩, fun _ h => absurd h List.not_mem_nil⟩⟩
theorem mlT_19_ok : ∀ q ∈ mlT_19, mOk q := List.forall_mem_cons.mpr ⟨⟨⟨_, mk_19_11⟩, cdJ2_newBytesLength_0f7a4⟩, List.forall_mem_cons.mpr ⟨⟨⟨_, mk_19_48⟩, cdJ2_length_9d52b⟩, List.forall_mem_cons.mpr ⟨⟨⟨_, mk_19_67⟩, cdJ2_checkIndex_2214a⟩, List.forall_mem_cons.mpr ⟨⟨⟨_, mk_19_71⟩, cdJ2_getChar_3b067⟩, List.forall_mem_cons.mpr ⟨⟨⟨_, mk_19_96⟩, cdJ2_checkBoundsBeginEnd_d044e⟩, List.forall_mem_cons.mpr ⟨⟨⟨_, mk_19_111⟩, cdJ2_putChar_b72d1⟩, List.forall_mem_cons.mpr ⟨⟨⟨_, mk_19_123⟩, cdJ2_compress_5af95⟩, List.forall_mem_cons.mpr ⟨⟨⟨_, mk_19_126⟩, cdJ7_copyOfRange_39247⟩, List.forall_mem_cons.mpr ⟨⟨⟨_, mk_19_173⟩, cdJ2_checkBoundsOffCount_d044e⟩, List.forall_mem_cons.mpr ⟨⟨⟨_, mk_19_241⟩, cdJ0_checkBoundsBeginEnd_23922⟩, List.forall_mem_cons.mpr ⟨⟨⟨_, mk_19_393⟩, cdJ2_getChars_ba4f3⟩, List.forall_mem_cons.mpr ⟨⟨⟨_, mk_19_414⟩, cdJ0_checkIndex_df160⟩, List.forall_mem_cons.mpr ⟨⟨⟨_, mk_19_419⟩, cdJ0_checkBoundsOffCount_cabcc⟩, fun _ h => absurd h List.not_mem_nil⟩⟩⟩⟩⟩⟩⟩⟩⟩⟩⟩⟩⟩
theorem mlT_21_ok : ∀ q ∈ mlT_21, mOk q := List.forall_mem_cons.mpr ⟨⟨⟨_, mk_21_304⟩, cdJ9_min_7cf53⟩, List.forall_mem_cons.mpr ⟨⟨⟨_, mk_21_339⟩, cdJ7_copyOfRangeByte_39247⟩, List.forall_mem_cons.mpr ⟨⟨⟨_, mk_21_343⟩, cdJ7_checkLength_df160⟩, fun _ h => absurd h List.not_mem_nil⟩⟩⟩
theorem mlT_22_ok : ∀ q ∈ mlT_22, mOk q := List.forall_mem_cons.mpr ⟨⟨⟨_, mk_22_194⟩, cdJ9_max_7cf53⟩, List.forall_mem_cons.mpr ⟨⟨⟨_, mk_22_201⟩, cdJ8_hugeLength_7cf53⟩, fun _ h => absurd h List.not_mem_nil⟩⟩
theorem mlT_24_ok : ∀ q ∈ mlT_24, mOk q := List.forall_mem_cons.mpr ⟨⟨⟨_, mk_24_9⟩, cdX11_init⟩, List.forall_mem_cons.mpr ⟨⟨⟨_, mk_24_12⟩, cdX12_init⟩, List.forall_mem_cons.mpr ⟨⟨⟨_, mk_24_13⟩, cdX11_make⟩, List.forall_mem_cons.mpr ⟨⟨⟨_, mk_24_17⟩, cdX12_make⟩, List.forall_mem_cons.mpr ⟨⟨⟨_, mk_24_18⟩, cdX11_thing⟩, List.forall_mem_cons.mpr ⟨⟨⟨_, mk_24_22⟩, cdX12_thing⟩, List.forall_mem_cons.mpr ⟨⟨⟨_, mk_24_23⟩, cdX11_same⟩, List.forall_mem_cons.mpr ⟨⟨⟨_, mk_24_26⟩, cdX12_same⟩, List.forall_mem_cons.mpr ⟨⟨⟨_, mk_24_27⟩, cdX11_of⟩, List.forall_mem_cons.mpr ⟨⟨⟨_, mk_24_30⟩, cdX12_of⟩, List.forall_mem_cons.mpr ⟨⟨⟨_, mk_24_31⟩, cdX11_read⟩, List.forall_mem_cons.mpr ⟨⟨⟨_, mk_24_34⟩, cdX12_read⟩, List.forall_mem_cons.mpr ⟨⟨⟨_, mk_24_35⟩, cdX11_latch⟩, List.forall_mem_cons.mpr ⟨⟨⟨_, mk_24_39⟩, cdX12_latch⟩, List.forall_mem_cons.mpr ⟨⟨⟨_, mk_24_42⟩, cdX11_write⟩, List.forall_mem_cons.mpr ⟨⟨⟨_, mk_24_46⟩, cdX12_write⟩, List.forall_mem_cons.mpr ⟨⟨⟨_, mk_24_47⟩, cdX11_real⟩, List.forall_mem_cons.mpr ⟨⟨⟨_, mk_24_51⟩, cdX12_real⟩, List.forall_mem_cons.mpr ⟨⟨⟨_, mk_24_52⟩, cdX11_box⟩, List.forall_mem_cons.mpr ⟨⟨⟨_, mk_24_55⟩, cdX12_box⟩, List.forall_mem_cons.mpr ⟨⟨⟨_, mk_24_56⟩, cdX11_lax⟩, List.forall_mem_cons.mpr ⟨⟨⟨_, mk_24_60⟩, cdX12_lax⟩, List.forall_mem_cons.mpr ⟨⟨⟨_, mk_24_61⟩, cdX11_feed⟩, List.forall_mem_cons.mpr ⟨⟨⟨_, mk_24_64⟩, cdX12_feed⟩, List.forall_mem_cons.mpr ⟨⟨⟨_, mk_24_65⟩, cdX11_define⟩, List.forall_mem_cons.mpr ⟨⟨⟨_, mk_24_68⟩, cdX12_define⟩, List.forall_mem_cons.mpr ⟨⟨⟨_, mk_24_69⟩, cdX11_drop⟩, List.forall_mem_cons.mpr ⟨⟨⟨_, mk_24_72⟩, cdX12_drop⟩, List.forall_mem_cons.mpr ⟨⟨⟨_, mk_24_73⟩, cdX11_field⟩, List.forall_mem_cons.mpr ⟨⟨⟨_, mk_24_76⟩, cdX12_field⟩, List.forall_mem_cons.mpr ⟨⟨⟨_, mk_24_77⟩, cdX11_spell⟩, List.forall_mem_cons.mpr ⟨⟨⟨_, mk_24_80⟩, cdX12_spell⟩, List.forall_mem_cons.mpr ⟨⟨⟨_, mk_24_81⟩, cdX11_paper⟩, List.forall_mem_cons.mpr ⟨⟨⟨_, mk_24_84⟩, cdX12_paper⟩, List.forall_mem_cons.mpr ⟨⟨⟨_, mk_24_85⟩, cdX11_pack⟩, List.forall_mem_cons.mpr ⟨⟨⟨_, mk_24_88⟩, cdX12_pack⟩, List.forall_mem_cons.mpr ⟨⟨⟨_, mk_24_89⟩, cdX11_load⟩, List.forall_mem_cons.mpr ⟨⟨⟨_, mk_24_92⟩, cdX12_load⟩, List.forall_mem_cons.mpr ⟨⟨⟨_, mk_24_93⟩, cdX11_stop⟩, List.forall_mem_cons.mpr ⟨⟨⟨_, mk_24_96⟩, cdX12_stop⟩, List.forall_mem_cons.mpr ⟨⟨⟨_, mk_24_97⟩, cdX11_wire⟩, List.forall_mem_cons.mpr ⟨⟨⟨_, mk_24_100⟩, cdX12_wire⟩, List.forall_mem_cons.mpr ⟨⟨⟨_, mk_24_101⟩, cdX11_poke⟩, List.forall_mem_cons.mpr ⟨⟨⟨_, mk_24_104⟩, cdX12_poke⟩, List.forall_mem_cons.mpr ⟨⟨⟨_, mk_24_105⟩, cdX11_cut⟩, List.forall_mem_cons.mpr ⟨⟨⟨_, mk_24_108⟩, cdX12_cut⟩, List.forall_mem_cons.mpr ⟨⟨⟨_, mk_24_109⟩, cdX11_frame⟩, List.forall_mem_cons.mpr ⟨⟨⟨_, mk_24_112⟩, cdX12_frame⟩, List.forall_mem_cons.mpr ⟨⟨⟨_, mk_24_113⟩, cdX11_bytes⟩, List.forall_mem_cons.mpr ⟨⟨⟨_, mk_24_116⟩, cdX12_bytes⟩, List.forall_mem_cons.mpr ⟨⟨⟨_, mk_24_117⟩, cdX11_mode⟩, List.forall_mem_cons.mpr ⟨⟨⟨_, mk_24_120⟩, cdX12_mode⟩, List.forall_mem_cons.mpr ⟨⟨⟨_, mk_24_121⟩, cdX11_smallest⟩, List.forall_mem_cons.mpr ⟨⟨⟨_, mk_24_125⟩, cdX12_smallest⟩, List.forall_mem_cons.mpr ⟨⟨⟨_, mk_24_126⟩, cdX11_scan⟩, List.forall_mem_cons.mpr ⟨⟨⟨_, mk_24_129⟩, cdX12_scan⟩, List.forall_mem_cons.mpr ⟨⟨⟨_, mk_24_130⟩, cdX11_found⟩, List.forall_mem_cons.mpr ⟨⟨⟨_, mk_24_133⟩, cdX12_found⟩, List.forall_mem_cons.mpr ⟨⟨⟨_, mk_24_134⟩, cdX11_fit⟩, List.forall_mem_cons.mpr ⟨⟨⟨_, mk_24_137⟩, cdX12_fit⟩, List.forall_mem_cons.mpr ⟨⟨⟨_, mk_24_138⟩, cdX11_trip⟩, List.forall_mem_cons.mpr ⟨⟨⟨_, mk_24_141⟩, cdX12_trip⟩, List.forall_mem_cons.mpr ⟨⟨⟨_, mk_24_142⟩, cdX11_alike⟩, List.forall_mem_cons.mpr ⟨⟨⟨_, mk_24_145⟩, cdX12_alike⟩, List.forall_mem_cons.mpr ⟨⟨⟨_, mk_24_146⟩, cdX11_digest⟩, List.forall_mem_cons.mpr ⟨⟨⟨_, mk_24_149⟩, cdX12_digest⟩, List.forall_mem_cons.mpr ⟨⟨⟨_, mk_24_150⟩, cdX11_image⟩, List.forall_mem_cons.mpr ⟨⟨⟨_, mk_24_153⟩, cdX12_image⟩, List.forall_mem_cons.mpr ⟨⟨⟨_, mk_24_154⟩, cdX11_back⟩, List.forall_mem_cons.mpr ⟨⟨⟨_, mk_24_157⟩, cdX12_back⟩, List.forall_mem_cons.mpr ⟨⟨⟨_, mk_24_158⟩, cdX11_count⟩, List.forall_mem_cons.mpr ⟨⟨⟨_, mk_24_161⟩, cdX12_count⟩, fun _ h => absurd h List.not_mem_nil⟩⟩⟩⟩⟩⟩⟩⟩⟩⟩⟩⟩⟩⟩⟩⟩⟩⟩⟩⟩⟩⟩⟩⟩⟩⟩⟩⟩⟩⟩⟩⟩⟩⟩⟩⟩⟩⟩⟩⟩⟩⟩⟩⟩⟩⟩⟩⟩⟩⟩⟩⟩⟩⟩⟩⟩⟩⟩⟩⟩⟩⟩⟩⟩⟩⟩⟩⟩⟩⟩⟩⟩
theorem mlT_25_ok : ∀ q ∈ mlT_25, mOk q := List.forall_mem_cons.mpr ⟨⟨⟨_, mk_25_122⟩, cdJxe99ae_isNaN_b9ae7⟩, fun _ h => absurd h List.not_mem_nil⟩
theorem mlT_26_ok : ∀ q ∈ mlT_26, mOk q := List.forall_mem_cons.mpr ⟨⟨⟨_, mk_26_59⟩, cdJxf58ca_isNaN_12338⟩, fun _ h => absurd h List.not_mem_nil⟩
def fM (l : List Ml) (i : Nat) : Option (Nat × Nat × Nat × Mi) := (l.find? fun q => Nat.beq q.2.1 i).map fun q => q.2.2
def plM (o : Nat) : Nat → Option (Nat × Nat × Nat × Mi) := match o with
  | 0 => fM mlT_0
  | 1 => fM mlT_1
  | 2 => fM mlT_2
  | 4 => fM mlT_4
  | 5 => fM mlT_5
  | 6 => fM mlT_6
  | 7 => fM mlT_7
  | 8 => fM mlT_8
  | 9 => fM mlT_9
  | 10 => fM mlT_10
  | 11 => fM mlT_11
  | 12 => fM mlT_12
  | 13 => fM mlT_13
  | 14 => fM mlT_14
  | 15 => fM mlT_15
  | 18 => fM mlT_18
  | 19 => fM mlT_19
  | 21 => fM mlT_21
  | 22 => fM mlT_22
  | 24 => fM mlT_24
  | 25 => fM mlT_25
  | 26 => fM mlT_26
  | _ => fun _ => none
theorem fM_ok {l : List Ml} {o i kd rc np : Nat} {M : Mi} (ho : ∀ q ∈ l, q.1 = o) (hl : ∀ q ∈ l, mOk q) (h : fM l i = some (kd, rc, np, M)) : (∃ is, mChk o i kd rc np M is = true) ∧ Cond.code (mN M) (mC M) (mL M) (mR M) ∈ GL := by
  unfold fM at h
  cases hf : l.find? (fun q => Nat.beq q.2.1 i) with
  | none =>
    rw [hf] at h
    cases h
  | some e =>
    rw [hf] at h
    have hm := hl e (List.mem_of_find?_eq_some hf)
    have ho := ho e (List.mem_of_find?_eq_some hf)
    have hp := List.find?_some hf
    have hp := Nat.eq_of_beq_eq_true hp
    obtain ⟨o1, i1, k1, r1, n1, M1⟩ := e
    simp at h hp ho
    subst hp
    subst ho
    obtain ⟨rfl, rfl, rfl, rfl⟩ := h
    exact hm
theorem plM_ok {o i kd rc np : Nat} {M : Mi} (h : plM o i = some (kd, rc, np, M)) : (∃ is, mChk o i kd rc np M is = true) ∧ Cond.code (mN M) (mC M) (mL M) (mR M) ∈ GL := by
  unfold plM at h
  split at h
  · exact fM_ok (by decide +kernel) mlT_0_ok h
  · exact fM_ok (by decide +kernel) mlT_1_ok h
  · exact fM_ok (by decide +kernel) mlT_2_ok h
  · exact fM_ok (by decide +kernel) mlT_4_ok h
  · exact fM_ok (by decide +kernel) mlT_5_ok h
  · exact fM_ok (by decide +kernel) mlT_6_ok h
  · exact fM_ok (by decide +kernel) mlT_7_ok h
  · exact fM_ok (by decide +kernel) mlT_8_ok h
  · exact fM_ok (by decide +kernel) mlT_9_ok h
  · exact fM_ok (by decide +kernel) mlT_10_ok h
  · exact fM_ok (by decide +kernel) mlT_11_ok h
  · exact fM_ok (by decide +kernel) mlT_12_ok h
  · exact fM_ok (by decide +kernel) mlT_13_ok h
  · exact fM_ok (by decide +kernel) mlT_14_ok h
  · exact fM_ok (by decide +kernel) mlT_15_ok h
  · exact fM_ok (by decide +kernel) mlT_18_ok h
  · exact fM_ok (by decide +kernel) mlT_19_ok h
  · exact fM_ok (by decide +kernel) mlT_21_ok h
  · exact fM_ok (by decide +kernel) mlT_22_ok h
  · exact fM_ok (by decide +kernel) mlT_24_ok h
  · exact fM_ok (by decide +kernel) mlT_25_ok h
  · exact fM_ok (by decide +kernel) mlT_26_ok h
  · cases h
theorem pm_0_19 : plM 0 19 = some (1, 0, 1, mX0_add) := by rfl
theorem pm_1_32 : plM 1 32 = some (0, 1, 2, mX4_widens) := by rfl
theorem pm_1_38 : plM 1 38 = some (0, 1, 1, mX4_isWholeKind) := by rfl
theorem pm_1_42 : plM 1 42 = some (1, 3, 1, mJ4_append_cf468) := by rfl
theorem pm_1_48 : plM 1 48 = some (0, 3, 1, mX10_word) := by rfl
theorem pm_1_54 : plM 1 54 = some (1, 3, 1, mJ4_append_15ec4) := by rfl
theorem pm_1_59 : plM 1 59 = some (1, 3, 1, mJ4_append_bf812) := by rfl
theorem pm_2_59 : plM 2 59 = some (3, 1, 1, mX11_isVersion) := by rfl
theorem pm_2_63 : plM 2 63 = some (1, 1, 2, mX2_loses) := by rfl
theorem pm_2_67 : plM 2 67 = some (0, 1, 3, mX2_sumOf) := by rfl
theorem pm_2_71 : plM 2 71 = some (1, 1, 4, mX2_reads) := by rfl
theorem pm_2_75 : plM 2 75 = some (1, 1, 1, mX2_readsPresent) := by rfl
theorem pm_2_86 : plM 2 86 = some (1, 1, 2, mX2_readsSize) := by rfl
theorem pm_2_90 : plM 2 90 = some (1, 1, 2, mX2_readsCells) := by rfl
theorem pm_2_93 : plM 2 93 = some (1, 1, 0, mX2_fieldsPresent) := by rfl
theorem pm_2_97 : plM 2 97 = some (1, 1, 0, mX2_cellsPresent) := by rfl
theorem pm_2_100 : plM 2 100 = some (1, 1, 0, mX2_nextByte) := by rfl
theorem pm_2_112 : plM 2 112 = some (0, 1, 2, mJ9_min_7cf53) := by rfl
theorem pm_2_121 : plM 2 121 = some (1, 1, 1, mX2_readsBoxes) := by rfl
theorem pm_2_124 : plM 2 124 = some (1, 1, 3, mX2_readsSteps) := by rfl
theorem pm_2_128 : plM 2 128 = some (1, 1, 3, mX2_readsRuns) := by rfl
theorem pm_2_131 : plM 2 131 = some (1, 1, 3, mX2_readsPlain) := by rfl
theorem pm_2_134 : plM 2 134 = some (0, 1, 1, mX4_isNumberKind) := by rfl
theorem pm_2_139 : plM 2 139 = some (1, 1, 3, mX2_readsValue) := by rfl
theorem pm_2_143 : plM 2 143 = some (1, 0, 3, mX2_keep) := by rfl
theorem pm_2_147 : plM 2 147 = some (0, 1, 2, mX4_has) := by rfl
theorem pm_4_9 : plM 4 9 = some (0, 1, 1, mX4_isNumberKind) := by rfl
theorem pm_4_21 : plM 4 21 = some (0, 2, 2, mX4_nearest) := by rfl
theorem pm_4_25 : plM 4 25 = some (0, 1, 1, mX4_isWholeKind) := by rfl
theorem pm_4_28 : plM 4 28 = some (0, 2, 1, mX4_doubleOfFloat) := by rfl
theorem pm_4_36 : plM 4 36 = some (0, 2, 1, mJ9_abs_067f4) := by rfl
theorem pm_4_41 : plM 4 41 = some (0, 2, 1, mX4_asFloat) := by rfl
theorem pm_4_44 : plM 4 44 = some (0, 2, 3, mX4_ratio) := by rfl
theorem pm_4_48 : plM 4 48 = some (0, 2, 3, mX4_signed) := by rfl
theorem pm_4_52 : plM 4 52 = some (0, 1, 1, mX4_topBit) := by rfl
theorem pm_4_56 : plM 4 56 = some (0, 1, 1, mX4_digitsOf) := by rfl
theorem pm_4_60 : plM 4 60 = some (0, 2, 2, mX4_rounded) := by rfl
theorem pm_4_64 : plM 4 64 = some (0, 2, 3, mX4_composed) := by rfl
theorem pm_5_11 : plM 5 11 = some (4, 0, 0, mX0_init) := by rfl
theorem pm_5_20 : plM 5 20 = some (4, 0, 0, mX6_init) := by rfl
theorem pm_5_46 : plM 5 46 = some (0, 1, 2, mX5_presentBits) := by rfl
theorem pm_5_50 : plM 5 50 = some (1, 0, 1, mX0_add) := by rfl
theorem pm_5_66 : plM 5 66 = some (1, 1, 2, mX5_gathers) := by rfl
theorem pm_5_70 : plM 5 70 = some (1, 1, 0, mX7_size) := by rfl
theorem pm_5_76 : plM 5 76 = some (1, 0, 2, mX5_addField) := by rfl
theorem pm_5_84 : plM 5 84 = some (1, 1, 2, mX5_refuses) := by rfl
theorem pm_5_94 : plM 5 94 = some (0, 1, 3, mX7_refusalToView) := by rfl
theorem pm_5_102 : plM 5 102 = some (0, 2, 3, mX4_widened) := by rfl
theorem pm_5_108 : plM 5 108 = some (1, 0, 1, mX5_addBoxes) := by rfl
theorem pm_5_111 : plM 5 111 = some (1, 0, 1, mX5_addNumbers) := by rfl
theorem pm_5_114 : plM 5 114 = some (0, 1, 1, mX4_width) := by rfl
theorem pm_5_118 : plM 5 118 = some (1, 0, 2, mX0_addNumber) := by rfl
theorem pm_5_122 : plM 5 122 = some (1, 0, 2, mX6_choose) := by rfl
theorem pm_5_135 : plM 5 135 = some (1, 0, 1, mX5_addSteps) := by rfl
theorem pm_5_138 : plM 5 138 = some (1, 0, 1, mX5_addRuns) := by rfl
theorem pm_6_24 : plM 6 24 = some (0, 1, 1, mX4_width) := by rfl
theorem pm_6_30 : plM 6 30 = some (0, 1, 2, mJ9_max_7cf53) := by rfl
theorem pm_6_36 : plM 6 36 = some (1, 0, 4, mX6_offer) := by rfl
theorem pm_7_9 : plM 7 9 = some (0, 1, 2, mJ9_min_7cf53) := by rfl
theorem pm_7_15 : plM 7 15 = some (0, 1, 2, mJ9_max_7cf53) := by rfl
theorem pm_7_32 : plM 7 32 = some (1, 1, 0, mX7_size) := by rfl
theorem pm_7_36 : plM 7 36 = some (2, 0, 2, mX7_init) := by rfl
theorem pm_7_45 : plM 7 45 = some (0, 1, 2, mX4_widens) := by rfl
theorem pm_7_51 : plM 7 51 = some (0, 1, 3, mX7_refusalOfBox) := by rfl
theorem pm_7_55 : plM 7 55 = some (0, 2, 3, mX4_widened) := by rfl
theorem pm_7_59 : plM 7 59 = some (0, 1, 1, mX4_isWholeKind) := by rfl
theorem pm_7_63 : plM 7 63 = some (1, 1, 2, mX7_agrees) := by rfl
theorem pm_8_37 : plM 8 37 = some (1, 3, 0, mX8_nextField) := by rfl
theorem pm_8_43 : plM 8 43 = some (2, 0, 2, mX10_init) := by rfl
theorem pm_8_46 : plM 8 46 = some (1, 1, 0, mX8_here) := by rfl
theorem pm_8_50 : plM 8 50 = some (1, 1, 1, mX8_faultAt) := by rfl
theorem pm_8_54 : plM 8 54 = some (3, 1, 1, mX11_isSlot) := by rfl
theorem pm_8_57 : plM 8 57 = some (1, 1, 1, mX8_skips) := by rfl
theorem pm_8_61 : plM 8 61 = some (1, 1, 0, mX8_nextKind) := by rfl
theorem pm_8_64 : plM 8 64 = some (1, 1, 0, mX8_nextCells) := by rfl
theorem pm_8_67 : plM 8 67 = some (1, 1, 1, mX8_readsDefault) := by rfl
theorem pm_8_70 : plM 8 70 = some (2, 0, 6, mX1_init) := by rfl
theorem pm_8_73 : plM 8 73 = some (0, 3, 1, mX10_word) := by rfl
theorem pm_8_77 : plM 8 77 = some (1, 1, 2, mX8_isWord) := by rfl
theorem pm_8_81 : plM 8 81 = some (1, 1, 0, mJ0_length_8abf5) := by rfl
theorem pm_8_86 : plM 8 86 = some (1, 1, 1, mJ0_charAt_5068e) := by rfl
theorem pm_8_90 : plM 8 90 = some (1, 1, 1, mX8_nextDigits) := by rfl
theorem pm_8_94 : plM 8 94 = some (0, 1, 2, mJ9_max_7cf53) := by rfl
theorem pm_9_41 : plM 9 41 = some (1, 1, 1, mX10_placeOf) := by rfl
theorem pm_9_51 : plM 9 51 = some (1, 1, 5, mX9_fill) := by rfl
theorem pm_9_55 : plM 9 55 = some (1, 1, 2, mX9_fillByDefault) := by rfl
theorem pm_9_69 : plM 9 69 = some (2, 0, 2, mX7_init) := by rfl
theorem pm_9_80 : plM 9 80 = some (0, 1, 5, mX9_enter) := by rfl
theorem pm_9_85 : plM 9 85 = some (0, 1, 3, mX7_refusalOfBox) := by rfl
theorem pm_9_89 : plM 9 89 = some (1, 0, 3, mX7_put) := by rfl
theorem pm_9_93 : plM 9 93 = some (0, 1, 1, mX4_isWholeKind) := by rfl
theorem pm_9_99 : plM 9 99 = some (0, 1, 2, mX4_has) := by rfl
theorem pm_9_113 : plM 9 113 = some (0, 2, 2, mX4_byLong) := by rfl
theorem pm_9_117 : plM 9 117 = some (1, 1, 0, mX7_size) := by rfl
theorem pm_10_44 : plM 10 44 = some (2, 0, 0, mJ4_init_da8c8) := by rfl
theorem pm_10_45 : plM 10 45 = some (1, 3, 1, mJ4_append_cf468) := by rfl
theorem pm_10_49 : plM 10 49 = some (1, 0, 1, mX1_spellTo) := by rfl
theorem pm_10_53 : plM 10 53 = some (1, 3, 0, mJ4_toString_0e30d) := by rfl
theorem pm_11_35 : plM 11 35 = some (4, 0, 0, mX5_init) := by rfl
theorem pm_11_42 : plM 11 42 = some (4, 0, 0, mX2_init) := by rfl
theorem pm_11_49 : plM 11 49 = some (4, 0, 0, mX9_init) := by rfl
theorem pm_11_59 : plM 11 59 = some (4, 0, 0, mX3_init) := by rfl
theorem pm_11_87 : plM 11 87 = some (0, 1, 1, mX11_isSlot) := by rfl
theorem pm_11_91 : plM 11 91 = some (2, 0, 2, mX7_init) := by rfl
theorem pm_11_97 : plM 11 97 = some (1, 1, 0, mX7_size) := by rfl
theorem pm_11_101 : plM 11 101 = some (1, 1, 1, mX11_holdersOf) := by rfl
theorem pm_11_105 : plM 11 105 = some (0, 1, 3, mX7_refusalToView) := by rfl
theorem pm_11_109 : plM 11 109 = some (1, 1, 1, mX11_refusedBy) := by rfl
theorem pm_11_120 : plM 11 120 = some (0, 2, 3, mX4_widened) := by rfl
theorem pm_11_128 : plM 11 128 = some (0, 1, 1, mX4_isNumberKind) := by rfl
theorem pm_11_131 : plM 11 131 = some (0, 2, 2, mX4_byLong) := by rfl
theorem pm_11_135 : plM 11 135 = some (1, 1, 4, mX11_enterNumber) := by rfl
theorem pm_11_139 : plM 11 139 = some (0, 2, 3, mX4_quotient) := by rfl
theorem pm_11_143 : plM 11 143 = some (0, 1, 3, mX7_refusalOfBox) := by rfl
theorem pm_11_146 : plM 11 146 = some (1, 0, 3, mX7_put) := by rfl
theorem pm_11_150 : plM 11 150 = some (0, 1, 2, mX11_byteOf) := by rfl
theorem pm_11_154 : plM 11 154 = some (0, 1, 1, mX11_isVersion) := by rfl
theorem pm_11_159 : plM 11 159 = some (2, 0, 2, mX8_init) := by rfl
theorem pm_11_162 : plM 11 162 = some (1, 3, 0, mX8_understood) := by rfl
theorem pm_11_172 : plM 11 172 = some (1, 1, 1, mX11_lackOf) := by rfl
theorem pm_11_179 : plM 11 179 = some (1, 1, 1, mX1_tell) := by rfl
theorem pm_11_184 : plM 11 184 = some (1, 3, 0, mX10_asText) := by rfl
theorem pm_11_188 : plM 11 188 = some (1, 1, 0, mJ0_length_8abf5) := by rfl
theorem pm_11_192 : plM 11 192 = some (1, 1, 1, mJ0_charAt_5068e) := by rfl
theorem pm_11_196 : plM 11 196 = some (1, 1, 2, mX5_packs) := by rfl
theorem pm_11_209 : plM 11 209 = some (1, 0, 4, mX11_stopBy) := by rfl
theorem pm_11_220 : plM 11 220 = some (1, 0, 2, mX11_putFrame) := by rfl
theorem pm_11_224 : plM 11 224 = some (1, 1, 1, mX11_isOnWire) := by rfl
theorem pm_11_227 : plM 11 227 = some (1, 1, 4, mX2_stands) := by rfl
theorem pm_11_238 : plM 11 238 = some (1, 1, 4, mX9_takes) := by rfl
theorem pm_11_254 : plM 11 254 = some (1, 1, 1, mX2_tell) := by rfl
theorem pm_11_255 : plM 11 255 = some (1, 1, 1, mX11_frameSize) := by rfl
theorem pm_11_260 : plM 11 260 = some (1, 1, 2, mX5_gathers) := by rfl
theorem pm_11_271 : plM 11 271 = some (1, 0, 2, mX6_choose) := by rfl
theorem pm_11_277 : plM 11 277 = some (1, 1, 1, mX6_tell) := by rfl
theorem pm_11_278 : plM 11 278 = some (1, 1, 1, mX10_placeOf) := by rfl
theorem pm_11_281 : plM 11 281 = some (1, 1, 0, mX1_fitOfNone) := by rfl
theorem pm_11_284 : plM 11 284 = some (1, 1, 1, mX1_fitOf) := by rfl
theorem pm_11_291 : plM 11 291 = some (1, 1, 4, mX2_reads) := by rfl
theorem pm_11_295 : plM 11 295 = some (1, 1, 1, mX11_cellsKept) := by rfl
theorem pm_11_298 : plM 11 298 = some (0, 1, 2, mJ9_min_7cf53) := by rfl
theorem pm_11_303 : plM 11 303 = some (1, 1, 2, mX7_agrees) := by rfl
theorem pm_11_307 : plM 11 307 = some (0, 2, 1, mX11_digestOf) := by rfl
theorem pm_11_316 : plM 11 316 = some (0, 0, 2, mX11_copyRows) := by rfl
theorem pm_11_321 : plM 11 321 = some (0, 0, 2, mX11_copyVersions) := by rfl
theorem pm_11_338 : plM 11 338 = some (1, 1, 0, mX11_unlikeRows) := by rfl
theorem pm_11_341 : plM 11 341 = some (1, 1, 1, mX11_slotsWith) := by rfl
theorem pm_11_345 : plM 11 345 = some (1, 1, 0, mX11_cellsOfUnlikeRows) := by rfl
theorem pm_11_348 : plM 11 348 = some (1, 1, 0, mX11_versionsThere) := by rfl
theorem pm_11_351 : plM 11 351 = some (0, 1, 3, mX7_refusalOfNumber) := by rfl
theorem pm_11_354 : plM 11 354 = some (0, 1, 3, mX2_sumOf) := by rfl
theorem pm_11_358 : plM 11 358 = some (1, 1, 1, mX7_agreements) := by rfl
theorem pm_11_365 : plM 11 365 = some (0, 1, 2, mX11_firstHolder) := by rfl
theorem pm_11_369 : plM 11 369 = some (1, 3, 0, mX7_twin) := by rfl
theorem pm_11_373 : plM 11 373 = some (1, 1, 1, mX11_isFirstOfRow) := by rfl
theorem pm_12_134 : plM 12 134 = some (0, 1, 3, mX12_within) := by rfl
theorem pm_12_138 : plM 12 138 = some (0, 1, 1, mJxf58ca_floatToIntBits_5c35a) := by rfl
theorem pm_12_144 : plM 12 144 = some (0, 2, 1, mJxe99ae_doubleToLongBits_ccdee) := by rfl
theorem pm_12_154 : plM 12 154 = some (0, 2, 2, mX12_numberOf) := by rfl
theorem pm_12_162 : plM 12 162 = some (1, 1, 1, mX12_holders) := by rfl
theorem pm_12_166 : plM 12 166 = some (0, 1, 1, mX12_isSlot) := by rfl
theorem pm_12_170 : plM 12 170 = some (1, 1, 0, mX12_free) := by rfl
theorem pm_12_174 : plM 12 174 = some (0, 1, 2, mX12_widens) := by rfl
theorem pm_12_178 : plM 12 178 = some (1, 1, 3, mX12_bars) := by rfl
theorem pm_12_182 : plM 12 182 = some (1, 1, 1, mX12_refuses) := by rfl
theorem pm_12_185 : plM 12 185 = some (0, 2, 3, mX12_widened) := by rfl
theorem pm_12_195 : plM 12 195 = some (1, 1, 4, mX12_comes) := by rfl
theorem pm_12_208 : plM 12 208 = some (1, 1, 0, mX12_sign) := by rfl
theorem pm_12_228 : plM 12 228 = some (1, 1, 0, mJ0_length_8abf5) := by rfl
theorem pm_12_233 : plM 12 233 = some (1, 1, 1, mJ0_charAt_5068e) := by rfl
theorem pm_12_237 : plM 12 237 = some (0, 3, 1, mX12_wordOf) := by rfl
theorem pm_12_241 : plM 12 241 = some (1, 1, 2, mX12_isWord) := by rfl
theorem pm_12_245 : plM 12 245 = some (1, 1, 1, mX12_is) := by rfl
theorem pm_12_248 : plM 12 248 = some (1, 1, 0, mX12_isDigit) := by rfl
theorem pm_12_252 : plM 12 252 = some (1, 1, 1, mX12_isKind) := by rfl
theorem pm_12_255 : plM 12 255 = some (1, 1, 1, mX12_isMany) := by rfl
theorem pm_12_258 : plM 12 258 = some (1, 1, 1, mX12_isDefault) := by rfl
theorem pm_12_261 : plM 12 261 = some (0, 1, 1, mX12_isVersion) := by rfl
theorem pm_12_264 : plM 12 264 = some (1, 1, 1, mX12_isField) := by rfl
theorem pm_12_267 : plM 12 267 = some (1, 1, 2, mX12_noField) := by rfl
theorem pm_12_275 : plM 12 275 = some (1, 0, 1, mX12_says) := by rfl
theorem pm_12_279 : plM 12 279 = some (0, 1, 1, mJ9_abs_0f7a4) := by rfl
theorem pm_12_284 : plM 12 284 = some (1, 0, 1, mX12_says_) := by rfl
theorem pm_12_287 : plM 12 287 = some (1, 0, 1, mX12_saysNumber) := by rfl
theorem pm_12_302 : plM 12 302 = some (0, 1, 1, mX12_width) := by rfl
theorem pm_12_306 : plM 12 306 = some (0, 1, 2, mJ9_max_7cf53) := by rfl
theorem pm_12_320 : plM 12 320 = some (1, 0, 1, mX12_weighs) := by rfl
theorem pm_12_323 : plM 12 323 = some (1, 0, 2, mX12_puts) := by rfl
theorem pm_12_333 : plM 12 333 = some (1, 1, 3, mX12_fails) := by rfl
theorem pm_12_336 : plM 12 336 = some (1, 1, 1, mX12_reads) := by rfl
theorem pm_12_339 : plM 12 339 = some (1, 0, 1, mX12_putsNumbers) := by rfl
theorem pm_12_346 : plM 12 346 = some (1, 1, 1, mX12_packs) := by rfl
theorem pm_12_349 : plM 12 349 = some (1, 1, 4, mX12_stops) := by rfl
theorem pm_12_356 : plM 12 356 = some (0, 1, 4, mX12_digestOf) := by rfl
theorem pm_12_372 : plM 12 372 = some (1, 1, 2, mX12_isLost) := by rfl
theorem pm_12_375 : plM 12 375 = some (1, 1, 1, mX12_isCut) := by rfl
theorem pm_12_378 : plM 12 378 = some (1, 2, 1, mX12_told) := by rfl
theorem pm_12_382 : plM 12 382 = some (0, 1, 2, mX12_isValue) := by rfl
theorem pm_12_386 : plM 12 386 = some (1, 1, 4, mX12_isNoValue) := by rfl
theorem pm_12_390 : plM 12 390 = some (1, 1, 1, mX12_areNoBoxes) := by rfl
theorem pm_12_393 : plM 12 393 = some (1, 1, 2, mX12_areNoNumbers) := by rfl
theorem pm_12_396 : plM 12 396 = some (1, 1, 0, mX12_isNoBody) := by rfl
theorem pm_12_402 : plM 12 402 = some (0, 1, 1, mX12_isWhole) := by rfl
theorem pm_12_405 : plM 12 405 = some (1, 1, 2, mX12_fieldFor) := by rfl
theorem pm_12_408 : plM 12 408 = some (1, 1, 3, mX12_fits) := by rfl
theorem pm_12_412 : plM 12 412 = some (1, 1, 2, mX12_takesField) := by rfl
theorem pm_12_415 : plM 12 415 = some (1, 1, 1, mX12_isNoFrame) := by rfl
theorem pm_12_418 : plM 12 418 = some (1, 1, 1, mX12_takes) := by rfl
theorem pm_12_421 : plM 12 421 = some (0, 1, 1, mJ6_bitCount_0f7a4) := by rfl
theorem pm_12_426 : plM 12 426 = some (1, 1, 1, mX12_isRow) := by rfl
theorem pm_12_433 : plM 12 433 = some (0, 4, 2, mX12_real_) := by rfl
theorem pm_12_437 : plM 12 437 = some (0, 1, 4, mX12_areAlike) := by rfl
theorem pm_12_449 : plM 12 449 = some (1, 2, 1, mX12_digestOf_) := by rfl
theorem pm_12_462 : plM 12 462 = some (1, 1, 0, mX12_unlike) := by rfl
theorem pm_13_47 : plM 13 47 = some (0, 1, 2, mJ2_coderFromArrayLen_85cad) := by rfl
theorem pm_13_54 : plM 13 54 = some (0, 3, 3, mJ7_copyOfRange_39247) := by rfl
theorem pm_13_106 : plM 13 106 = some (0, 0, 5, mJ1_inflate_0e8fd) := by rfl
theorem pm_13_335 : plM 13 335 = some (1, 1, 0, mJ0_coder_7d493) := by rfl
theorem pm_13_489 : plM 13 489 = some (2, 0, 2, mJ0_init_db425) := by rfl
theorem pm_13_492 : plM 13 492 = some (1, 1, 0, mJ0_isLatin1_aae02) := by rfl
theorem pm_13_495 : plM 13 495 = some (0, 1, 2, mJ1_charAt_3b067) := by rfl
theorem pm_13_498 : plM 13 498 = some (0, 1, 2, mJ2_charAt_3b067) := by rfl
theorem pm_13_549 : plM 13 549 = some (14, 1, 0, mJ4_length_8abf5) := by rfl
theorem pm_13_552 : plM 13 552 = some (12, 3, 0, mJ5_getValue_6d5f1) := by rfl
theorem pm_13_1047 : plM 13 1047 = some (12, 1, 0, mJ5_isLatin1_aae02) := by rfl
theorem pm_13_1051 : plM 13 1051 = some (0, 3, 3, mJ2_compress_39247) := by rfl
theorem pm_13_1059 : plM 13 1059 = some (0, 1, 3, mJ3_checkIndex_8e157) := by rfl
theorem pm_13_1062 : plM 13 1062 = some (0, 1, 4, mJ3_checkFromToIndex_8c36e) := by rfl
theorem pm_13_1065 : plM 13 1065 = some (0, 1, 4, mJ3_checkFromIndexSize_8c36e) := by rfl
theorem pm_14_1 : plM 14 1 = some (2, 0, 1, mJ5_init_d00df) := by rfl
theorem pm_14_29 : plM 14 29 = some (13, 3, 1, mJ5_append_cf1ce) := by rfl
theorem pm_14_50 : plM 14 50 = some (13, 3, 1, mJ5_append_3fe6f) := by rfl
theorem pm_14_53 : plM 14 53 = some (13, 3, 1, mJ5_append_c97b9) := by rfl
theorem pm_14_137 : plM 14 137 = some (2, 0, 1, mJ0_init_81219) := by rfl
theorem pm_14_343 : plM 14 343 = some (13, 1, 0, mJ5_length_8abf5) := by rfl
theorem pm_15_26 : plM 15 26 = some (0, 3, 1, mJ2_newBytesFor_77867) := by rfl
theorem pm_15_32 : plM 15 32 = some (1, 1, 0, mJ0_length_8abf5) := by rfl
theorem pm_15_40 : plM 15 40 = some (1, 1, 0, mJ0_coder_7d493) := by rfl
theorem pm_15_83 : plM 15 83 = some (12, 1, 0, mJ5_isLatin1_aae02) := by rfl
theorem pm_15_100 : plM 15 100 = some (12, 0, 1, mJ5_ensureCapacityInternal_d00df) := by rfl
theorem pm_15_104 : plM 15 104 = some (12, 1, 1, mJ5_newCapacity_0f7a4) := by rfl
theorem pm_15_108 : plM 15 108 = some (0, 3, 2, mJ7_copyOf_9075b) := by rfl
theorem pm_15_114 : plM 15 114 = some (0, 1, 3, mJ8_newLength_cabcc) := by rfl
theorem pm_15_125 : plM 15 125 = some (0, 0, 5, mJ1_inflate_0e8fd) := by rfl
theorem pm_15_191 : plM 15 191 = some (0, 1, 1, mJ1_canEncode_fc78d) := by rfl
theorem pm_15_197 : plM 15 197 = some (0, 0, 3, mJ2_putCharSB_b72d1) := by rfl
theorem pm_15_208 : plM 15 208 = some (12, 0, 2, mJ5_putStringAt_47b60) := by rfl
theorem pm_15_226 : plM 15 226 = some (0, 1, 6, mJ2_putCharsAt_cd4e5) := by rfl
theorem pm_15_245 : plM 15 245 = some (0, 1, 1, mJ6_stringSize_0f7a4) := by rfl
theorem pm_15_248 : plM 15 248 = some (0, 1, 3, mJ6_getChars_ba4f3) := by rfl
theorem pm_15_251 : plM 15 251 = some (0, 1, 4, mJ2_getChars_46870) := by rfl
theorem pm_15_397 : plM 15 397 = some (12, 0, 1, mJ5_inflateIfNeededFor_a7421) := by rfl
theorem pm_15_399 : plM 15 399 = some (1, 0, 3, mJ0_getBytes_840e7) := by rfl
theorem pm_18_9 : plM 18 9 = some (0, 0, 2, mJ0_checkIndex_df160) := by rfl
theorem pm_18_240 : plM 18 240 = some (0, 0, 5, mJ2_inflate_0e8fd) := by rfl
theorem pm_19_11 : plM 19 11 = some (0, 1, 1, mJ2_newBytesLength_0f7a4) := by rfl
theorem pm_19_48 : plM 19 48 = some (0, 1, 1, mJ2_length_9d52b) := by rfl
theorem pm_19_67 : plM 19 67 = some (0, 0, 2, mJ2_checkIndex_2214a) := by rfl
theorem pm_19_71 : plM 19 71 = some (0, 1, 2, mJ2_getChar_3b067) := by rfl
theorem pm_19_96 : plM 19 96 = some (0, 0, 3, mJ2_checkBoundsBeginEnd_d044e) := by rfl
theorem pm_19_111 : plM 19 111 = some (0, 0, 3, mJ2_putChar_b72d1) := by rfl
theorem pm_19_123 : plM 19 123 = some (0, 1, 5, mJ2_compress_5af95) := by rfl
theorem pm_19_126 : plM 19 126 = some (0, 3, 3, mJ7_copyOfRange_39247) := by rfl
theorem pm_19_173 : plM 19 173 = some (0, 0, 3, mJ2_checkBoundsOffCount_d044e) := by rfl
theorem pm_19_241 : plM 19 241 = some (0, 0, 3, mJ0_checkBoundsBeginEnd_23922) := by rfl
theorem pm_19_393 : plM 19 393 = some (0, 1, 3, mJ2_getChars_ba4f3) := by rfl
theorem pm_19_414 : plM 19 414 = some (0, 0, 2, mJ0_checkIndex_df160) := by rfl
theorem pm_19_419 : plM 19 419 = some (0, 1, 3, mJ0_checkBoundsOffCount_cabcc) := by rfl
theorem pm_21_304 : plM 21 304 = some (0, 1, 2, mJ9_min_7cf53) := by rfl
theorem pm_21_339 : plM 21 339 = some (0, 3, 3, mJ7_copyOfRangeByte_39247) := by rfl
theorem pm_21_343 : plM 21 343 = some (0, 0, 2, mJ7_checkLength_df160) := by rfl
theorem pm_22_194 : plM 22 194 = some (0, 1, 2, mJ9_max_7cf53) := by rfl
theorem pm_22_201 : plM 22 201 = some (0, 1, 2, mJ8_hugeLength_7cf53) := by rfl
theorem pm_24_9 : plM 24 9 = some (2, 0, 0, mX11_init) := by rfl
theorem pm_24_12 : plM 24 12 = some (2, 0, 0, mX12_init) := by rfl
theorem pm_24_13 : plM 24 13 = some (1, 1, 3, mX11_make) := by rfl
theorem pm_24_17 : plM 24 17 = some (1, 1, 3, mX12_make) := by rfl
theorem pm_24_18 : plM 24 18 = some (1, 1, 2, mX11_thing) := by rfl
theorem pm_24_22 : plM 24 22 = some (1, 1, 2, mX12_thing) := by rfl
theorem pm_24_23 : plM 24 23 = some (1, 1, 2, mX11_same) := by rfl
theorem pm_24_26 : plM 24 26 = some (1, 1, 2, mX12_same) := by rfl
theorem pm_24_27 : plM 24 27 = some (1, 1, 2, mX11_of) := by rfl
theorem pm_24_30 : plM 24 30 = some (1, 1, 2, mX12_of) := by rfl
theorem pm_24_31 : plM 24 31 = some (1, 1, 3, mX11_read) := by rfl
theorem pm_24_34 : plM 24 34 = some (1, 1, 3, mX12_read) := by rfl
theorem pm_24_35 : plM 24 35 = some (1, 2, 1, mX11_latch) := by rfl
theorem pm_24_39 : plM 24 39 = some (1, 2, 1, mX12_latch) := by rfl
theorem pm_24_42 : plM 24 42 = some (1, 1, 4, mX11_write) := by rfl
theorem pm_24_46 : plM 24 46 = some (1, 1, 4, mX12_write) := by rfl
theorem pm_24_47 : plM 24 47 = some (1, 1, 5, mX11_real) := by rfl
theorem pm_24_51 : plM 24 51 = some (1, 1, 5, mX12_real) := by rfl
theorem pm_24_52 : plM 24 52 = some (1, 1, 4, mX11_box) := by rfl
theorem pm_24_55 : plM 24 55 = some (1, 1, 4, mX12_box) := by rfl
theorem pm_24_56 : plM 24 56 = some (1, 1, 1, mX11_lax) := by rfl
theorem pm_24_60 : plM 24 60 = some (1, 1, 1, mX12_lax) := by rfl
theorem pm_24_61 : plM 24 61 = some (1, 1, 2, mX11_feed) := by rfl
theorem pm_24_64 : plM 24 64 = some (1, 1, 2, mX12_feed) := by rfl
theorem pm_24_65 : plM 24 65 = some (1, 1, 1, mX11_define) := by rfl
theorem pm_24_68 : plM 24 68 = some (1, 1, 1, mX12_define) := by rfl
theorem pm_24_69 : plM 24 69 = some (1, 1, 1, mX11_drop) := by rfl
theorem pm_24_72 : plM 24 72 = some (1, 1, 1, mX12_drop) := by rfl
theorem pm_24_73 : plM 24 73 = some (1, 1, 3, mX11_field) := by rfl
theorem pm_24_76 : plM 24 76 = some (1, 1, 3, mX12_field) := by rfl
theorem pm_24_77 : plM 24 77 = some (1, 1, 1, mX11_spell) := by rfl
theorem pm_24_80 : plM 24 80 = some (1, 1, 1, mX12_spell) := by rfl
theorem pm_24_81 : plM 24 81 = some (1, 1, 1, mX11_paper) := by rfl
theorem pm_24_84 : plM 24 84 = some (1, 1, 1, mX12_paper) := by rfl
theorem pm_24_85 : plM 24 85 = some (1, 1, 1, mX11_pack) := by rfl
theorem pm_24_88 : plM 24 88 = some (1, 1, 1, mX12_pack) := by rfl
theorem pm_24_89 : plM 24 89 = some (1, 1, 2, mX11_load) := by rfl
theorem pm_24_92 : plM 24 92 = some (1, 1, 2, mX12_load) := by rfl
theorem pm_24_93 : plM 24 93 = some (1, 1, 1, mX11_stop) := by rfl
theorem pm_24_96 : plM 24 96 = some (1, 1, 1, mX12_stop) := by rfl
theorem pm_24_97 : plM 24 97 = some (1, 1, 1, mX11_wire) := by rfl
theorem pm_24_100 : plM 24 100 = some (1, 1, 1, mX12_wire) := by rfl
theorem pm_24_101 : plM 24 101 = some (1, 1, 2, mX11_poke) := by rfl
theorem pm_24_104 : plM 24 104 = some (1, 1, 2, mX12_poke) := by rfl
theorem pm_24_105 : plM 24 105 = some (1, 1, 1, mX11_cut) := by rfl
theorem pm_24_108 : plM 24 108 = some (1, 1, 1, mX12_cut) := by rfl
theorem pm_24_109 : plM 24 109 = some (1, 1, 2, mX11_frame) := by rfl
theorem pm_24_112 : plM 24 112 = some (1, 1, 2, mX12_frame) := by rfl
theorem pm_24_113 : plM 24 113 = some (1, 1, 1, mX11_bytes) := by rfl
theorem pm_24_116 : plM 24 116 = some (1, 1, 1, mX12_bytes) := by rfl
theorem pm_24_117 : plM 24 117 = some (1, 1, 3, mX11_mode) := by rfl
theorem pm_24_120 : plM 24 120 = some (1, 1, 3, mX12_mode) := by rfl
theorem pm_24_121 : plM 24 121 = some (1, 1, 0, mX11_smallest) := by rfl
theorem pm_24_125 : plM 24 125 = some (1, 1, 0, mX12_smallest) := by rfl
theorem pm_24_126 : plM 24 126 = some (1, 1, 1, mX11_scan) := by rfl
theorem pm_24_129 : plM 24 129 = some (1, 1, 1, mX12_scan) := by rfl
theorem pm_24_130 : plM 24 130 = some (1, 1, 1, mX11_found) := by rfl
theorem pm_24_133 : plM 24 133 = some (1, 1, 1, mX12_found) := by rfl
theorem pm_24_134 : plM 24 134 = some (1, 1, 3, mX11_fit) := by rfl
theorem pm_24_137 : plM 24 137 = some (1, 1, 3, mX12_fit) := by rfl
theorem pm_24_138 : plM 24 138 = some (1, 1, 2, mX11_trip) := by rfl
theorem pm_24_141 : plM 24 141 = some (1, 1, 2, mX12_trip) := by rfl
theorem pm_24_142 : plM 24 142 = some (1, 1, 2, mX11_alike) := by rfl
theorem pm_24_145 : plM 24 145 = some (1, 1, 2, mX12_alike) := by rfl
theorem pm_24_146 : plM 24 146 = some (1, 2, 1, mX11_digest) := by rfl
theorem pm_24_149 : plM 24 149 = some (1, 2, 1, mX12_digest) := by rfl
theorem pm_24_150 : plM 24 150 = some (1, 1, 0, mX11_image) := by rfl
theorem pm_24_153 : plM 24 153 = some (1, 1, 0, mX12_image) := by rfl
theorem pm_24_154 : plM 24 154 = some (1, 1, 0, mX11_back) := by rfl
theorem pm_24_157 : plM 24 157 = some (1, 1, 0, mX12_back) := by rfl
theorem pm_24_158 : plM 24 158 = some (1, 1, 1, mX11_count) := by rfl
theorem pm_24_161 : plM 24 161 = some (1, 1, 1, mX12_count) := by rfl
theorem pm_25_122 : plM 25 122 = some (0, 1, 1, mJxe99ae_isNaN_b9ae7) := by rfl
theorem pm_26_59 : plM 26 59 = some (0, 1, 1, mJxf58ca_isNaN_12338) := by rfl
