/-! links, by program; each word by its place among the tables, checked by the kernel -/
def fWord (q : (Nat × Nat) × (Nat × Nat × Nat)) : Cond := Cond.fieldLink (oN q.1.1) q.1.2 (clT q.2.1 q.2.2.1).1 (clT q.2.1 q.2.2.1).2.1 (clT q.2.1 q.2.2.1).2.2.1
def fChk (q : (Nat × Nat) × (Nat × Nat × Nat)) : Bool := (match cls[q.2.1]? with | some r => decide (q.2.2.1 < r.2.2) | none => false) && (fk q.2.1 q.2.2.1 == q.2.2.2)
def flT : List ((Nat × Nat) × (Nat × Nat × Nat)) := [((0, 11), (0, 0, 2)), ((11, 288), (0, 0, 2)), ((0, 15), (0, 1, 0)), ((5, 43), (0, 1, 0)), ((11, 217), (0, 1, 0)), ((6, 9), (6, 0, 0)), ((5, 126), (6, 0, 0)), ((6, 15), (6, 1, 0)), ((5, 129), (6, 1, 0)), ((6, 18), (6, 2, 0)), ((5, 132), (6, 2, 0)), ((6, 21), (6, 3, 0)), ((5, 12), (5, 0, 2)), ((11, 213), (5, 0, 2)), ((5, 21), (5, 1, 2)), ((11, 264), (5, 1, 2)), ((5, 25), (5, 2, 2)), ((5, 29), (5, 3, 2)), ((11, 268), (5, 3, 2)), ((5, 33), (5, 4, 0)), ((11, 200), (5, 4, 0)), ((5, 37), (5, 5, 0)), ((11, 203), (5, 5, 0)), ((5, 40), (5, 6, 0)), ((11, 206), (5, 6, 0)), ((2, 9), (2, 0, 0)), ((11, 231), (2, 0, 0)), ((2, 15), (2, 1, 0)), ((11, 232), (2, 1, 0)), ((2, 18), (2, 2, 0)), ((11, 235), (2, 2, 0)), ((2, 21), (2, 3, 0)), ((2, 24), (2, 4, 0)), ((11, 251), (2, 4, 0)), ((2, 27), (2, 5, 2)), ((9, 45), (2, 5, 2)), ((2, 31), (2, 6, 2)), ((9, 59), (2, 6, 2)), ((2, 37), (2, 7, 2)), ((9, 72), (2, 7, 2)), ((2, 42), (2, 8, 2)), ((9, 76), (2, 8, 2)), ((2, 45), (2, 9, 2)), ((2, 48), (2, 10, 0)), ((2, 51), (2, 11, 0)), ((2, 54), (2, 12, 1)), ((9, 11), (9, 0, 2)), ((11, 248), (9, 0, 2)), ((9, 17), (9, 1, 0)), ((11, 242), (9, 1, 0)), ((9, 21), (9, 2, 0)), ((11, 243), (9, 2, 0)), ((9, 24), (9, 3, 0)), ((11, 244), (9, 3, 0)), ((3, 9), (3, 0, 0)), ((11, 334), (3, 0, 0)), ((3, 17), (3, 1, 2)), ((11, 315), (3, 1, 2)), ((3, 23), (3, 2, 2)), ((11, 320), (3, 2, 2)), ((3, 27), (3, 3, 2)), ((11, 325), (3, 3, 2)), ((3, 31), (3, 4, 0)), ((11, 332), (3, 4, 0)), ((3, 35), (3, 5, 0)), ((11, 333), (3, 5, 0)), ((11, 13), (11, 0, 2)), ((11, 19), (11, 1, 2)), ((11, 23), (11, 2, 2)), ((11, 27), (11, 3, 2)), ((11, 30), (11, 4, 2)), ((11, 36), (11, 5, 2)), ((11, 43), (11, 6, 2)), ((11, 50), (11, 7, 2)), ((11, 54), (11, 8, 2)), ((11, 60), (11, 9, 2)), ((11, 66), (11, 10, 2)), ((11, 70), (11, 11, 0)), ((11, 74), (11, 12, 0)), ((11, 77), (11, 13, 0)), ((11, 80), (11, 14, 0)), ((11, 83), (11, 15, 1)), ((7, 18), (7, 0, 0)), ((5, 88), (7, 0, 0)), ((9, 84), (7, 0, 0)), ((11, 94), (7, 0, 0)), ((7, 24), (7, 1, 2)), ((5, 98), (7, 1, 2)), ((11, 113), (7, 1, 2)), ((7, 28), (7, 2, 2)), ((5, 99), (7, 2, 2)), ((9, 121), (7, 2, 2)), ((11, 116), (7, 2, 2)), ((8, 28), (8, 0, 2)), ((8, 32), (8, 1, 0)), ((8, 9), (8, 2, 0)), ((8, 15), (8, 3, 0)), ((8, 18), (8, 4, 0)), ((8, 22), (8, 5, 0)), ((8, 25), (8, 6, 0)), ((11, 166), (8, 6, 0)), ((1, 9), (1, 0, 0)), ((9, 36), (1, 0, 0)), ((5, 61), (1, 0, 0)), ((10, 37), (1, 0, 0)), ((11, 245), (1, 0, 0)), ((1, 15), (1, 1, 0)), ((9, 66), (1, 1, 0)), ((5, 93), (1, 1, 0)), ((2, 118), (1, 1, 0)), ((11, 259), (1, 1, 0)), ((1, 18), (1, 2, 0)), ((9, 63), (1, 2, 0)), ((5, 91), (1, 2, 0)), ((2, 109), (1, 2, 0)), ((1, 21), (1, 3, 0)), ((5, 80), (1, 3, 0)), ((9, 103), (1, 3, 0)), ((2, 103), (1, 3, 0)), ((1, 25), (1, 4, 0)), ((9, 107), (1, 4, 0)), ((1, 28), (1, 5, 0)), ((9, 110), (1, 5, 0)), ((10, 9), (10, 0, 2)), ((9, 32), (10, 0, 2)), ((5, 57), (10, 0, 2)), ((2, 82), (10, 0, 2)), ((11, 175), (10, 0, 2)), ((10, 15), (10, 1, 0)), ((9, 27), (10, 1, 0)), ((5, 54), (10, 1, 0)), ((2, 79), (10, 1, 0)), ((11, 169), (10, 1, 0)), ((15, 15), (14, 0, 2)), ((15, 22), (14, 1, 0)), ((13, 1048), (14, 2, 0)), ((15, 79), (14, 3, 0)), ((13, 9), (13, 0, 2)), ((13, 15), (13, 1, 0)), ((12, 9), (12, 0, 2)), ((12, 15), (12, 1, 2)), ((12, 18), (12, 2, 2)), ((12, 21), (12, 3, 2)), ((12, 24), (12, 4, 2)), ((12, 199), (12, 5, 0)), ((12, 28), (12, 6, 2)), ((12, 31), (12, 7, 2)), ((12, 34), (12, 8, 2)), ((12, 37), (12, 9, 2)), ((12, 40), (12, 10, 2)), ((12, 43), (12, 11, 2)), ((12, 46), (12, 12, 2)), ((12, 353), (12, 13, 0)), ((12, 49), (12, 14, 2)), ((12, 202), (12, 15, 0)), ((12, 52), (12, 16, 2)), ((12, 272), (12, 17, 0)), ((12, 55), (12, 18, 2)), ((12, 58), (12, 19, 0)), ((12, 189), (12, 20, 1)), ((12, 342), (12, 21, 0)), ((12, 62), (12, 22, 2)), ((12, 65), (12, 23, 2)), ((12, 453), (12, 24, 0)), ((12, 456), (12, 25, 0)), ((12, 459), (12, 26, 0)), ((12, 68), (12, 27, 2)), ((12, 71), (12, 28, 2)), ((12, 74), (12, 29, 2)), ((12, 77), (12, 30, 2)), ((12, 80), (12, 31, 2)), ((12, 83), (12, 32, 2)), ((12, 86), (12, 33, 2)), ((12, 89), (12, 34, 2)), ((12, 205), (12, 35, 0)), ((12, 92), (12, 36, 2)), ((12, 95), (12, 37, 2)), ((12, 98), (12, 38, 2)), ((12, 101), (12, 39, 2)), ((12, 104), (12, 40, 2)), ((12, 107), (12, 41, 2)), ((12, 290), (12, 42, 0)), ((12, 293), (12, 43, 0)), ((12, 296), (12, 44, 0)), ((12, 299), (12, 45, 0)), ((12, 110), (12, 46, 2)), ((12, 113), (12, 47, 2)), ((12, 309), (12, 48, 0)), ((12, 312), (12, 49, 0)), ((12, 315), (12, 50, 0)), ((12, 318), (12, 51, 0)), ((12, 360), (12, 52, 0)), ((12, 363), (12, 53, 0)), ((12, 366), (12, 54, 0)), ((12, 369), (12, 55, 0)), ((12, 327), (12, 56, 0)), ((12, 330), (12, 57, 0)), ((12, 116), (12, 58, 2)), ((12, 119), (12, 59, 2)), ((12, 122), (12, 60, 2)), ((12, 125), (12, 61, 2)), ((12, 128), (12, 62, 2)), ((12, 131), (12, 63, 2)), ((12, 399), (12, 64, 1))]
def flI : List Nat := [135, 136, 137, 138, 139, 152, 153, 154, 155, 156, 157, 158, 168, 169, 170, 171, 172, 173, 174, 175, 176, 177, 178, 179, 180, 207, 208, 209, 210, 211, 212, 213, 214, 215, 216, 217, 218, 219, 220, 221, 222, 223, 224, 225, 226, 227, 263, 264, 265, 266, 267, 268, 269, 270, 288, 289, 290, 291, 292, 293, 294, 295, 296, 297, 298, 299, 314, 315, 316, 317, 318, 319, 320, 321, 322, 323, 324, 325, 326, 327, 328, 329, 382, 383, 384, 385, 386, 387, 388, 389, 390, 391, 392, 547, 548, 549, 550, 551, 552, 553, 554, 679, 680, 681, 682, 683, 684, 685, 686, 687, 688, 689, 690, 691, 692, 693, 694, 695, 696, 697, 698, 699, 700, 720, 721, 722, 723, 724, 725, 726, 727, 728, 729, 777, 778, 779, 780, 978, 979, 1333, 1334, 1335, 1336, 1337, 1338, 1339, 1340, 1341, 1342, 1343, 1344, 1345, 1346, 1347, 1348, 1349, 1350, 1351, 1352, 1353, 1354, 1355, 1356, 1357, 1358, 1359, 1360, 1361, 1362, 1363, 1364, 1365, 1366, 1367, 1368, 1369, 1370, 1371, 1372, 1373, 1374, 1375, 1376, 1377, 1378, 1379, 1380, 1381, 1382, 1383, 1384, 1385, 1386, 1387, 1388, 1389, 1390, 1391, 1392, 1393, 1394, 1395, 1396, 1397]
theorem flT_w : ckL flI (flT.map fWord) = true := by decide +kernel
theorem flT_c : flT.all fChk = true := by decide +kernel
def plF (o i : Nat) : Nat × Nat × Nat := ((flT.find? fun q => q.1.1 == o && q.1.2 == i).map Prod.snd).getD (999, 0, 0)
theorem plF_ok {o i c k t : Nat} (h : plF o i = (c, k, t)) (hc : c < 100) : ∃ q : vw_C, cls[c]? = some q ∧ k < q.2.2 ∧ fk c k = t ∧ Cond.fieldLink (oN o) i (q.2.1 k).1 (q.2.1 k).2.1 (q.2.1 k).2.2.1 ∈ GL := by
  unfold plF at h
  cases hf : flT.find? (fun q => q.1.1 == o && q.1.2 == i) with
  | none =>
    rw [hf] at h
    simp at h
    omega
  | some e =>
    rw [hf] at h
    have hm := List.mem_of_find?_eq_some hf
    have hp := List.find?_some hf
    simp only [Bool.and_eq_true, beq_iff_eq] at hp
    obtain ⟨⟨o1, i1⟩, c1, k1, t1⟩ := e
    simp at h hp
    obtain ⟨rfl, rfl⟩ := hp
    obtain ⟨rfl, rfl, rfl⟩ := h
    have h1 := List.all_eq_true.mp flT_c _ hm
    have h2 := ckL_ok flT_w _ (List.mem_map_of_mem hm)
    unfold fChk at h1
    unfold fWord clT at h2
    cases hq : cls[c1]? with
    | none => simp [hq] at h1
    | some q =>
      simp only [hq, Bool.and_eq_true, decide_eq_true_eq, beq_iff_eq] at h1 h2
      exact ⟨q, rfl, h1.1, h1.2, h2⟩
theorem pf_0_11 : plF 0 11 = (0, 0, 2) := by decide +kernel
theorem pf_11_288 : plF 11 288 = (0, 0, 2) := by decide +kernel
theorem pf_0_15 : plF 0 15 = (0, 1, 0) := by decide +kernel
theorem pf_5_43 : plF 5 43 = (0, 1, 0) := by decide +kernel
theorem pf_11_217 : plF 11 217 = (0, 1, 0) := by decide +kernel
theorem pf_6_9 : plF 6 9 = (6, 0, 0) := by decide +kernel
theorem pf_5_126 : plF 5 126 = (6, 0, 0) := by decide +kernel
theorem pf_6_15 : plF 6 15 = (6, 1, 0) := by decide +kernel
theorem pf_5_129 : plF 5 129 = (6, 1, 0) := by decide +kernel
theorem pf_6_18 : plF 6 18 = (6, 2, 0) := by decide +kernel
theorem pf_5_132 : plF 5 132 = (6, 2, 0) := by decide +kernel
theorem pf_6_21 : plF 6 21 = (6, 3, 0) := by decide +kernel
theorem pf_5_12 : plF 5 12 = (5, 0, 2) := by decide +kernel
theorem pf_11_213 : plF 11 213 = (5, 0, 2) := by decide +kernel
theorem pf_5_21 : plF 5 21 = (5, 1, 2) := by decide +kernel
theorem pf_11_264 : plF 11 264 = (5, 1, 2) := by decide +kernel
theorem pf_5_25 : plF 5 25 = (5, 2, 2) := by decide +kernel
theorem pf_5_29 : plF 5 29 = (5, 3, 2) := by decide +kernel
theorem pf_11_268 : plF 11 268 = (5, 3, 2) := by decide +kernel
theorem pf_5_33 : plF 5 33 = (5, 4, 0) := by decide +kernel
theorem pf_11_200 : plF 11 200 = (5, 4, 0) := by decide +kernel
theorem pf_5_37 : plF 5 37 = (5, 5, 0) := by decide +kernel
theorem pf_11_203 : plF 11 203 = (5, 5, 0) := by decide +kernel
theorem pf_5_40 : plF 5 40 = (5, 6, 0) := by decide +kernel
theorem pf_11_206 : plF 11 206 = (5, 6, 0) := by decide +kernel
theorem pf_2_9 : plF 2 9 = (2, 0, 0) := by decide +kernel
theorem pf_11_231 : plF 11 231 = (2, 0, 0) := by decide +kernel
theorem pf_2_15 : plF 2 15 = (2, 1, 0) := by decide +kernel
theorem pf_11_232 : plF 11 232 = (2, 1, 0) := by decide +kernel
theorem pf_2_18 : plF 2 18 = (2, 2, 0) := by decide +kernel
theorem pf_11_235 : plF 11 235 = (2, 2, 0) := by decide +kernel
theorem pf_2_21 : plF 2 21 = (2, 3, 0) := by decide +kernel
theorem pf_2_24 : plF 2 24 = (2, 4, 0) := by decide +kernel
theorem pf_11_251 : plF 11 251 = (2, 4, 0) := by decide +kernel
theorem pf_2_27 : plF 2 27 = (2, 5, 2) := by decide +kernel
theorem pf_9_45 : plF 9 45 = (2, 5, 2) := by decide +kernel
theorem pf_2_31 : plF 2 31 = (2, 6, 2) := by decide +kernel
theorem pf_9_59 : plF 9 59 = (2, 6, 2) := by decide +kernel
theorem pf_2_37 : plF 2 37 = (2, 7, 2) := by decide +kernel
theorem pf_9_72 : plF 9 72 = (2, 7, 2) := by decide +kernel
theorem pf_2_42 : plF 2 42 = (2, 8, 2) := by decide +kernel
theorem pf_9_76 : plF 9 76 = (2, 8, 2) := by decide +kernel
theorem pf_2_45 : plF 2 45 = (2, 9, 2) := by decide +kernel
theorem pf_2_48 : plF 2 48 = (2, 10, 0) := by decide +kernel
theorem pf_2_51 : plF 2 51 = (2, 11, 0) := by decide +kernel
theorem pf_2_54 : plF 2 54 = (2, 12, 1) := by decide +kernel
theorem pf_9_11 : plF 9 11 = (9, 0, 2) := by decide +kernel
theorem pf_11_248 : plF 11 248 = (9, 0, 2) := by decide +kernel
theorem pf_9_17 : plF 9 17 = (9, 1, 0) := by decide +kernel
theorem pf_11_242 : plF 11 242 = (9, 1, 0) := by decide +kernel
theorem pf_9_21 : plF 9 21 = (9, 2, 0) := by decide +kernel
theorem pf_11_243 : plF 11 243 = (9, 2, 0) := by decide +kernel
theorem pf_9_24 : plF 9 24 = (9, 3, 0) := by decide +kernel
theorem pf_11_244 : plF 11 244 = (9, 3, 0) := by decide +kernel
theorem pf_3_9 : plF 3 9 = (3, 0, 0) := by decide +kernel
theorem pf_11_334 : plF 11 334 = (3, 0, 0) := by decide +kernel
theorem pf_3_17 : plF 3 17 = (3, 1, 2) := by decide +kernel
theorem pf_11_315 : plF 11 315 = (3, 1, 2) := by decide +kernel
theorem pf_3_23 : plF 3 23 = (3, 2, 2) := by decide +kernel
theorem pf_11_320 : plF 11 320 = (3, 2, 2) := by decide +kernel
theorem pf_3_27 : plF 3 27 = (3, 3, 2) := by decide +kernel
theorem pf_11_325 : plF 11 325 = (3, 3, 2) := by decide +kernel
theorem pf_3_31 : plF 3 31 = (3, 4, 0) := by decide +kernel
theorem pf_11_332 : plF 11 332 = (3, 4, 0) := by decide +kernel
theorem pf_3_35 : plF 3 35 = (3, 5, 0) := by decide +kernel
theorem pf_11_333 : plF 11 333 = (3, 5, 0) := by decide +kernel
theorem pf_11_13 : plF 11 13 = (11, 0, 2) := by decide +kernel
theorem pf_11_19 : plF 11 19 = (11, 1, 2) := by decide +kernel
theorem pf_11_23 : plF 11 23 = (11, 2, 2) := by decide +kernel
theorem pf_11_27 : plF 11 27 = (11, 3, 2) := by decide +kernel
theorem pf_11_30 : plF 11 30 = (11, 4, 2) := by decide +kernel
theorem pf_11_36 : plF 11 36 = (11, 5, 2) := by decide +kernel
theorem pf_11_43 : plF 11 43 = (11, 6, 2) := by decide +kernel
theorem pf_11_50 : plF 11 50 = (11, 7, 2) := by decide +kernel
theorem pf_11_54 : plF 11 54 = (11, 8, 2) := by decide +kernel
theorem pf_11_60 : plF 11 60 = (11, 9, 2) := by decide +kernel
theorem pf_11_66 : plF 11 66 = (11, 10, 2) := by decide +kernel
theorem pf_11_70 : plF 11 70 = (11, 11, 0) := by decide +kernel
theorem pf_11_74 : plF 11 74 = (11, 12, 0) := by decide +kernel
theorem pf_11_77 : plF 11 77 = (11, 13, 0) := by decide +kernel
theorem pf_11_80 : plF 11 80 = (11, 14, 0) := by decide +kernel
theorem pf_11_83 : plF 11 83 = (11, 15, 1) := by decide +kernel
theorem pf_7_18 : plF 7 18 = (7, 0, 0) := by decide +kernel
theorem pf_5_88 : plF 5 88 = (7, 0, 0) := by decide +kernel
theorem pf_9_84 : plF 9 84 = (7, 0, 0) := by decide +kernel
theorem pf_11_94 : plF 11 94 = (7, 0, 0) := by decide +kernel
theorem pf_7_24 : plF 7 24 = (7, 1, 2) := by decide +kernel
theorem pf_5_98 : plF 5 98 = (7, 1, 2) := by decide +kernel
theorem pf_11_113 : plF 11 113 = (7, 1, 2) := by decide +kernel
theorem pf_7_28 : plF 7 28 = (7, 2, 2) := by decide +kernel
theorem pf_5_99 : plF 5 99 = (7, 2, 2) := by decide +kernel
theorem pf_9_121 : plF 9 121 = (7, 2, 2) := by decide +kernel
theorem pf_11_116 : plF 11 116 = (7, 2, 2) := by decide +kernel
theorem pf_8_28 : plF 8 28 = (8, 0, 2) := by decide +kernel
theorem pf_8_32 : plF 8 32 = (8, 1, 0) := by decide +kernel
theorem pf_8_9 : plF 8 9 = (8, 2, 0) := by decide +kernel
theorem pf_8_15 : plF 8 15 = (8, 3, 0) := by decide +kernel
theorem pf_8_18 : plF 8 18 = (8, 4, 0) := by decide +kernel
theorem pf_8_22 : plF 8 22 = (8, 5, 0) := by decide +kernel
theorem pf_8_25 : plF 8 25 = (8, 6, 0) := by decide +kernel
theorem pf_11_166 : plF 11 166 = (8, 6, 0) := by decide +kernel
theorem pf_1_9 : plF 1 9 = (1, 0, 0) := by decide +kernel
theorem pf_9_36 : plF 9 36 = (1, 0, 0) := by decide +kernel
theorem pf_5_61 : plF 5 61 = (1, 0, 0) := by decide +kernel
theorem pf_10_37 : plF 10 37 = (1, 0, 0) := by decide +kernel
theorem pf_11_245 : plF 11 245 = (1, 0, 0) := by decide +kernel
theorem pf_1_15 : plF 1 15 = (1, 1, 0) := by decide +kernel
theorem pf_9_66 : plF 9 66 = (1, 1, 0) := by decide +kernel
theorem pf_5_93 : plF 5 93 = (1, 1, 0) := by decide +kernel
theorem pf_2_118 : plF 2 118 = (1, 1, 0) := by decide +kernel
theorem pf_11_259 : plF 11 259 = (1, 1, 0) := by decide +kernel
theorem pf_1_18 : plF 1 18 = (1, 2, 0) := by decide +kernel
theorem pf_9_63 : plF 9 63 = (1, 2, 0) := by decide +kernel
theorem pf_5_91 : plF 5 91 = (1, 2, 0) := by decide +kernel
theorem pf_2_109 : plF 2 109 = (1, 2, 0) := by decide +kernel
theorem pf_1_21 : plF 1 21 = (1, 3, 0) := by decide +kernel
theorem pf_5_80 : plF 5 80 = (1, 3, 0) := by decide +kernel
theorem pf_9_103 : plF 9 103 = (1, 3, 0) := by decide +kernel
theorem pf_2_103 : plF 2 103 = (1, 3, 0) := by decide +kernel
theorem pf_1_25 : plF 1 25 = (1, 4, 0) := by decide +kernel
theorem pf_9_107 : plF 9 107 = (1, 4, 0) := by decide +kernel
theorem pf_1_28 : plF 1 28 = (1, 5, 0) := by decide +kernel
theorem pf_9_110 : plF 9 110 = (1, 5, 0) := by decide +kernel
theorem pf_10_9 : plF 10 9 = (10, 0, 2) := by decide +kernel
theorem pf_9_32 : plF 9 32 = (10, 0, 2) := by decide +kernel
theorem pf_5_57 : plF 5 57 = (10, 0, 2) := by decide +kernel
theorem pf_2_82 : plF 2 82 = (10, 0, 2) := by decide +kernel
theorem pf_11_175 : plF 11 175 = (10, 0, 2) := by decide +kernel
theorem pf_10_15 : plF 10 15 = (10, 1, 0) := by decide +kernel
theorem pf_9_27 : plF 9 27 = (10, 1, 0) := by decide +kernel
theorem pf_5_54 : plF 5 54 = (10, 1, 0) := by decide +kernel
theorem pf_2_79 : plF 2 79 = (10, 1, 0) := by decide +kernel
theorem pf_11_169 : plF 11 169 = (10, 1, 0) := by decide +kernel
theorem pf_15_15 : plF 15 15 = (14, 0, 2) := by decide +kernel
theorem pf_15_22 : plF 15 22 = (14, 1, 0) := by decide +kernel
theorem pf_13_1048 : plF 13 1048 = (14, 2, 0) := by decide +kernel
theorem pf_15_79 : plF 15 79 = (14, 3, 0) := by decide +kernel
theorem pf_13_9 : plF 13 9 = (13, 0, 2) := by decide +kernel
theorem pf_13_15 : plF 13 15 = (13, 1, 0) := by decide +kernel
theorem pf_12_9 : plF 12 9 = (12, 0, 2) := by decide +kernel
theorem pf_12_15 : plF 12 15 = (12, 1, 2) := by decide +kernel
theorem pf_12_18 : plF 12 18 = (12, 2, 2) := by decide +kernel
theorem pf_12_21 : plF 12 21 = (12, 3, 2) := by decide +kernel
theorem pf_12_24 : plF 12 24 = (12, 4, 2) := by decide +kernel
theorem pf_12_199 : plF 12 199 = (12, 5, 0) := by decide +kernel
theorem pf_12_28 : plF 12 28 = (12, 6, 2) := by decide +kernel
theorem pf_12_31 : plF 12 31 = (12, 7, 2) := by decide +kernel
theorem pf_12_34 : plF 12 34 = (12, 8, 2) := by decide +kernel
theorem pf_12_37 : plF 12 37 = (12, 9, 2) := by decide +kernel
theorem pf_12_40 : plF 12 40 = (12, 10, 2) := by decide +kernel
theorem pf_12_43 : plF 12 43 = (12, 11, 2) := by decide +kernel
theorem pf_12_46 : plF 12 46 = (12, 12, 2) := by decide +kernel
theorem pf_12_353 : plF 12 353 = (12, 13, 0) := by decide +kernel
theorem pf_12_49 : plF 12 49 = (12, 14, 2) := by decide +kernel
theorem pf_12_202 : plF 12 202 = (12, 15, 0) := by decide +kernel
theorem pf_12_52 : plF 12 52 = (12, 16, 2) := by decide +kernel
theorem pf_12_272 : plF 12 272 = (12, 17, 0) := by decide +kernel
theorem pf_12_55 : plF 12 55 = (12, 18, 2) := by decide +kernel
theorem pf_12_58 : plF 12 58 = (12, 19, 0) := by decide +kernel
theorem pf_12_189 : plF 12 189 = (12, 20, 1) := by decide +kernel
theorem pf_12_342 : plF 12 342 = (12, 21, 0) := by decide +kernel
theorem pf_12_62 : plF 12 62 = (12, 22, 2) := by decide +kernel
theorem pf_12_65 : plF 12 65 = (12, 23, 2) := by decide +kernel
theorem pf_12_453 : plF 12 453 = (12, 24, 0) := by decide +kernel
theorem pf_12_456 : plF 12 456 = (12, 25, 0) := by decide +kernel
theorem pf_12_459 : plF 12 459 = (12, 26, 0) := by decide +kernel
theorem pf_12_68 : plF 12 68 = (12, 27, 2) := by decide +kernel
theorem pf_12_71 : plF 12 71 = (12, 28, 2) := by decide +kernel
theorem pf_12_74 : plF 12 74 = (12, 29, 2) := by decide +kernel
theorem pf_12_77 : plF 12 77 = (12, 30, 2) := by decide +kernel
theorem pf_12_80 : plF 12 80 = (12, 31, 2) := by decide +kernel
theorem pf_12_83 : plF 12 83 = (12, 32, 2) := by decide +kernel
theorem pf_12_86 : plF 12 86 = (12, 33, 2) := by decide +kernel
theorem pf_12_89 : plF 12 89 = (12, 34, 2) := by decide +kernel
theorem pf_12_205 : plF 12 205 = (12, 35, 0) := by decide +kernel
theorem pf_12_92 : plF 12 92 = (12, 36, 2) := by decide +kernel
theorem pf_12_95 : plF 12 95 = (12, 37, 2) := by decide +kernel
theorem pf_12_98 : plF 12 98 = (12, 38, 2) := by decide +kernel
theorem pf_12_101 : plF 12 101 = (12, 39, 2) := by decide +kernel
theorem pf_12_104 : plF 12 104 = (12, 40, 2) := by decide +kernel
theorem pf_12_107 : plF 12 107 = (12, 41, 2) := by decide +kernel
theorem pf_12_290 : plF 12 290 = (12, 42, 0) := by decide +kernel
theorem pf_12_293 : plF 12 293 = (12, 43, 0) := by decide +kernel
theorem pf_12_296 : plF 12 296 = (12, 44, 0) := by decide +kernel
theorem pf_12_299 : plF 12 299 = (12, 45, 0) := by decide +kernel
theorem pf_12_110 : plF 12 110 = (12, 46, 2) := by decide +kernel
theorem pf_12_113 : plF 12 113 = (12, 47, 2) := by decide +kernel
theorem pf_12_309 : plF 12 309 = (12, 48, 0) := by decide +kernel
theorem pf_12_312 : plF 12 312 = (12, 49, 0) := by decide +kernel
theorem pf_12_315 : plF 12 315 = (12, 50, 0) := by decide +kernel
theorem pf_12_318 : plF 12 318 = (12, 51, 0) := by decide +kernel
theorem pf_12_360 : plF 12 360 = (12, 52, 0) := by decide +kernel
theorem pf_12_363 : plF 12 363 = (12, 53, 0) := by decide +kernel
theorem pf_12_366 : plF 12 366 = (12, 54, 0) := by decide +kernel
theorem pf_12_369 : plF 12 369 = (12, 55, 0) := by decide +kernel
theorem pf_12_327 : plF 12 327 = (12, 56, 0) := by decide +kernel
theorem pf_12_330 : plF 12 330 = (12, 57, 0) := by decide +kernel
theorem pf_12_116 : plF 12 116 = (12, 58, 2) := by decide +kernel
theorem pf_12_119 : plF 12 119 = (12, 59, 2) := by decide +kernel
theorem pf_12_122 : plF 12 122 = (12, 60, 2) := by decide +kernel
theorem pf_12_125 : plF 12 125 = (12, 61, 2) := by decide +kernel
theorem pf_12_128 : plF 12 128 = (12, 62, 2) := by decide +kernel
theorem pf_12_131 : plF 12 131 = (12, 63, 2) := by decide +kernel
theorem pf_12_399 : plF 12 399 = (12, 64, 1) := by decide +kernel
def rcOf (ty : Option FieldType) : Nat := match ty with
  | none => 0
  | some .long => 2
  | some (.object _) => 3
  | some (.array _) => 3
  | some .double => 4
  | some .float => 5
  | some _ => 1
def mxN (y : MethodName) : MethodName := ⟨"java/lang/AbstractStringBuilder", y.name, y.desc⟩
/-- the words that a call of a kind asks -/
def mWords (o i kd : Nat) (M : Mi) : List Cond := match kd with
  | 0 => [.methodLink (oN o) i (mN M), .static (mN M), .initialized (mN M).cls, .code (mN M) (mC M) (mL M) (mR M)]
  | 1 => [.methodLink (oN o) i (mN M), .instanceMethod (mN M), .selects (mN M).cls (mN M) (mN M), .initialized (mN M).cls, .code (mN M) (mC M) (mL M) (mR M)]
  | 2 => [.methodLink (oN o) i (mN M), .instanceMethod (mN M), .initialized (mN M).cls, .code (mN M) (mC M) (mL M) (mR M)]
  | 3 => [.static (mN M), .initialized (mN M).cls, .code (mN M) (mC M) (mL M) (mR M)]
  | 4 => [.instanceMethod (mN M), .initialized (mN M).cls, .code (mN M) (mC M) (mL M) (mR M)]
  | 12 => [.methodLink (oN o) i (mN M), .instanceMethod (mN M), .sameMethod (mN M).cls (mN M).cls (mN M).name (mN M).desc, .selects "java/lang/StringBuilder" (mN M) (mN M), .initialized (mN M).cls, .code (mN M) (mC M) (mL M) (mR M)]
  | 13 => [.methodLink (oN o) i (mN M), .instanceMethod (mN M), .sameMethod (mN M).cls (mN M).cls (mN M).name (mN M).desc, .superclass (oN o) (mN M).cls, .initialized (mN M).cls, .code (mN M) (mC M) (mL M) (mR M)]
  | _ => [.methodLink (oN o) i (mxN (mN M)), .sameMethod "java/lang/AbstractStringBuilder" "java/lang/AbstractStringBuilder" (mN M).name (mN M).desc, .instanceMethod (mxN (mN M)), .selects "java/lang/StringBuilder" (mxN (mN M)) (mN M), .instanceMethod (mN M), .code (mxN (mN M)) cJ5_length_8abf5 1 (some .int), .initialized (mN M).cls, .code (mN M) (mC M) (mL M) (mR M)]
def mChk (o i kd rc np : Nat) (M : Mi) (is : List Nat) : Bool := ckL is (mWords o i kd M) && (rcOf (mR M) == rc) && decide ((parseMethodDescriptor (mN M).desc).map (fun d => d.parameters.length) = some np) && decide ((mN M).cls ≠ "java/lang/invoke/MethodHandle" ∧ (mN M).cls ≠ "java/lang/invoke/VarHandle") && (!(kd == 3 || kd == 4) || nestT.any (fun q => q.1 == o && q.2.1 == i && decide (q.2.2 = mN M))) && (!(kd == 2 || kd == 4) || (decide ((mN M).name = "<init>") && decide (mR M = none))) && (!(kd == 1) || decide ((cls[mO M]?).map (fun q => q.1) = some (mN M).cls)) && (!(kd == 12) || decide ((mN M).cls = "java/lang/AbstractStringBuilder")) && (!(kd == 13) || decide ((mN M).name ≠ "<init>"))
/-- own, pool entry, kind, kind of answer, how many parameters, the method -/
abbrev Ml : Type := Nat × Nat × Nat × Nat × Nat × Mi
def mlT_0 : List Ml := [(0, 19, 1, 0, 1, mX0_add)]
def mlI_0 : List (List Nat) := [[1036, 1007, 1008, 87, 1009]]
theorem mk_0_19 : mChk 0 19 1 0 1 mX0_add [1036, 1007, 1008, 87, 1009] = true := by decide +kernel
def mlT_1 : List Ml := [(1, 32, 0, 1, 2, mX4_widens), (1, 38, 0, 1, 1, mX4_isWholeKind), (1, 42, 1, 3, 1, mJ4_append_cf468), (1, 48, 0, 3, 1, mX10_word), (1, 54, 1, 3, 1, mJ4_append_15ec4), (1, 59, 1, 3, 1, mJ4_append_bf812)]
def mlI_1 : List (List Nat) := [[1242, 429, 95, 430], [1243, 444, 95, 445], [865, 791, 792, 106, 793], [866, 598, 99, 599], [867, 868, 869, 106, 870], [907, 908, 909, 106, 910]]
theorem mk_1_32 : mChk 1 32 0 1 2 mX4_widens [1242, 429, 95, 430] = true := by decide +kernel
theorem mk_1_38 : mChk 1 38 0 1 1 mX4_isWholeKind [1243, 444, 95, 445] = true := by decide +kernel
theorem mk_1_42 : mChk 1 42 1 3 1 mJ4_append_cf468 [865, 791, 792, 106, 793] = true := by decide +kernel
theorem mk_1_48 : mChk 1 48 0 3 1 mX10_word [866, 598, 99, 599] = true := by decide +kernel
theorem mk_1_54 : mChk 1 54 1 3 1 mJ4_append_15ec4 [867, 868, 869, 106, 870] = true := by decide +kernel
theorem mk_1_59 : mChk 1 59 1 3 1 mJ4_append_bf812 [907, 908, 909, 106, 910] = true := by decide +kernel
def mlT_2 : List Ml := [(2, 59, 3, 1, 1, mX11_isVersion), (2, 63, 1, 1, 2, mX2_loses), (2, 67, 0, 1, 3, mX2_sumOf), (2, 71, 1, 1, 4, mX2_reads), (2, 75, 1, 1, 1, mX2_readsPresent), (2, 86, 1, 1, 2, mX2_readsSize), (2, 90, 1, 1, 2, mX2_readsCells), (2, 93, 1, 1, 0, mX2_fieldsPresent), (2, 97, 1, 1, 0, mX2_cellsPresent), (2, 100, 1, 1, 0, mX2_nextByte), (2, 112, 0, 1, 2, mJ9_min_7cf53), (2, 121, 1, 1, 1, mX2_readsBoxes), (2, 124, 1, 1, 3, mX2_readsSteps), (2, 128, 1, 1, 3, mX2_readsRuns), (2, 131, 1, 1, 3, mX2_readsPlain), (2, 134, 0, 1, 1, mX4_isNumberKind), (2, 139, 1, 1, 3, mX2_readsValue), (2, 143, 1, 0, 3, mX2_keep), (2, 147, 0, 1, 2, mX4_has)]
def mlI_2 : List (List Nat) := [[539, 85, 540], [1086, 1088, 23, 89, 1089], [1090, 1070, 89, 1071], [1091, 1092, 1093, 89, 1094], [1095, 1097, 24, 89, 1098], [1103, 1105, 26, 89, 1106], [1108, 1110, 27, 89, 1111], [1191, 1193, 36, 89, 1194], [1195, 1197, 37, 89, 1198], [1099, 1101, 25, 89, 1102], [1107, 377, 94, 378], [1112, 1114, 28, 89, 1115], [1129, 1131, 31, 89, 1132], [1133, 1135, 32, 89, 1136], [1137, 1139, 33, 89, 1140], [1116, 432, 95, 433], [1117, 1119, 29, 89, 1120], [1125, 1127, 30, 89, 1128], [1121, 1122, 95, 1123]]
theorem mk_2_59 : mChk 2 59 3 1 1 mX11_isVersion [539, 85, 540] = true := by decide +kernel
theorem mk_2_63 : mChk 2 63 1 1 2 mX2_loses [1086, 1088, 23, 89, 1089] = true := by decide +kernel
theorem mk_2_67 : mChk 2 67 0 1 3 mX2_sumOf [1090, 1070, 89, 1071] = true := by decide +kernel
theorem mk_2_71 : mChk 2 71 1 1 4 mX2_reads [1091, 1092, 1093, 89, 1094] = true := by decide +kernel
theorem mk_2_75 : mChk 2 75 1 1 1 mX2_readsPresent [1095, 1097, 24, 89, 1098] = true := by decide +kernel
theorem mk_2_86 : mChk 2 86 1 1 2 mX2_readsSize [1103, 1105, 26, 89, 1106] = true := by decide +kernel
theorem mk_2_90 : mChk 2 90 1 1 2 mX2_readsCells [1108, 1110, 27, 89, 1111] = true := by decide +kernel
theorem mk_2_93 : mChk 2 93 1 1 0 mX2_fieldsPresent [1191, 1193, 36, 89, 1194] = true := by decide +kernel
theorem mk_2_97 : mChk 2 97 1 1 0 mX2_cellsPresent [1195, 1197, 37, 89, 1198] = true := by decide +kernel
theorem mk_2_100 : mChk 2 100 1 1 0 mX2_nextByte [1099, 1101, 25, 89, 1102] = true := by decide +kernel
theorem mk_2_112 : mChk 2 112 0 1 2 mJ9_min_7cf53 [1107, 377, 94, 378] = true := by decide +kernel
theorem mk_2_121 : mChk 2 121 1 1 1 mX2_readsBoxes [1112, 1114, 28, 89, 1115] = true := by decide +kernel
theorem mk_2_124 : mChk 2 124 1 1 3 mX2_readsSteps [1129, 1131, 31, 89, 1132] = true := by decide +kernel
theorem mk_2_128 : mChk 2 128 1 1 3 mX2_readsRuns [1133, 1135, 32, 89, 1136] = true := by decide +kernel
theorem mk_2_131 : mChk 2 131 1 1 3 mX2_readsPlain [1137, 1139, 33, 89, 1140] = true := by decide +kernel
theorem mk_2_134 : mChk 2 134 0 1 1 mX4_isNumberKind [1116, 432, 95, 433] = true := by decide +kernel
theorem mk_2_139 : mChk 2 139 1 1 3 mX2_readsValue [1117, 1119, 29, 89, 1120] = true := by decide +kernel
theorem mk_2_143 : mChk 2 143 1 0 3 mX2_keep [1125, 1127, 30, 89, 1128] = true := by decide +kernel
theorem mk_2_147 : mChk 2 147 0 1 2 mX4_has [1121, 1122, 95, 1123] = true := by decide +kernel
def mlT_4 : List Ml := [(4, 9, 0, 1, 1, mX4_isNumberKind), (4, 21, 0, 2, 2, mX4_nearest), (4, 25, 0, 1, 1, mX4_isWholeKind), (4, 28, 0, 2, 1, mX4_doubleOfFloat), (4, 36, 0, 2, 1, mJ9_abs_067f4), (4, 41, 0, 2, 1, mX4_asFloat), (4, 44, 0, 2, 3, mX4_ratio), (4, 48, 0, 2, 3, mX4_signed), (4, 52, 0, 1, 1, mX4_topBit), (4, 56, 0, 1, 1, mX4_digitsOf), (4, 60, 0, 2, 2, mX4_rounded), (4, 64, 0, 2, 3, mX4_composed)]
def mlI_4 : List (List Nat) := [[431, 432, 95, 433], [460, 461, 95, 462], [443, 444, 95, 445], [446, 447, 95, 448], [509, 510, 94, 511], [512, 513, 95, 514], [515, 516, 95, 517], [469, 470, 95, 471], [454, 455, 95, 456], [463, 464, 95, 465], [466, 467, 95, 468], [457, 458, 95, 459]]
theorem mk_4_9 : mChk 4 9 0 1 1 mX4_isNumberKind [431, 432, 95, 433] = true := by decide +kernel
theorem mk_4_21 : mChk 4 21 0 2 2 mX4_nearest [460, 461, 95, 462] = true := by decide +kernel
theorem mk_4_25 : mChk 4 25 0 1 1 mX4_isWholeKind [443, 444, 95, 445] = true := by decide +kernel
theorem mk_4_28 : mChk 4 28 0 2 1 mX4_doubleOfFloat [446, 447, 95, 448] = true := by decide +kernel
theorem mk_4_36 : mChk 4 36 0 2 1 mJ9_abs_067f4 [509, 510, 94, 511] = true := by decide +kernel
theorem mk_4_41 : mChk 4 41 0 2 1 mX4_asFloat [512, 513, 95, 514] = true := by decide +kernel
theorem mk_4_44 : mChk 4 44 0 2 3 mX4_ratio [515, 516, 95, 517] = true := by decide +kernel
theorem mk_4_48 : mChk 4 48 0 2 3 mX4_signed [469, 470, 95, 471] = true := by decide +kernel
theorem mk_4_52 : mChk 4 52 0 1 1 mX4_topBit [454, 455, 95, 456] = true := by decide +kernel
theorem mk_4_56 : mChk 4 56 0 1 1 mX4_digitsOf [463, 464, 95, 465] = true := by decide +kernel
theorem mk_4_60 : mChk 4 60 0 2 2 mX4_rounded [466, 467, 95, 468] = true := by decide +kernel
theorem mk_4_64 : mChk 4 64 0 2 3 mX4_composed [457, 458, 95, 459] = true := by decide +kernel
def mlT_5 : List Ml := [(5, 11, 4, 0, 0, mX0_init), (5, 20, 4, 0, 0, mX6_init), (5, 46, 0, 1, 2, mX5_presentBits), (5, 50, 1, 0, 1, mX0_add), (5, 66, 1, 1, 2, mX5_gathers), (5, 70, 1, 1, 0, mX7_size), (5, 76, 1, 0, 2, mX5_addField), (5, 84, 1, 1, 2, mX5_refuses), (5, 94, 0, 1, 3, mX7_refusalToView), (5, 102, 0, 2, 3, mX4_widened), (5, 108, 1, 0, 1, mX5_addBoxes), (5, 111, 1, 0, 1, mX5_addNumbers), (5, 114, 0, 1, 1, mX4_width), (5, 118, 1, 0, 2, mX0_addNumber), (5, 122, 1, 0, 2, mX6_choose), (5, 135, 1, 0, 1, mX5_addSteps), (5, 138, 1, 0, 1, mX5_addRuns)]
def mlI_5 : List (List Nat) := [[132, 87, 133], [149, 88, 150], [1003, 1004, 86, 1005], [1006, 1007, 1008, 87, 1009], [1010, 1011, 1012, 86, 1013], [1018, 413, 414, 93, 415], [1021, 1023, 14, 86, 1024], [1014, 1016, 13, 86, 1017], [1019, 425, 93, 426], [1020, 441, 95, 442], [1025, 1027, 15, 86, 1028], [1037, 1039, 16, 86, 1040], [1029, 1030, 95, 1031], [1032, 1033, 1034, 87, 1035], [1041, 1042, 1043, 88, 1044], [1052, 1054, 18, 86, 1055], [1056, 1058, 19, 86, 1059]]
theorem mk_5_11 : mChk 5 11 4 0 0 mX0_init [132, 87, 133] = true := by decide +kernel
theorem mk_5_20 : mChk 5 20 4 0 0 mX6_init [149, 88, 150] = true := by decide +kernel
theorem mk_5_46 : mChk 5 46 0 1 2 mX5_presentBits [1003, 1004, 86, 1005] = true := by decide +kernel
theorem mk_5_50 : mChk 5 50 1 0 1 mX0_add [1006, 1007, 1008, 87, 1009] = true := by decide +kernel
theorem mk_5_66 : mChk 5 66 1 1 2 mX5_gathers [1010, 1011, 1012, 86, 1013] = true := by decide +kernel
theorem mk_5_70 : mChk 5 70 1 1 0 mX7_size [1018, 413, 414, 93, 415] = true := by decide +kernel
theorem mk_5_76 : mChk 5 76 1 0 2 mX5_addField [1021, 1023, 14, 86, 1024] = true := by decide +kernel
theorem mk_5_84 : mChk 5 84 1 1 2 mX5_refuses [1014, 1016, 13, 86, 1017] = true := by decide +kernel
theorem mk_5_94 : mChk 5 94 0 1 3 mX7_refusalToView [1019, 425, 93, 426] = true := by decide +kernel
theorem mk_5_102 : mChk 5 102 0 2 3 mX4_widened [1020, 441, 95, 442] = true := by decide +kernel
theorem mk_5_108 : mChk 5 108 1 0 1 mX5_addBoxes [1025, 1027, 15, 86, 1028] = true := by decide +kernel
theorem mk_5_111 : mChk 5 111 1 0 1 mX5_addNumbers [1037, 1039, 16, 86, 1040] = true := by decide +kernel
theorem mk_5_114 : mChk 5 114 0 1 1 mX4_width [1029, 1030, 95, 1031] = true := by decide +kernel
theorem mk_5_118 : mChk 5 118 1 0 2 mX0_addNumber [1032, 1033, 1034, 87, 1035] = true := by decide +kernel
theorem mk_5_122 : mChk 5 122 1 0 2 mX6_choose [1041, 1042, 1043, 88, 1044] = true := by decide +kernel
theorem mk_5_135 : mChk 5 135 1 0 1 mX5_addSteps [1052, 1054, 18, 86, 1055] = true := by decide +kernel
theorem mk_5_138 : mChk 5 138 1 0 1 mX5_addRuns [1056, 1058, 19, 86, 1059] = true := by decide +kernel
def mlT_6 : List Ml := [(6, 24, 0, 1, 1, mX4_width), (6, 30, 0, 1, 2, mJ9_max_7cf53), (6, 39, 1, 0, 4, mX6_offer)]
def mlI_6 : List (List Nat) := [[1045, 1030, 95, 1031], [1046, 380, 94, 381], [1048, 1050, 17, 88, 1051]]
theorem mk_6_24 : mChk 6 24 0 1 1 mX4_width [1045, 1030, 95, 1031] = true := by decide +kernel
theorem mk_6_30 : mChk 6 30 0 1 2 mJ9_max_7cf53 [1046, 380, 94, 381] = true := by decide +kernel
theorem mk_6_39 : mChk 6 39 1 0 4 mX6_offer [1048, 1050, 17, 88, 1051] = true := by decide +kernel
def mlT_7 : List Ml := [(7, 9, 0, 1, 2, mJ9_min_7cf53), (7, 15, 0, 1, 2, mJ9_max_7cf53), (7, 32, 1, 1, 0, mX7_size), (7, 36, 2, 0, 2, mX7_init), (7, 45, 0, 1, 2, mX4_widens), (7, 51, 0, 1, 3, mX7_refusalOfBox), (7, 55, 0, 2, 3, mX4_widened), (7, 59, 0, 1, 1, mX4_isWholeKind), (7, 63, 1, 1, 2, mX7_agrees)]
def mlI_7 : List (List Nat) := [[376, 377, 94, 378], [379, 380, 94, 381], [427, 413, 414, 93, 415], [1294, 373, 93, 374], [428, 429, 95, 430], [494, 495, 93, 496], [501, 441, 95, 442], [1261, 444, 95, 445], [1257, 1258, 1259, 93, 1260]]
theorem mk_7_9 : mChk 7 9 0 1 2 mJ9_min_7cf53 [376, 377, 94, 378] = true := by decide +kernel
theorem mk_7_15 : mChk 7 15 0 1 2 mJ9_max_7cf53 [379, 380, 94, 381] = true := by decide +kernel
theorem mk_7_32 : mChk 7 32 1 1 0 mX7_size [427, 413, 414, 93, 415] = true := by decide +kernel
theorem mk_7_36 : mChk 7 36 2 0 2 mX7_init [1294, 373, 93, 374] = true := by decide +kernel
theorem mk_7_45 : mChk 7 45 0 1 2 mX4_widens [428, 429, 95, 430] = true := by decide +kernel
theorem mk_7_51 : mChk 7 51 0 1 3 mX7_refusalOfBox [494, 495, 93, 496] = true := by decide +kernel
theorem mk_7_55 : mChk 7 55 0 2 3 mX4_widened [501, 441, 95, 442] = true := by decide +kernel
theorem mk_7_59 : mChk 7 59 0 1 1 mX4_isWholeKind [1261, 444, 95, 445] = true := by decide +kernel
theorem mk_7_63 : mChk 7 63 1 1 2 mX7_agrees [1257, 1258, 1259, 93, 1260] = true := by decide +kernel
def mlT_8 : List Ml := [(8, 37, 1, 3, 0, mX8_nextField), (8, 43, 2, 0, 2, mX10_init), (8, 46, 1, 1, 0, mX8_here), (8, 50, 1, 1, 1, mX8_faultAt), (8, 54, 3, 1, 1, mX11_isSlot), (8, 57, 1, 1, 1, mX8_skips), (8, 61, 1, 1, 0, mX8_nextKind), (8, 64, 1, 1, 0, mX8_nextCells), (8, 67, 1, 1, 1, mX8_readsDefault), (8, 70, 2, 0, 6, mX1_init), (8, 73, 0, 3, 1, mX10_word), (8, 77, 1, 1, 2, mX8_isWord), (8, 81, 1, 1, 0, mJ0_length_8abf5), (8, 86, 1, 1, 1, mJ0_charAt_5068e), (8, 90, 1, 1, 1, mX8_nextDigits), (8, 94, 0, 1, 2, mJ9_max_7cf53)]
def mlI_8 : List (List Nat) := [[576, 578, 3, 98, 579], [716, 717, 99, 718], [580, 582, 4, 98, 583], [585, 587, 5, 98, 588], [369, 85, 370], [589, 591, 6, 98, 592], [593, 595, 7, 98, 596], [661, 663, 9, 98, 664], [670, 672, 11, 98, 673], [675, 676, 104, 677], [597, 598, 99, 599], [609, 611, 8, 98, 612], [613, 614, 615, 100, 616], [623, 624, 625, 100, 626], [665, 667, 10, 98, 668], [669, 380, 94, 381]]
theorem mk_8_37 : mChk 8 37 1 3 0 mX8_nextField [576, 578, 3, 98, 579] = true := by decide +kernel
theorem mk_8_43 : mChk 8 43 2 0 2 mX10_init [716, 717, 99, 718] = true := by decide +kernel
theorem mk_8_46 : mChk 8 46 1 1 0 mX8_here [580, 582, 4, 98, 583] = true := by decide +kernel
theorem mk_8_50 : mChk 8 50 1 1 1 mX8_faultAt [585, 587, 5, 98, 588] = true := by decide +kernel
theorem mk_8_54 : mChk 8 54 3 1 1 mX11_isSlot [369, 85, 370] = true := by decide +kernel
theorem mk_8_57 : mChk 8 57 1 1 1 mX8_skips [589, 591, 6, 98, 592] = true := by decide +kernel
theorem mk_8_61 : mChk 8 61 1 1 0 mX8_nextKind [593, 595, 7, 98, 596] = true := by decide +kernel
theorem mk_8_64 : mChk 8 64 1 1 0 mX8_nextCells [661, 663, 9, 98, 664] = true := by decide +kernel
theorem mk_8_67 : mChk 8 67 1 1 1 mX8_readsDefault [670, 672, 11, 98, 673] = true := by decide +kernel
theorem mk_8_70 : mChk 8 70 2 0 6 mX1_init [675, 676, 104, 677] = true := by decide +kernel
theorem mk_8_73 : mChk 8 73 0 3 1 mX10_word [597, 598, 99, 599] = true := by decide +kernel
theorem mk_8_77 : mChk 8 77 1 1 2 mX8_isWord [609, 611, 8, 98, 612] = true := by decide +kernel
theorem mk_8_81 : mChk 8 81 1 1 0 mJ0_length_8abf5 [613, 614, 615, 100, 616] = true := by decide +kernel
theorem mk_8_86 : mChk 8 86 1 1 1 mJ0_charAt_5068e [623, 624, 625, 100, 626] = true := by decide +kernel
theorem mk_8_90 : mChk 8 90 1 1 1 mX8_nextDigits [665, 667, 10, 98, 668] = true := by decide +kernel
theorem mk_8_94 : mChk 8 94 0 1 2 mJ9_max_7cf53 [669, 380, 94, 381] = true := by decide +kernel
def mlT_9 : List Ml := [(9, 41, 1, 1, 1, mX10_placeOf), (9, 51, 1, 1, 5, mX9_fill), (9, 55, 1, 1, 2, mX9_fillByDefault), (9, 69, 2, 0, 2, mX7_init), (9, 80, 0, 1, 5, mX9_enter), (9, 85, 0, 1, 3, mX7_refusalOfBox), (9, 89, 1, 0, 3, mX7_put), (9, 93, 0, 1, 1, mX4_isWholeKind), (9, 99, 0, 1, 2, mX4_has), (9, 113, 0, 2, 2, mX4_byLong), (9, 117, 1, 1, 0, mX7_size)]
def mlI_9 : List (List Nat) := [[1145, 1146, 1147, 99, 1148], [1149, 1151, 34, 90, 1152], [1161, 1163, 35, 90, 1164], [1153, 373, 93, 374], [1154, 1155, 90, 1156], [1157, 495, 93, 496], [1158, 498, 499, 93, 500], [1159, 444, 95, 445], [1160, 1122, 95, 1123], [1165, 484, 95, 485], [1166, 413, 414, 93, 415]]
theorem mk_9_41 : mChk 9 41 1 1 1 mX10_placeOf [1145, 1146, 1147, 99, 1148] = true := by decide +kernel
theorem mk_9_51 : mChk 9 51 1 1 5 mX9_fill [1149, 1151, 34, 90, 1152] = true := by decide +kernel
theorem mk_9_55 : mChk 9 55 1 1 2 mX9_fillByDefault [1161, 1163, 35, 90, 1164] = true := by decide +kernel
theorem mk_9_69 : mChk 9 69 2 0 2 mX7_init [1153, 373, 93, 374] = true := by decide +kernel
theorem mk_9_80 : mChk 9 80 0 1 5 mX9_enter [1154, 1155, 90, 1156] = true := by decide +kernel
theorem mk_9_85 : mChk 9 85 0 1 3 mX7_refusalOfBox [1157, 495, 93, 496] = true := by decide +kernel
theorem mk_9_89 : mChk 9 89 1 0 3 mX7_put [1158, 498, 499, 93, 500] = true := by decide +kernel
theorem mk_9_93 : mChk 9 93 0 1 1 mX4_isWholeKind [1159, 444, 95, 445] = true := by decide +kernel
theorem mk_9_99 : mChk 9 99 0 1 2 mX4_has [1160, 1122, 95, 1123] = true := by decide +kernel
theorem mk_9_113 : mChk 9 113 0 2 2 mX4_byLong [1165, 484, 95, 485] = true := by decide +kernel
theorem mk_9_117 : mChk 9 117 1 1 0 mX7_size [1166, 413, 414, 93, 415] = true := by decide +kernel
def mlT_10 : List Ml := [(10, 44, 2, 0, 0, mJ4_init_da8c8), (10, 45, 1, 3, 1, mJ4_append_cf468), (10, 49, 1, 0, 1, mX1_spellTo), (10, 53, 1, 3, 0, mJ4_toString_0e30d)]
def mlI_10 : List (List Nat) := [[762, 763, 106, 764], [790, 791, 792, 106, 793], [861, 862, 863, 104, 864], [932, 933, 934, 106, 935]]
theorem mk_10_44 : mChk 10 44 2 0 0 mJ4_init_da8c8 [762, 763, 106, 764] = true := by decide +kernel
theorem mk_10_45 : mChk 10 45 1 3 1 mJ4_append_cf468 [790, 791, 792, 106, 793] = true := by decide +kernel
theorem mk_10_49 : mChk 10 49 1 0 1 mX1_spellTo [861, 862, 863, 104, 864] = true := by decide +kernel
theorem mk_10_53 : mChk 10 53 1 3 0 mJ4_toString_0e30d [932, 933, 934, 106, 935] = true := by decide +kernel
def mlT_11 : List Ml := [(11, 35, 4, 0, 0, mX5_init), (11, 42, 4, 0, 0, mX2_init), (11, 49, 4, 0, 0, mX9_init), (11, 59, 4, 0, 0, mX3_init), (11, 87, 0, 1, 1, mX11_isSlot), (11, 91, 2, 0, 2, mX7_init), (11, 97, 1, 1, 0, mX7_size), (11, 101, 1, 1, 1, mX11_holdersOf), (11, 105, 0, 1, 3, mX7_refusalToView), (11, 109, 1, 1, 1, mX11_refusedBy), (11, 120, 0, 2, 3, mX4_widened), (11, 128, 0, 1, 1, mX4_isNumberKind), (11, 131, 0, 2, 2, mX4_byLong), (11, 135, 1, 1, 4, mX11_enterNumber), (11, 139, 0, 2, 3, mX4_quotient), (11, 143, 0, 1, 3, mX7_refusalOfBox), (11, 146, 1, 0, 3, mX7_put), (11, 150, 0, 1, 2, mX11_byteOf), (11, 154, 0, 1, 1, mX11_isVersion), (11, 159, 2, 0, 2, mX8_init), (11, 162, 1, 3, 0, mX8_understood), (11, 172, 1, 1, 1, mX11_lackOf), (11, 179, 1, 1, 1, mX1_tell), (11, 184, 1, 3, 0, mX10_asText), (11, 188, 1, 1, 0, mJ0_length_8abf5), (11, 192, 1, 1, 1, mJ0_charAt_5068e), (11, 196, 1, 1, 2, mX5_packs), (11, 209, 1, 0, 4, mX11_stopBy), (11, 220, 1, 0, 2, mX11_putFrame), (11, 224, 1, 1, 1, mX11_isOnWire), (11, 227, 1, 1, 4, mX2_stands), (11, 238, 1, 1, 4, mX9_takes), (11, 254, 1, 1, 1, mX2_tell), (11, 255, 1, 1, 1, mX11_frameSize), (11, 260, 1, 1, 2, mX5_gathers), (11, 271, 1, 0, 2, mX6_choose), (11, 277, 1, 1, 1, mX6_tell), (11, 278, 1, 1, 1, mX10_placeOf), (11, 281, 1, 1, 0, mX1_fitOfNone), (11, 284, 1, 1, 1, mX1_fitOf), (11, 291, 1, 1, 4, mX2_reads), (11, 295, 1, 1, 1, mX11_cellsKept), (11, 298, 0, 1, 2, mJ9_min_7cf53), (11, 303, 1, 1, 2, mX7_agrees), (11, 307, 0, 2, 1, mX11_digestOf), (11, 316, 0, 0, 2, mX11_copyRows), (11, 321, 0, 0, 2, mX11_copyVersions), (11, 338, 1, 1, 0, mX11_unlikeRows), (11, 341, 1, 1, 1, mX11_slotsWith), (11, 345, 1, 1, 0, mX11_cellsOfUnlikeRows), (11, 348, 1, 1, 0, mX11_versionsThere), (11, 351, 0, 1, 3, mX7_refusalOfNumber), (11, 354, 0, 1, 3, mX2_sumOf), (11, 358, 1, 1, 1, mX7_agreements), (11, 365, 0, 1, 2, mX11_firstHolder), (11, 369, 1, 3, 0, mX7_twin), (11, 373, 1, 1, 1, mX11_isFirstOfRow)]
def mlI_11 : List (List Nat) := [[126, 86, 127], [200, 89, 201], [259, 90, 260], [283, 91, 284], [368, 369, 85, 370], [372, 373, 93, 374], [412, 413, 414, 93, 415], [416, 418, 0, 85, 419], [424, 425, 93, 426], [436, 438, 1, 85, 439], [440, 441, 95, 442], [482, 432, 95, 433], [483, 484, 95, 485], [487, 489, 2, 85, 490], [506, 507, 95, 508], [522, 495, 93, 496], [497, 498, 499, 93, 500], [531, 532, 85, 533], [538, 539, 85, 540], [543, 544, 98, 545], [570, 571, 572, 98, 573], [739, 741, 12, 85, 742], [747, 748, 749, 104, 750], [756, 757, 758, 99, 759], [989, 614, 615, 100, 616], [994, 624, 625, 100, 626], [999, 1000, 1001, 86, 1002], [1060, 1062, 20, 85, 1063], [1064, 1066, 21, 85, 1067], [1077, 1079, 22, 85, 1080], [1081, 1082, 1083, 89, 1084], [1141, 1142, 1143, 90, 1144], [1187, 1188, 1189, 89, 1190], [1203, 1205, 38, 85, 1206], [1211, 1011, 1012, 86, 1013], [1212, 1042, 1043, 88, 1044], [1213, 1214, 1215, 88, 1216], [1233, 1146, 1147, 99, 1148], [1234, 1235, 1236, 104, 1237], [1238, 1239, 1240, 104, 1241], [1248, 1092, 1093, 89, 1094], [1249, 1251, 39, 85, 1252], [1266, 377, 94, 378], [1267, 1258, 1259, 93, 1260], [1272, 1273, 85, 1274], [1283, 1284, 85, 1285], [1296, 1297, 85, 1298], [1299, 1301, 40, 85, 1302], [1315, 1317, 42, 85, 1318], [1319, 1321, 43, 85, 1322], [1323, 1325, 44, 85, 1326], [491, 492, 93, 493], [1069, 1070, 89, 1071], [1253, 1254, 1255, 93, 1256], [1286, 1287, 85, 1288], [1289, 1290, 1291, 93, 1292], [1303, 1305, 41, 85, 1306]]
theorem mk_11_35 : mChk 11 35 4 0 0 mX5_init [126, 86, 127] = true := by decide +kernel
theorem mk_11_42 : mChk 11 42 4 0 0 mX2_init [200, 89, 201] = true := by decide +kernel
theorem mk_11_49 : mChk 11 49 4 0 0 mX9_init [259, 90, 260] = true := by decide +kernel
theorem mk_11_59 : mChk 11 59 4 0 0 mX3_init [283, 91, 284] = true := by decide +kernel
theorem mk_11_87 : mChk 11 87 0 1 1 mX11_isSlot [368, 369, 85, 370] = true := by decide +kernel
theorem mk_11_91 : mChk 11 91 2 0 2 mX7_init [372, 373, 93, 374] = true := by decide +kernel
theorem mk_11_97 : mChk 11 97 1 1 0 mX7_size [412, 413, 414, 93, 415] = true := by decide +kernel
theorem mk_11_101 : mChk 11 101 1 1 1 mX11_holdersOf [416, 418, 0, 85, 419] = true := by decide +kernel
theorem mk_11_105 : mChk 11 105 0 1 3 mX7_refusalToView [424, 425, 93, 426] = true := by decide +kernel
theorem mk_11_109 : mChk 11 109 1 1 1 mX11_refusedBy [436, 438, 1, 85, 439] = true := by decide +kernel
theorem mk_11_120 : mChk 11 120 0 2 3 mX4_widened [440, 441, 95, 442] = true := by decide +kernel
theorem mk_11_128 : mChk 11 128 0 1 1 mX4_isNumberKind [482, 432, 95, 433] = true := by decide +kernel
theorem mk_11_131 : mChk 11 131 0 2 2 mX4_byLong [483, 484, 95, 485] = true := by decide +kernel
theorem mk_11_135 : mChk 11 135 1 1 4 mX11_enterNumber [487, 489, 2, 85, 490] = true := by decide +kernel
theorem mk_11_139 : mChk 11 139 0 2 3 mX4_quotient [506, 507, 95, 508] = true := by decide +kernel
theorem mk_11_143 : mChk 11 143 0 1 3 mX7_refusalOfBox [522, 495, 93, 496] = true := by decide +kernel
theorem mk_11_146 : mChk 11 146 1 0 3 mX7_put [497, 498, 499, 93, 500] = true := by decide +kernel
theorem mk_11_150 : mChk 11 150 0 1 2 mX11_byteOf [531, 532, 85, 533] = true := by decide +kernel
theorem mk_11_154 : mChk 11 154 0 1 1 mX11_isVersion [538, 539, 85, 540] = true := by decide +kernel
theorem mk_11_159 : mChk 11 159 2 0 2 mX8_init [543, 544, 98, 545] = true := by decide +kernel
theorem mk_11_162 : mChk 11 162 1 3 0 mX8_understood [570, 571, 572, 98, 573] = true := by decide +kernel
theorem mk_11_172 : mChk 11 172 1 1 1 mX11_lackOf [739, 741, 12, 85, 742] = true := by decide +kernel
theorem mk_11_179 : mChk 11 179 1 1 1 mX1_tell [747, 748, 749, 104, 750] = true := by decide +kernel
theorem mk_11_184 : mChk 11 184 1 3 0 mX10_asText [756, 757, 758, 99, 759] = true := by decide +kernel
theorem mk_11_188 : mChk 11 188 1 1 0 mJ0_length_8abf5 [989, 614, 615, 100, 616] = true := by decide +kernel
theorem mk_11_192 : mChk 11 192 1 1 1 mJ0_charAt_5068e [994, 624, 625, 100, 626] = true := by decide +kernel
theorem mk_11_196 : mChk 11 196 1 1 2 mX5_packs [999, 1000, 1001, 86, 1002] = true := by decide +kernel
theorem mk_11_209 : mChk 11 209 1 0 4 mX11_stopBy [1060, 1062, 20, 85, 1063] = true := by decide +kernel
theorem mk_11_220 : mChk 11 220 1 0 2 mX11_putFrame [1064, 1066, 21, 85, 1067] = true := by decide +kernel
theorem mk_11_224 : mChk 11 224 1 1 1 mX11_isOnWire [1077, 1079, 22, 85, 1080] = true := by decide +kernel
theorem mk_11_227 : mChk 11 227 1 1 4 mX2_stands [1081, 1082, 1083, 89, 1084] = true := by decide +kernel
theorem mk_11_238 : mChk 11 238 1 1 4 mX9_takes [1141, 1142, 1143, 90, 1144] = true := by decide +kernel
theorem mk_11_254 : mChk 11 254 1 1 1 mX2_tell [1187, 1188, 1189, 89, 1190] = true := by decide +kernel
theorem mk_11_255 : mChk 11 255 1 1 1 mX11_frameSize [1203, 1205, 38, 85, 1206] = true := by decide +kernel
theorem mk_11_260 : mChk 11 260 1 1 2 mX5_gathers [1211, 1011, 1012, 86, 1013] = true := by decide +kernel
theorem mk_11_271 : mChk 11 271 1 0 2 mX6_choose [1212, 1042, 1043, 88, 1044] = true := by decide +kernel
theorem mk_11_277 : mChk 11 277 1 1 1 mX6_tell [1213, 1214, 1215, 88, 1216] = true := by decide +kernel
theorem mk_11_278 : mChk 11 278 1 1 1 mX10_placeOf [1233, 1146, 1147, 99, 1148] = true := by decide +kernel
theorem mk_11_281 : mChk 11 281 1 1 0 mX1_fitOfNone [1234, 1235, 1236, 104, 1237] = true := by decide +kernel
theorem mk_11_284 : mChk 11 284 1 1 1 mX1_fitOf [1238, 1239, 1240, 104, 1241] = true := by decide +kernel
theorem mk_11_291 : mChk 11 291 1 1 4 mX2_reads [1248, 1092, 1093, 89, 1094] = true := by decide +kernel
theorem mk_11_295 : mChk 11 295 1 1 1 mX11_cellsKept [1249, 1251, 39, 85, 1252] = true := by decide +kernel
theorem mk_11_298 : mChk 11 298 0 1 2 mJ9_min_7cf53 [1266, 377, 94, 378] = true := by decide +kernel
theorem mk_11_303 : mChk 11 303 1 1 2 mX7_agrees [1267, 1258, 1259, 93, 1260] = true := by decide +kernel
theorem mk_11_307 : mChk 11 307 0 2 1 mX11_digestOf [1272, 1273, 85, 1274] = true := by decide +kernel
theorem mk_11_316 : mChk 11 316 0 0 2 mX11_copyRows [1283, 1284, 85, 1285] = true := by decide +kernel
theorem mk_11_321 : mChk 11 321 0 0 2 mX11_copyVersions [1296, 1297, 85, 1298] = true := by decide +kernel
theorem mk_11_338 : mChk 11 338 1 1 0 mX11_unlikeRows [1299, 1301, 40, 85, 1302] = true := by decide +kernel
theorem mk_11_341 : mChk 11 341 1 1 1 mX11_slotsWith [1315, 1317, 42, 85, 1318] = true := by decide +kernel
theorem mk_11_345 : mChk 11 345 1 1 0 mX11_cellsOfUnlikeRows [1319, 1321, 43, 85, 1322] = true := by decide +kernel
theorem mk_11_348 : mChk 11 348 1 1 0 mX11_versionsThere [1323, 1325, 44, 85, 1326] = true := by decide +kernel
theorem mk_11_351 : mChk 11 351 0 1 3 mX7_refusalOfNumber [491, 492, 93, 493] = true := by decide +kernel
theorem mk_11_354 : mChk 11 354 0 1 3 mX2_sumOf [1069, 1070, 89, 1071] = true := by decide +kernel
theorem mk_11_358 : mChk 11 358 1 1 1 mX7_agreements [1253, 1254, 1255, 93, 1256] = true := by decide +kernel
theorem mk_11_365 : mChk 11 365 0 1 2 mX11_firstHolder [1286, 1287, 85, 1288] = true := by decide +kernel
theorem mk_11_369 : mChk 11 369 1 3 0 mX7_twin [1289, 1290, 1291, 93, 1292] = true := by decide +kernel
theorem mk_11_373 : mChk 11 373 1 1 1 mX11_isFirstOfRow [1303, 1305, 41, 85, 1306] = true := by decide +kernel
def mlT_12 : List Ml := [(12, 134, 0, 1, 3, mX12_within), (12, 138, 0, 1, 1, mJxf58ca_floatToIntBits_5c35a), (12, 144, 0, 2, 1, mJxe99ae_doubleToLongBits_ccdee), (12, 154, 0, 2, 2, mX12_numberOf), (12, 162, 1, 1, 1, mX12_holders), (12, 166, 0, 1, 1, mX12_isSlot), (12, 170, 1, 1, 0, mX12_free), (12, 174, 0, 1, 2, mX12_widens), (12, 178, 1, 1, 3, mX12_bars), (12, 182, 1, 1, 1, mX12_refuses), (12, 185, 0, 2, 3, mX12_widened), (12, 195, 1, 1, 4, mX12_comes), (12, 208, 1, 1, 0, mX12_sign), (12, 228, 1, 1, 0, mJ0_length_8abf5), (12, 233, 1, 1, 1, mJ0_charAt_5068e), (12, 237, 0, 3, 1, mX12_wordOf), (12, 241, 1, 1, 2, mX12_isWord), (12, 245, 1, 1, 1, mX12_is), (12, 248, 1, 1, 0, mX12_isDigit), (12, 252, 1, 1, 1, mX12_isKind), (12, 255, 1, 1, 1, mX12_isMany), (12, 258, 1, 1, 1, mX12_isDefault), (12, 261, 0, 1, 1, mX12_isVersion), (12, 264, 1, 1, 1, mX12_isField), (12, 267, 1, 1, 2, mX12_noField), (12, 275, 1, 0, 1, mX12_says), (12, 279, 0, 1, 1, mJ9_abs_0f7a4), (12, 284, 1, 0, 1, mX12_says_), (12, 287, 1, 0, 1, mX12_saysNumber), (12, 302, 0, 1, 1, mX12_width), (12, 306, 0, 1, 2, mJ9_max_7cf53), (12, 320, 1, 0, 1, mX12_weighs), (12, 323, 1, 0, 2, mX12_puts), (12, 333, 1, 1, 3, mX12_fails), (12, 336, 1, 1, 1, mX12_reads), (12, 339, 1, 0, 1, mX12_putsNumbers), (12, 346, 1, 1, 1, mX12_packs), (12, 349, 1, 1, 4, mX12_stops), (12, 356, 0, 1, 4, mX12_digestOf), (12, 372, 1, 1, 2, mX12_isLost), (12, 375, 1, 1, 1, mX12_isCut), (12, 378, 1, 2, 1, mX12_told), (12, 382, 0, 1, 2, mX12_isValue), (12, 386, 1, 1, 4, mX12_isNoValue), (12, 390, 1, 1, 1, mX12_areNoBoxes), (12, 393, 1, 1, 2, mX12_areNoNumbers), (12, 396, 1, 1, 0, mX12_isNoBody), (12, 402, 0, 1, 1, mX12_isWhole), (12, 405, 1, 1, 2, mX12_fieldFor), (12, 408, 1, 1, 3, mX12_fits), (12, 412, 1, 1, 2, mX12_takesField), (12, 415, 1, 1, 1, mX12_isNoFrame), (12, 418, 1, 1, 1, mX12_takes), (12, 421, 0, 1, 1, mJ6_bitCount_0f7a4), (12, 426, 1, 1, 1, mX12_isRow), (12, 433, 0, 4, 2, mX12_real_), (12, 437, 0, 1, 4, mX12_areAlike), (12, 449, 1, 2, 1, mX12_digestOf_), (12, 462, 1, 1, 0, mX12_unlike)]
def mlI_12 : List (List Nat) := [[1536, 1537, 92, 1538], [1593, 1594, 96, 1595], [1580, 1581, 97, 1582], [1590, 1591, 92, 1592], [1543, 1545, 46, 92, 1546], [1533, 1534, 92, 1535], [1539, 1541, 45, 92, 1542], [1567, 1568, 92, 1569], [1563, 1565, 47, 92, 1566], [1570, 1572, 48, 92, 1573], [1574, 1575, 92, 1576], [1612, 1614, 49, 92, 1615], [1643, 1645, 51, 92, 1646], [1671, 614, 615, 100, 616], [1672, 624, 625, 100, 626], [1655, 1656, 92, 1657], [1667, 1669, 54, 92, 1670], [1647, 1649, 52, 92, 1650], [1677, 1679, 56, 92, 1680], [1651, 1653, 53, 92, 1654], [1673, 1675, 55, 92, 1676], [1681, 1683, 57, 92, 1684], [1636, 1637, 92, 1638], [1639, 1641, 50, 92, 1642], [1693, 1695, 58, 92, 1696], [1702, 1704, 59, 92, 1705], [1714, 1715, 94, 1716], [1706, 1708, 60, 92, 1709], [1710, 1712, 61, 92, 1713], [1737, 1738, 92, 1739], [1753, 380, 94, 381], [1749, 1751, 67, 92, 1752], [1740, 1742, 65, 92, 1743], [1729, 1731, 63, 92, 1732], [1733, 1735, 64, 92, 1736], [1745, 1747, 66, 92, 1748], [1725, 1727, 62, 92, 1728], [1754, 1756, 68, 92, 1757], [1758, 1759, 92, 1760], [1769, 1771, 70, 92, 1772], [1777, 1779, 72, 92, 1780], [1789, 1791, 75, 92, 1792], [1793, 1794, 92, 1795], [1785, 1787, 74, 92, 1788], [1781, 1783, 73, 92, 1784], [1797, 1799, 76, 92, 1800], [1773, 1775, 71, 92, 1776], [1817, 1818, 92, 1819], [1809, 1811, 79, 92, 1812], [1813, 1815, 80, 92, 1816], [1805, 1807, 78, 92, 1808], [1765, 1767, 69, 92, 1768], [1801, 1803, 77, 92, 1804], [1840, 1841, 110, 1842], [1854, 1856, 81, 92, 1857], [1881, 1882, 92, 1883], [1878, 1879, 92, 1880], [1895, 1897, 82, 92, 1898], [1908, 1910, 83, 92, 1911]]
theorem mk_12_134 : mChk 12 134 0 1 3 mX12_within [1536, 1537, 92, 1538] = true := by decide +kernel
theorem mk_12_138 : mChk 12 138 0 1 1 mJxf58ca_floatToIntBits_5c35a [1593, 1594, 96, 1595] = true := by decide +kernel
theorem mk_12_144 : mChk 12 144 0 2 1 mJxe99ae_doubleToLongBits_ccdee [1580, 1581, 97, 1582] = true := by decide +kernel
theorem mk_12_154 : mChk 12 154 0 2 2 mX12_numberOf [1590, 1591, 92, 1592] = true := by decide +kernel
theorem mk_12_162 : mChk 12 162 1 1 1 mX12_holders [1543, 1545, 46, 92, 1546] = true := by decide +kernel
theorem mk_12_166 : mChk 12 166 0 1 1 mX12_isSlot [1533, 1534, 92, 1535] = true := by decide +kernel
theorem mk_12_170 : mChk 12 170 1 1 0 mX12_free [1539, 1541, 45, 92, 1542] = true := by decide +kernel
theorem mk_12_174 : mChk 12 174 0 1 2 mX12_widens [1567, 1568, 92, 1569] = true := by decide +kernel
theorem mk_12_178 : mChk 12 178 1 1 3 mX12_bars [1563, 1565, 47, 92, 1566] = true := by decide +kernel
theorem mk_12_182 : mChk 12 182 1 1 1 mX12_refuses [1570, 1572, 48, 92, 1573] = true := by decide +kernel
theorem mk_12_185 : mChk 12 185 0 2 3 mX12_widened [1574, 1575, 92, 1576] = true := by decide +kernel
theorem mk_12_195 : mChk 12 195 1 1 4 mX12_comes [1612, 1614, 49, 92, 1615] = true := by decide +kernel
theorem mk_12_208 : mChk 12 208 1 1 0 mX12_sign [1643, 1645, 51, 92, 1646] = true := by decide +kernel
theorem mk_12_228 : mChk 12 228 1 1 0 mJ0_length_8abf5 [1671, 614, 615, 100, 616] = true := by decide +kernel
theorem mk_12_233 : mChk 12 233 1 1 1 mJ0_charAt_5068e [1672, 624, 625, 100, 626] = true := by decide +kernel
theorem mk_12_237 : mChk 12 237 0 3 1 mX12_wordOf [1655, 1656, 92, 1657] = true := by decide +kernel
theorem mk_12_241 : mChk 12 241 1 1 2 mX12_isWord [1667, 1669, 54, 92, 1670] = true := by decide +kernel
theorem mk_12_245 : mChk 12 245 1 1 1 mX12_is [1647, 1649, 52, 92, 1650] = true := by decide +kernel
theorem mk_12_248 : mChk 12 248 1 1 0 mX12_isDigit [1677, 1679, 56, 92, 1680] = true := by decide +kernel
theorem mk_12_252 : mChk 12 252 1 1 1 mX12_isKind [1651, 1653, 53, 92, 1654] = true := by decide +kernel
theorem mk_12_255 : mChk 12 255 1 1 1 mX12_isMany [1673, 1675, 55, 92, 1676] = true := by decide +kernel
theorem mk_12_258 : mChk 12 258 1 1 1 mX12_isDefault [1681, 1683, 57, 92, 1684] = true := by decide +kernel
theorem mk_12_261 : mChk 12 261 0 1 1 mX12_isVersion [1636, 1637, 92, 1638] = true := by decide +kernel
theorem mk_12_264 : mChk 12 264 1 1 1 mX12_isField [1639, 1641, 50, 92, 1642] = true := by decide +kernel
theorem mk_12_267 : mChk 12 267 1 1 2 mX12_noField [1693, 1695, 58, 92, 1696] = true := by decide +kernel
theorem mk_12_275 : mChk 12 275 1 0 1 mX12_says [1702, 1704, 59, 92, 1705] = true := by decide +kernel
theorem mk_12_279 : mChk 12 279 0 1 1 mJ9_abs_0f7a4 [1714, 1715, 94, 1716] = true := by decide +kernel
theorem mk_12_284 : mChk 12 284 1 0 1 mX12_says_ [1706, 1708, 60, 92, 1709] = true := by decide +kernel
theorem mk_12_287 : mChk 12 287 1 0 1 mX12_saysNumber [1710, 1712, 61, 92, 1713] = true := by decide +kernel
theorem mk_12_302 : mChk 12 302 0 1 1 mX12_width [1737, 1738, 92, 1739] = true := by decide +kernel
theorem mk_12_306 : mChk 12 306 0 1 2 mJ9_max_7cf53 [1753, 380, 94, 381] = true := by decide +kernel
theorem mk_12_320 : mChk 12 320 1 0 1 mX12_weighs [1749, 1751, 67, 92, 1752] = true := by decide +kernel
theorem mk_12_323 : mChk 12 323 1 0 2 mX12_puts [1740, 1742, 65, 92, 1743] = true := by decide +kernel
theorem mk_12_333 : mChk 12 333 1 1 3 mX12_fails [1729, 1731, 63, 92, 1732] = true := by decide +kernel
theorem mk_12_336 : mChk 12 336 1 1 1 mX12_reads [1733, 1735, 64, 92, 1736] = true := by decide +kernel
theorem mk_12_339 : mChk 12 339 1 0 1 mX12_putsNumbers [1745, 1747, 66, 92, 1748] = true := by decide +kernel
theorem mk_12_346 : mChk 12 346 1 1 1 mX12_packs [1725, 1727, 62, 92, 1728] = true := by decide +kernel
theorem mk_12_349 : mChk 12 349 1 1 4 mX12_stops [1754, 1756, 68, 92, 1757] = true := by decide +kernel
theorem mk_12_356 : mChk 12 356 0 1 4 mX12_digestOf [1758, 1759, 92, 1760] = true := by decide +kernel
theorem mk_12_372 : mChk 12 372 1 1 2 mX12_isLost [1769, 1771, 70, 92, 1772] = true := by decide +kernel
theorem mk_12_375 : mChk 12 375 1 1 1 mX12_isCut [1777, 1779, 72, 92, 1780] = true := by decide +kernel
theorem mk_12_378 : mChk 12 378 1 2 1 mX12_told [1789, 1791, 75, 92, 1792] = true := by decide +kernel
theorem mk_12_382 : mChk 12 382 0 1 2 mX12_isValue [1793, 1794, 92, 1795] = true := by decide +kernel
theorem mk_12_386 : mChk 12 386 1 1 4 mX12_isNoValue [1785, 1787, 74, 92, 1788] = true := by decide +kernel
theorem mk_12_390 : mChk 12 390 1 1 1 mX12_areNoBoxes [1781, 1783, 73, 92, 1784] = true := by decide +kernel
theorem mk_12_393 : mChk 12 393 1 1 2 mX12_areNoNumbers [1797, 1799, 76, 92, 1800] = true := by decide +kernel
theorem mk_12_396 : mChk 12 396 1 1 0 mX12_isNoBody [1773, 1775, 71, 92, 1776] = true := by decide +kernel
theorem mk_12_402 : mChk 12 402 0 1 1 mX12_isWhole [1817, 1818, 92, 1819] = true := by decide +kernel
theorem mk_12_405 : mChk 12 405 1 1 2 mX12_fieldFor [1809, 1811, 79, 92, 1812] = true := by decide +kernel
theorem mk_12_408 : mChk 12 408 1 1 3 mX12_fits [1813, 1815, 80, 92, 1816] = true := by decide +kernel
theorem mk_12_412 : mChk 12 412 1 1 2 mX12_takesField [1805, 1807, 78, 92, 1808] = true := by decide +kernel
theorem mk_12_415 : mChk 12 415 1 1 1 mX12_isNoFrame [1765, 1767, 69, 92, 1768] = true := by decide +kernel
theorem mk_12_418 : mChk 12 418 1 1 1 mX12_takes [1801, 1803, 77, 92, 1804] = true := by decide +kernel
theorem mk_12_421 : mChk 12 421 0 1 1 mJ6_bitCount_0f7a4 [1840, 1841, 110, 1842] = true := by decide +kernel
theorem mk_12_426 : mChk 12 426 1 1 1 mX12_isRow [1854, 1856, 81, 92, 1857] = true := by decide +kernel
theorem mk_12_433 : mChk 12 433 0 4 2 mX12_real_ [1881, 1882, 92, 1883] = true := by decide +kernel
theorem mk_12_437 : mChk 12 437 0 1 4 mX12_areAlike [1878, 1879, 92, 1880] = true := by decide +kernel
theorem mk_12_449 : mChk 12 449 1 2 1 mX12_digestOf_ [1895, 1897, 82, 92, 1898] = true := by decide +kernel
theorem mk_12_462 : mChk 12 462 1 1 0 mX12_unlike [1908, 1910, 83, 92, 1911] = true := by decide +kernel
def mlT_13 : List Ml := [(13, 47, 0, 1, 2, mJ2_coderFromArrayLen_85cad), (13, 54, 0, 3, 3, mJ7_copyOfRange_39247), (13, 106, 0, 0, 5, mJ1_inflate_0e8fd), (13, 335, 1, 1, 0, mJ0_coder_7d493), (13, 489, 2, 0, 2, mJ0_init_db425), (13, 492, 1, 1, 0, mJ0_isLatin1_aae02), (13, 495, 0, 1, 2, mJ1_charAt_3b067), (13, 498, 0, 1, 2, mJ2_charAt_3b067), (13, 549, 14, 1, 0, mJ4_length_8abf5), (13, 552, 12, 3, 0, mJ5_getValue_6d5f1), (13, 1047, 12, 1, 0, mJ5_isLatin1_aae02), (13, 1051, 0, 3, 3, mJ2_compress_39247), (13, 1059, 0, 1, 3, mJ3_checkIndex_8e157), (13, 1062, 0, 1, 4, mJ3_checkFromToIndex_8c36e), (13, 1065, 0, 1, 4, mJ3_checkFromIndexSize_8c36e)]
def mlI_13 : List (List Nat) := [[975, 976, 103, 977], [959, 960, 108, 961], [905, 841, 101, 842], [617, 618, 619, 100, 620], [941, 942, 100, 943], [627, 628, 629, 100, 630], [631, 632, 101, 633], [642, 643, 103, 644], [950, 952, 951, 953, 954, 957, 106, 955], [945, 946, 947, 948, 105, 949], [958, 829, 830, 831, 105, 832], [968, 969, 103, 970], [639, 640, 102, 641], [887, 888, 102, 889], [852, 853, 102, 854]]
theorem mk_13_47 : mChk 13 47 0 1 2 mJ2_coderFromArrayLen_85cad [975, 976, 103, 977] = true := by decide +kernel
theorem mk_13_54 : mChk 13 54 0 3 3 mJ7_copyOfRange_39247 [959, 960, 108, 961] = true := by decide +kernel
theorem mk_13_106 : mChk 13 106 0 0 5 mJ1_inflate_0e8fd [905, 841, 101, 842] = true := by decide +kernel
theorem mk_13_335 : mChk 13 335 1 1 0 mJ0_coder_7d493 [617, 618, 619, 100, 620] = true := by decide +kernel
theorem mk_13_489 : mChk 13 489 2 0 2 mJ0_init_db425 [941, 942, 100, 943] = true := by decide +kernel
theorem mk_13_492 : mChk 13 492 1 1 0 mJ0_isLatin1_aae02 [627, 628, 629, 100, 630] = true := by decide +kernel
theorem mk_13_495 : mChk 13 495 0 1 2 mJ1_charAt_3b067 [631, 632, 101, 633] = true := by decide +kernel
theorem mk_13_498 : mChk 13 498 0 1 2 mJ2_charAt_3b067 [642, 643, 103, 644] = true := by decide +kernel
theorem mk_13_549 : mChk 13 549 14 1 0 mJ4_length_8abf5 [950, 952, 951, 953, 954, 957, 106, 955] = true := by decide +kernel
theorem mk_13_552 : mChk 13 552 12 3 0 mJ5_getValue_6d5f1 [945, 946, 947, 948, 105, 949] = true := by decide +kernel
theorem mk_13_1047 : mChk 13 1047 12 1 0 mJ5_isLatin1_aae02 [958, 829, 830, 831, 105, 832] = true := by decide +kernel
theorem mk_13_1051 : mChk 13 1051 0 3 3 mJ2_compress_39247 [968, 969, 103, 970] = true := by decide +kernel
theorem mk_13_1059 : mChk 13 1059 0 1 3 mJ3_checkIndex_8e157 [639, 640, 102, 641] = true := by decide +kernel
theorem mk_13_1062 : mChk 13 1062 0 1 4 mJ3_checkFromToIndex_8c36e [887, 888, 102, 889] = true := by decide +kernel
theorem mk_13_1065 : mChk 13 1065 0 1 4 mJ3_checkFromIndexSize_8c36e [852, 853, 102, 854] = true := by decide +kernel
def mlT_14 : List Ml := [(14, 1, 2, 0, 1, mJ5_init_d00df), (14, 29, 13, 3, 1, mJ5_append_cf1ce), (14, 50, 13, 3, 1, mJ5_append_3fe6f), (14, 53, 13, 3, 1, mJ5_append_c97b9), (14, 137, 2, 0, 1, mJ0_init_81219), (14, 343, 13, 1, 0, mJ5_length_8abf5)]
def mlI_14 : List (List Nat) := [[765, 766, 105, 767], [871, 872, 1925, 789, 105, 873], [794, 795, 1921, 789, 105, 796], [911, 912, 1929, 789, 105, 913], [938, 939, 100, 940], [956, 951, 952, 789, 105, 957]]
theorem mk_14_1 : mChk 14 1 2 0 1 mJ5_init_d00df [765, 766, 105, 767] = true := by decide +kernel
theorem mk_14_29 : mChk 14 29 13 3 1 mJ5_append_cf1ce [871, 872, 1925, 789, 105, 873] = true := by decide +kernel
theorem mk_14_50 : mChk 14 50 13 3 1 mJ5_append_3fe6f [794, 795, 1921, 789, 105, 796] = true := by decide +kernel
theorem mk_14_53 : mChk 14 53 13 3 1 mJ5_append_c97b9 [911, 912, 1929, 789, 105, 913] = true := by decide +kernel
theorem mk_14_137 : mChk 14 137 2 0 1 mJ0_init_81219 [938, 939, 100, 940] = true := by decide +kernel
theorem mk_14_343 : mChk 14 343 13 1 0 mJ5_length_8abf5 [956, 951, 952, 789, 105, 957] = true := by decide +kernel
def mlT_15 : List Ml := [(15, 26, 0, 3, 1, mJ2_newBytesFor_77867), (15, 32, 1, 1, 0, mJ0_length_8abf5), (15, 40, 1, 1, 0, mJ0_coder_7d493), (15, 83, 12, 1, 0, mJ5_isLatin1_aae02), (15, 108, 0, 3, 2, mJ7_copyOf_9075b), (15, 114, 0, 1, 3, mJ8_newLength_cabcc), (15, 125, 0, 0, 5, mJ1_inflate_0e8fd), (15, 191, 0, 1, 1, mJ1_canEncode_fc78d), (15, 197, 0, 0, 3, mJ2_putCharSB_b72d1), (15, 226, 0, 1, 6, mJ2_putCharsAt_cd4e5), (15, 245, 0, 1, 1, mJ6_stringSize_0f7a4), (15, 248, 0, 1, 3, mJ6_getChars_ba4f3), (15, 251, 0, 1, 4, mJ2_getChars_46870), (15, 399, 1, 0, 3, mJ0_getBytes_840e7)]
def mlI_15 : List (List Nat) := [[770, 771, 103, 772], [890, 614, 615, 100, 616], [899, 618, 619, 100, 620], [828, 829, 830, 831, 105, 832], [814, 815, 108, 816], [805, 806, 107, 807], [840, 841, 101, 842], [833, 834, 101, 835], [858, 859, 103, 860], [878, 879, 103, 880], [914, 915, 110, 916], [917, 918, 110, 919], [924, 925, 103, 926], [900, 901, 902, 100, 903]]
theorem mk_15_26 : mChk 15 26 0 3 1 mJ2_newBytesFor_77867 [770, 771, 103, 772] = true := by decide +kernel
theorem mk_15_32 : mChk 15 32 1 1 0 mJ0_length_8abf5 [890, 614, 615, 100, 616] = true := by decide +kernel
theorem mk_15_40 : mChk 15 40 1 1 0 mJ0_coder_7d493 [899, 618, 619, 100, 620] = true := by decide +kernel
theorem mk_15_83 : mChk 15 83 12 1 0 mJ5_isLatin1_aae02 [828, 829, 830, 831, 105, 832] = true := by decide +kernel
theorem mk_15_108 : mChk 15 108 0 3 2 mJ7_copyOf_9075b [814, 815, 108, 816] = true := by decide +kernel
theorem mk_15_114 : mChk 15 114 0 1 3 mJ8_newLength_cabcc [805, 806, 107, 807] = true := by decide +kernel
theorem mk_15_125 : mChk 15 125 0 0 5 mJ1_inflate_0e8fd [840, 841, 101, 842] = true := by decide +kernel
theorem mk_15_191 : mChk 15 191 0 1 1 mJ1_canEncode_fc78d [833, 834, 101, 835] = true := by decide +kernel
theorem mk_15_197 : mChk 15 197 0 0 3 mJ2_putCharSB_b72d1 [858, 859, 103, 860] = true := by decide +kernel
theorem mk_15_226 : mChk 15 226 0 1 6 mJ2_putCharsAt_cd4e5 [878, 879, 103, 880] = true := by decide +kernel
theorem mk_15_245 : mChk 15 245 0 1 1 mJ6_stringSize_0f7a4 [914, 915, 110, 916] = true := by decide +kernel
theorem mk_15_248 : mChk 15 248 0 1 3 mJ6_getChars_ba4f3 [917, 918, 110, 919] = true := by decide +kernel
theorem mk_15_251 : mChk 15 251 0 1 4 mJ2_getChars_46870 [924, 925, 103, 926] = true := by decide +kernel
theorem mk_15_399 : mChk 15 399 1 0 3 mJ0_getBytes_840e7 [900, 901, 902, 100, 903] = true := by decide +kernel
def mlT_18 : List Ml := [(18, 9, 0, 0, 2, mJ0_checkIndex_df160), (18, 240, 0, 0, 5, mJ2_inflate_0e8fd)]
def mlI_18 : List (List Nat) := [[634, 635, 100, 636], [843, 844, 103, 845]]
theorem mk_18_9 : mChk 18 9 0 0 2 mJ0_checkIndex_df160 [634, 635, 100, 636] = true := by decide +kernel
theorem mk_18_240 : mChk 18 240 0 0 5 mJ2_inflate_0e8fd [843, 844, 103, 845] = true := by decide +kernel
def mlT_19 : List Ml := [(19, 11, 0, 1, 1, mJ2_newBytesLength_0f7a4), (19, 48, 0, 1, 1, mJ2_length_9d52b), (19, 67, 0, 0, 2, mJ2_checkIndex_2214a), (19, 71, 0, 1, 2, mJ2_getChar_3b067), (19, 96, 0, 0, 3, mJ2_checkBoundsBeginEnd_d044e), (19, 111, 0, 0, 3, mJ2_putChar_b72d1), (19, 123, 0, 1, 5, mJ2_compress_5af95), (19, 126, 0, 3, 3, mJ7_copyOfRange_39247), (19, 173, 0, 0, 3, mJ2_checkBoundsOffCount_d044e), (19, 241, 0, 0, 3, mJ0_checkBoundsBeginEnd_23922), (19, 393, 0, 1, 3, mJ2_getChars_ba4f3), (19, 414, 0, 0, 2, mJ0_checkIndex_df160), (19, 419, 0, 1, 3, mJ0_checkBoundsOffCount_cabcc)]
def mlI_19 : List (List Nat) := [[773, 774, 103, 775], [648, 649, 103, 650], [645, 646, 103, 647], [652, 653, 103, 654], [881, 882, 103, 883], [855, 856, 103, 857], [971, 972, 103, 973], [974, 960, 108, 961], [846, 847, 103, 848], [884, 885, 100, 886], [927, 928, 103, 929], [651, 635, 100, 636], [849, 850, 100, 851]]
theorem mk_19_11 : mChk 19 11 0 1 1 mJ2_newBytesLength_0f7a4 [773, 774, 103, 775] = true := by decide +kernel
theorem mk_19_48 : mChk 19 48 0 1 1 mJ2_length_9d52b [648, 649, 103, 650] = true := by decide +kernel
theorem mk_19_67 : mChk 19 67 0 0 2 mJ2_checkIndex_2214a [645, 646, 103, 647] = true := by decide +kernel
theorem mk_19_71 : mChk 19 71 0 1 2 mJ2_getChar_3b067 [652, 653, 103, 654] = true := by decide +kernel
theorem mk_19_96 : mChk 19 96 0 0 3 mJ2_checkBoundsBeginEnd_d044e [881, 882, 103, 883] = true := by decide +kernel
theorem mk_19_111 : mChk 19 111 0 0 3 mJ2_putChar_b72d1 [855, 856, 103, 857] = true := by decide +kernel
theorem mk_19_123 : mChk 19 123 0 1 5 mJ2_compress_5af95 [971, 972, 103, 973] = true := by decide +kernel
theorem mk_19_126 : mChk 19 126 0 3 3 mJ7_copyOfRange_39247 [974, 960, 108, 961] = true := by decide +kernel
theorem mk_19_173 : mChk 19 173 0 0 3 mJ2_checkBoundsOffCount_d044e [846, 847, 103, 848] = true := by decide +kernel
theorem mk_19_241 : mChk 19 241 0 0 3 mJ0_checkBoundsBeginEnd_23922 [884, 885, 100, 886] = true := by decide +kernel
theorem mk_19_393 : mChk 19 393 0 1 3 mJ2_getChars_ba4f3 [927, 928, 103, 929] = true := by decide +kernel
theorem mk_19_414 : mChk 19 414 0 0 2 mJ0_checkIndex_df160 [651, 635, 100, 636] = true := by decide +kernel
theorem mk_19_419 : mChk 19 419 0 1 3 mJ0_checkBoundsOffCount_cabcc [849, 850, 100, 851] = true := by decide +kernel
def mlT_21 : List Ml := [(21, 304, 0, 1, 2, mJ9_min_7cf53), (21, 339, 0, 3, 3, mJ7_copyOfRangeByte_39247), (21, 343, 0, 0, 2, mJ7_checkLength_df160)]
def mlI_21 : List (List Nat) := [[824, 377, 94, 378], [962, 963, 108, 964], [965, 966, 108, 967]]
theorem mk_21_304 : mChk 21 304 0 1 2 mJ9_min_7cf53 [824, 377, 94, 378] = true := by decide +kernel
theorem mk_21_339 : mChk 21 339 0 3 3 mJ7_copyOfRangeByte_39247 [962, 963, 108, 964] = true := by decide +kernel
theorem mk_21_343 : mChk 21 343 0 0 2 mJ7_checkLength_df160 [965, 966, 108, 967] = true := by decide +kernel
def mlT_22 : List Ml := [(22, 194, 0, 1, 2, mJ9_max_7cf53), (22, 201, 0, 1, 2, mJ8_hugeLength_7cf53)]
def mlI_22 : List (List Nat) := [[808, 380, 94, 381], [810, 811, 107, 812]]
theorem mk_22_194 : mChk 22 194 0 1 2 mJ9_max_7cf53 [808, 380, 94, 381] = true := by decide +kernel
theorem mk_22_201 : mChk 22 201 0 1 2 mJ8_hugeLength_7cf53 [810, 811, 107, 812] = true := by decide +kernel
def mlT_24 : List Ml := [(24, 9, 2, 0, 0, mX11_init), (24, 12, 2, 0, 0, mX12_init), (24, 13, 1, 1, 3, mX11_make), (24, 17, 1, 1, 3, mX12_make), (24, 18, 1, 1, 2, mX11_thing), (24, 22, 1, 1, 2, mX12_thing), (24, 23, 1, 1, 2, mX11_same), (24, 26, 1, 1, 2, mX12_same), (24, 27, 1, 1, 2, mX11_of), (24, 30, 1, 1, 2, mX12_of), (24, 31, 1, 1, 3, mX11_read), (24, 34, 1, 1, 3, mX12_read), (24, 35, 1, 2, 1, mX11_latch), (24, 39, 1, 2, 1, mX12_latch), (24, 42, 1, 1, 4, mX11_write), (24, 46, 1, 1, 4, mX12_write), (24, 47, 1, 1, 5, mX11_real), (24, 51, 1, 1, 5, mX12_real), (24, 52, 1, 1, 4, mX11_box), (24, 55, 1, 1, 4, mX12_box), (24, 56, 1, 1, 1, mX11_lax), (24, 60, 1, 1, 1, mX12_lax), (24, 61, 1, 1, 2, mX11_feed), (24, 64, 1, 1, 2, mX12_feed), (24, 65, 1, 1, 1, mX11_define), (24, 68, 1, 1, 1, mX12_define), (24, 69, 1, 1, 1, mX11_drop), (24, 72, 1, 1, 1, mX12_drop), (24, 73, 1, 1, 3, mX11_field), (24, 76, 1, 1, 3, mX12_field), (24, 77, 1, 1, 1, mX11_spell), (24, 80, 1, 1, 1, mX12_spell), (24, 81, 1, 1, 1, mX11_paper), (24, 84, 1, 1, 1, mX12_paper), (24, 85, 1, 1, 1, mX11_pack), (24, 88, 1, 1, 1, mX12_pack), (24, 89, 1, 1, 2, mX11_load), (24, 92, 1, 1, 2, mX12_load), (24, 93, 1, 1, 1, mX11_stop), (24, 96, 1, 1, 1, mX12_stop), (24, 97, 1, 1, 1, mX11_wire), (24, 100, 1, 1, 1, mX12_wire), (24, 101, 1, 1, 2, mX11_poke), (24, 104, 1, 1, 2, mX12_poke), (24, 105, 1, 1, 1, mX11_cut), (24, 108, 1, 1, 1, mX12_cut), (24, 109, 1, 1, 2, mX11_frame), (24, 112, 1, 1, 2, mX12_frame), (24, 113, 1, 1, 1, mX11_bytes), (24, 116, 1, 1, 1, mX12_bytes), (24, 117, 1, 1, 3, mX11_mode), (24, 120, 1, 1, 3, mX12_mode), (24, 121, 1, 1, 0, mX11_smallest), (24, 125, 1, 1, 0, mX12_smallest), (24, 126, 1, 1, 1, mX11_scan), (24, 129, 1, 1, 1, mX12_scan), (24, 130, 1, 1, 1, mX11_found), (24, 133, 1, 1, 1, mX12_found), (24, 134, 1, 1, 3, mX11_fit), (24, 137, 1, 1, 3, mX12_fit), (24, 138, 1, 1, 2, mX11_trip), (24, 141, 1, 1, 2, mX12_trip), (24, 142, 1, 1, 2, mX11_alike), (24, 145, 1, 1, 2, mX12_alike), (24, 146, 1, 2, 1, mX11_digest), (24, 149, 1, 2, 1, mX12_digest), (24, 150, 1, 1, 0, mX11_image), (24, 153, 1, 1, 0, mX12_image), (24, 154, 1, 1, 0, mX11_back), (24, 157, 1, 1, 0, mX12_back), (24, 158, 1, 1, 1, mX11_count), (24, 161, 1, 1, 1, mX12_count)]
def mlI_24 : List (List Nat) := [[113, 114, 85, 115], [1329, 1330, 92, 1331], [364, 365, 366, 85, 367], [1529, 1530, 1531, 92, 1532], [400, 401, 402, 85, 403], [1547, 1548, 1549, 92, 1550], [404, 405, 406, 85, 407], [1551, 1552, 1553, 92, 1554], [408, 409, 410, 85, 411], [1555, 1556, 1557, 92, 1558], [420, 421, 422, 85, 423], [1559, 1560, 1561, 92, 1562], [473, 474, 475, 85, 476], [1603, 1604, 1605, 92, 1606], [478, 479, 480, 85, 481], [1608, 1609, 1610, 92, 1611], [502, 503, 504, 85, 505], [1616, 1617, 1618, 92, 1619], [518, 519, 520, 85, 521], [1620, 1621, 1622, 92, 1623], [523, 524, 525, 85, 526], [1624, 1625, 1626, 92, 1627], [527, 528, 529, 85, 530], [1628, 1629, 1630, 92, 1631], [534, 535, 536, 85, 537], [1632, 1633, 1634, 92, 1635], [735, 736, 737, 85, 738], [1685, 1686, 1687, 92, 1688], [743, 744, 745, 85, 746], [1689, 1690, 1691, 92, 1692], [752, 753, 754, 85, 755], [1698, 1699, 1700, 92, 1701], [990, 991, 992, 85, 993], [1717, 1718, 1719, 92, 1720], [995, 996, 997, 85, 998], [1721, 1722, 1723, 92, 1724], [1073, 1074, 1075, 85, 1076], [1761, 1762, 1763, 92, 1764], [1167, 1168, 1169, 85, 1170], [1820, 1821, 1822, 92, 1823], [1171, 1172, 1173, 85, 1174], [1824, 1825, 1826, 92, 1827], [1175, 1176, 1177, 85, 1178], [1828, 1829, 1830, 92, 1831], [1179, 1180, 1181, 85, 1182], [1832, 1833, 1834, 92, 1835], [1183, 1184, 1185, 85, 1186], [1836, 1837, 1838, 92, 1839], [1199, 1200, 1201, 85, 1202], [1846, 1847, 1848, 92, 1849], [1207, 1208, 1209, 85, 1210], [1850, 1851, 1852, 92, 1853], [1217, 1218, 1219, 85, 1220], [1858, 1859, 1860, 92, 1861], [1221, 1222, 1223, 85, 1224], [1862, 1863, 1864, 92, 1865], [1225, 1226, 1227, 85, 1228], [1866, 1867, 1868, 92, 1869], [1229, 1230, 1231, 85, 1232], [1870, 1871, 1872, 92, 1873], [1244, 1245, 1246, 85, 1247], [1874, 1875, 1876, 92, 1877], [1262, 1263, 1264, 85, 1265], [1887, 1888, 1889, 92, 1890], [1268, 1269, 1270, 85, 1271], [1891, 1892, 1893, 92, 1894], [1279, 1280, 1281, 85, 1282], [1904, 1905, 1906, 92, 1907], [1307, 1308, 1309, 85, 1310], [1912, 1913, 1914, 92, 1915], [1311, 1312, 1313, 85, 1314], [1916, 1917, 1918, 92, 1919]]
theorem mk_24_9 : mChk 24 9 2 0 0 mX11_init [113, 114, 85, 115] = true := by decide +kernel
theorem mk_24_12 : mChk 24 12 2 0 0 mX12_init [1329, 1330, 92, 1331] = true := by decide +kernel
theorem mk_24_13 : mChk 24 13 1 1 3 mX11_make [364, 365, 366, 85, 367] = true := by decide +kernel
theorem mk_24_17 : mChk 24 17 1 1 3 mX12_make [1529, 1530, 1531, 92, 1532] = true := by decide +kernel
theorem mk_24_18 : mChk 24 18 1 1 2 mX11_thing [400, 401, 402, 85, 403] = true := by decide +kernel
theorem mk_24_22 : mChk 24 22 1 1 2 mX12_thing [1547, 1548, 1549, 92, 1550] = true := by decide +kernel
theorem mk_24_23 : mChk 24 23 1 1 2 mX11_same [404, 405, 406, 85, 407] = true := by decide +kernel
theorem mk_24_26 : mChk 24 26 1 1 2 mX12_same [1551, 1552, 1553, 92, 1554] = true := by decide +kernel
theorem mk_24_27 : mChk 24 27 1 1 2 mX11_of [408, 409, 410, 85, 411] = true := by decide +kernel
theorem mk_24_30 : mChk 24 30 1 1 2 mX12_of [1555, 1556, 1557, 92, 1558] = true := by decide +kernel
theorem mk_24_31 : mChk 24 31 1 1 3 mX11_read [420, 421, 422, 85, 423] = true := by decide +kernel
theorem mk_24_34 : mChk 24 34 1 1 3 mX12_read [1559, 1560, 1561, 92, 1562] = true := by decide +kernel
theorem mk_24_35 : mChk 24 35 1 2 1 mX11_latch [473, 474, 475, 85, 476] = true := by decide +kernel
theorem mk_24_39 : mChk 24 39 1 2 1 mX12_latch [1603, 1604, 1605, 92, 1606] = true := by decide +kernel
theorem mk_24_42 : mChk 24 42 1 1 4 mX11_write [478, 479, 480, 85, 481] = true := by decide +kernel
theorem mk_24_46 : mChk 24 46 1 1 4 mX12_write [1608, 1609, 1610, 92, 1611] = true := by decide +kernel
theorem mk_24_47 : mChk 24 47 1 1 5 mX11_real [502, 503, 504, 85, 505] = true := by decide +kernel
theorem mk_24_51 : mChk 24 51 1 1 5 mX12_real [1616, 1617, 1618, 92, 1619] = true := by decide +kernel
theorem mk_24_52 : mChk 24 52 1 1 4 mX11_box [518, 519, 520, 85, 521] = true := by decide +kernel
theorem mk_24_55 : mChk 24 55 1 1 4 mX12_box [1620, 1621, 1622, 92, 1623] = true := by decide +kernel
theorem mk_24_56 : mChk 24 56 1 1 1 mX11_lax [523, 524, 525, 85, 526] = true := by decide +kernel
theorem mk_24_60 : mChk 24 60 1 1 1 mX12_lax [1624, 1625, 1626, 92, 1627] = true := by decide +kernel
theorem mk_24_61 : mChk 24 61 1 1 2 mX11_feed [527, 528, 529, 85, 530] = true := by decide +kernel
theorem mk_24_64 : mChk 24 64 1 1 2 mX12_feed [1628, 1629, 1630, 92, 1631] = true := by decide +kernel
theorem mk_24_65 : mChk 24 65 1 1 1 mX11_define [534, 535, 536, 85, 537] = true := by decide +kernel
theorem mk_24_68 : mChk 24 68 1 1 1 mX12_define [1632, 1633, 1634, 92, 1635] = true := by decide +kernel
theorem mk_24_69 : mChk 24 69 1 1 1 mX11_drop [735, 736, 737, 85, 738] = true := by decide +kernel
theorem mk_24_72 : mChk 24 72 1 1 1 mX12_drop [1685, 1686, 1687, 92, 1688] = true := by decide +kernel
theorem mk_24_73 : mChk 24 73 1 1 3 mX11_field [743, 744, 745, 85, 746] = true := by decide +kernel
theorem mk_24_76 : mChk 24 76 1 1 3 mX12_field [1689, 1690, 1691, 92, 1692] = true := by decide +kernel
theorem mk_24_77 : mChk 24 77 1 1 1 mX11_spell [752, 753, 754, 85, 755] = true := by decide +kernel
theorem mk_24_80 : mChk 24 80 1 1 1 mX12_spell [1698, 1699, 1700, 92, 1701] = true := by decide +kernel
theorem mk_24_81 : mChk 24 81 1 1 1 mX11_paper [990, 991, 992, 85, 993] = true := by decide +kernel
theorem mk_24_84 : mChk 24 84 1 1 1 mX12_paper [1717, 1718, 1719, 92, 1720] = true := by decide +kernel
theorem mk_24_85 : mChk 24 85 1 1 1 mX11_pack [995, 996, 997, 85, 998] = true := by decide +kernel
theorem mk_24_88 : mChk 24 88 1 1 1 mX12_pack [1721, 1722, 1723, 92, 1724] = true := by decide +kernel
theorem mk_24_89 : mChk 24 89 1 1 2 mX11_load [1073, 1074, 1075, 85, 1076] = true := by decide +kernel
theorem mk_24_92 : mChk 24 92 1 1 2 mX12_load [1761, 1762, 1763, 92, 1764] = true := by decide +kernel
theorem mk_24_93 : mChk 24 93 1 1 1 mX11_stop [1167, 1168, 1169, 85, 1170] = true := by decide +kernel
theorem mk_24_96 : mChk 24 96 1 1 1 mX12_stop [1820, 1821, 1822, 92, 1823] = true := by decide +kernel
theorem mk_24_97 : mChk 24 97 1 1 1 mX11_wire [1171, 1172, 1173, 85, 1174] = true := by decide +kernel
theorem mk_24_100 : mChk 24 100 1 1 1 mX12_wire [1824, 1825, 1826, 92, 1827] = true := by decide +kernel
theorem mk_24_101 : mChk 24 101 1 1 2 mX11_poke [1175, 1176, 1177, 85, 1178] = true := by decide +kernel
theorem mk_24_104 : mChk 24 104 1 1 2 mX12_poke [1828, 1829, 1830, 92, 1831] = true := by decide +kernel
theorem mk_24_105 : mChk 24 105 1 1 1 mX11_cut [1179, 1180, 1181, 85, 1182] = true := by decide +kernel
theorem mk_24_108 : mChk 24 108 1 1 1 mX12_cut [1832, 1833, 1834, 92, 1835] = true := by decide +kernel
theorem mk_24_109 : mChk 24 109 1 1 2 mX11_frame [1183, 1184, 1185, 85, 1186] = true := by decide +kernel
theorem mk_24_112 : mChk 24 112 1 1 2 mX12_frame [1836, 1837, 1838, 92, 1839] = true := by decide +kernel
theorem mk_24_113 : mChk 24 113 1 1 1 mX11_bytes [1199, 1200, 1201, 85, 1202] = true := by decide +kernel
theorem mk_24_116 : mChk 24 116 1 1 1 mX12_bytes [1846, 1847, 1848, 92, 1849] = true := by decide +kernel
theorem mk_24_117 : mChk 24 117 1 1 3 mX11_mode [1207, 1208, 1209, 85, 1210] = true := by decide +kernel
theorem mk_24_120 : mChk 24 120 1 1 3 mX12_mode [1850, 1851, 1852, 92, 1853] = true := by decide +kernel
theorem mk_24_121 : mChk 24 121 1 1 0 mX11_smallest [1217, 1218, 1219, 85, 1220] = true := by decide +kernel
theorem mk_24_125 : mChk 24 125 1 1 0 mX12_smallest [1858, 1859, 1860, 92, 1861] = true := by decide +kernel
theorem mk_24_126 : mChk 24 126 1 1 1 mX11_scan [1221, 1222, 1223, 85, 1224] = true := by decide +kernel
theorem mk_24_129 : mChk 24 129 1 1 1 mX12_scan [1862, 1863, 1864, 92, 1865] = true := by decide +kernel
theorem mk_24_130 : mChk 24 130 1 1 1 mX11_found [1225, 1226, 1227, 85, 1228] = true := by decide +kernel
theorem mk_24_133 : mChk 24 133 1 1 1 mX12_found [1866, 1867, 1868, 92, 1869] = true := by decide +kernel
theorem mk_24_134 : mChk 24 134 1 1 3 mX11_fit [1229, 1230, 1231, 85, 1232] = true := by decide +kernel
theorem mk_24_137 : mChk 24 137 1 1 3 mX12_fit [1870, 1871, 1872, 92, 1873] = true := by decide +kernel
theorem mk_24_138 : mChk 24 138 1 1 2 mX11_trip [1244, 1245, 1246, 85, 1247] = true := by decide +kernel
theorem mk_24_141 : mChk 24 141 1 1 2 mX12_trip [1874, 1875, 1876, 92, 1877] = true := by decide +kernel
theorem mk_24_142 : mChk 24 142 1 1 2 mX11_alike [1262, 1263, 1264, 85, 1265] = true := by decide +kernel
theorem mk_24_145 : mChk 24 145 1 1 2 mX12_alike [1887, 1888, 1889, 92, 1890] = true := by decide +kernel
theorem mk_24_146 : mChk 24 146 1 2 1 mX11_digest [1268, 1269, 1270, 85, 1271] = true := by decide +kernel
theorem mk_24_149 : mChk 24 149 1 2 1 mX12_digest [1891, 1892, 1893, 92, 1894] = true := by decide +kernel
theorem mk_24_150 : mChk 24 150 1 1 0 mX11_image [1279, 1280, 1281, 85, 1282] = true := by decide +kernel
theorem mk_24_153 : mChk 24 153 1 1 0 mX12_image [1904, 1905, 1906, 92, 1907] = true := by decide +kernel
theorem mk_24_154 : mChk 24 154 1 1 0 mX11_back [1307, 1308, 1309, 85, 1310] = true := by decide +kernel
theorem mk_24_157 : mChk 24 157 1 1 0 mX12_back [1912, 1913, 1914, 92, 1915] = true := by decide +kernel
theorem mk_24_158 : mChk 24 158 1 1 1 mX11_count [1311, 1312, 1313, 85, 1314] = true := by decide +kernel
theorem mk_24_161 : mChk 24 161 1 1 1 mX12_count [1916, 1917, 1918, 92, 1919] = true := by decide +kernel
def mlT_25 : List Ml := [(25, 122, 0, 1, 1, mJxe99ae_isNaN_b9ae7)]
def mlI_25 : List (List Nat) := [[1583, 1584, 97, 1585]]
theorem mk_25_122 : mChk 25 122 0 1 1 mJxe99ae_isNaN_b9ae7 [1583, 1584, 97, 1585] = true := by decide +kernel
def mlT_26 : List Ml := [(26, 59, 0, 1, 1, mJxf58ca_isNaN_12338)]
def mlI_26 : List (List Nat) := [[1596, 1597, 96, 1598]]
theorem mk_26_59 : mChk 26 59 0 1 1 mJxf58ca_isNaN_12338 [1596, 1597, 96, 1598] = true := by decide +kernel
def mlT : List Ml := mlT_0 ++ mlT_1 ++ mlT_2 ++ mlT_4 ++ mlT_5 ++ mlT_6 ++ mlT_7 ++ mlT_8 ++ mlT_9 ++ mlT_10 ++ mlT_11 ++ mlT_12 ++ mlT_13 ++ mlT_14 ++ mlT_15 ++ mlT_18 ++ mlT_19 ++ mlT_21 ++ mlT_22 ++ mlT_24 ++ mlT_25 ++ mlT_26
def mOk (q : Ml) : Prop := ∃ is, mChk q.1 q.2.1 q.2.2.1 q.2.2.2.1 q.2.2.2.2.1 q.2.2.2.2.2 is = true
theorem mlT_0_ok : ∀ q ∈ mlT_0, mOk q := List.forall_mem_cons.mpr ⟨⟨_, mk_0_19⟩, fun _ h => absurd h List.not_mem_nil⟩
theorem mlT_1_ok : ∀ q ∈ mlT_1, mOk q := List.forall_mem_cons.mpr ⟨⟨_, mk_1_32⟩, List.forall_mem_cons.mpr ⟨⟨_, mk_1_38⟩, List.forall_mem_cons.mpr ⟨⟨_, mk_1_42⟩, List.forall_mem_cons.mpr ⟨⟨_, mk_1_48⟩, List.forall_mem_cons.mpr ⟨⟨_, mk_1_54⟩, List.forall_mem_cons.mpr ⟨⟨_, mk_1_59⟩, fun _ h => absurd h List.not_mem_nil⟩⟩⟩⟩⟩⟩
theorem mlT_2_ok : ∀ q ∈ mlT_2, mOk q := List.forall_mem_cons.mpr ⟨⟨_, mk_2_59⟩, List.forall_mem_cons.mpr ⟨⟨_, mk_2_63⟩, List.forall_mem_cons.mpr ⟨⟨_, mk_2_67⟩, List.forall_mem_cons.mpr ⟨⟨_, mk_2_71⟩, List.forall_mem_cons.mpr ⟨⟨_, mk_2_75⟩, List.forall_mem_cons.mpr ⟨⟨_, mk_2_86⟩, List.forall_mem_cons.mpr ⟨⟨_, mk_2_90⟩, List.forall_mem_cons.mpr ⟨⟨_, mk_2_93⟩, List.forall_mem_cons.mpr ⟨⟨_, mk_2_97⟩, List.forall_mem_cons.mpr ⟨⟨_, mk_2_100⟩, List.forall_mem_cons.mpr ⟨⟨_, mk_2_112⟩, List.forall_mem_cons.mpr ⟨⟨_, mk_2_121⟩, List.forall_mem_cons.mpr ⟨⟨_, mk_2_124⟩, List.forall_mem_cons.mpr ⟨⟨_, mk_2_128⟩, List.forall_mem_cons.mpr ⟨⟨_, mk_2_131⟩, List.forall_mem_cons.mpr ⟨⟨_, mk_2_134⟩, List.forall_mem_cons.mpr ⟨⟨_, mk_2_139⟩, List.forall_mem_cons.mpr ⟨⟨_, mk_2_143⟩, List.forall_mem_cons.mpr ⟨⟨_, mk_2_147⟩, fun _ h => absurd h List.not_mem_nil⟩⟩⟩⟩⟩⟩⟩⟩⟩⟩⟩⟩⟩⟩⟩⟩⟩⟩⟩
theorem mlT_4_ok : ∀ q ∈ mlT_4, mOk q := List.forall_mem_cons.mpr ⟨⟨_, mk_4_9⟩, List.forall_mem_cons.mpr ⟨⟨_, mk_4_21⟩, List.forall_mem_cons.mpr ⟨⟨_, mk_4_25⟩, List.forall_mem_cons.mpr ⟨⟨_, mk_4_28⟩, List.forall_mem_cons.mpr ⟨⟨_, mk_4_36⟩, List.forall_mem_cons.mpr ⟨⟨_, mk_4_41⟩, List.forall_mem_cons.mpr ⟨⟨_, mk_4_44⟩, List.forall_mem_cons.mpr ⟨⟨_, mk_4_48⟩, List.forall_mem_cons.mpr ⟨⟨_, mk_4_52⟩, List.forall_mem_cons.mpr ⟨⟨_, mk_4_56⟩, List.forall_mem_cons.mpr ⟨⟨_, mk_4_60⟩, List.forall_mem_cons.mpr ⟨⟨_, mk_4_64⟩, fun _ h => absurd h List.not_mem_nil⟩⟩⟩⟩⟩⟩⟩⟩⟩⟩⟩⟩
theorem mlT_5_ok : ∀ q ∈ mlT_5, mOk q := List.forall_mem_cons.mpr ⟨⟨_, mk_5_11⟩, List.forall_mem_cons.mpr ⟨⟨_, mk_5_20⟩, List.forall_mem_cons.mpr ⟨⟨_, mk_5_46⟩, List.forall_mem_cons.mpr ⟨⟨_, mk_5_50⟩, List.forall_mem_cons.mpr ⟨⟨_, mk_5_66⟩, List.forall_mem_cons.mpr ⟨⟨_, mk_5_70⟩, List.forall_mem_cons.mpr ⟨⟨_, mk_5_76⟩, List.forall_mem_cons.mpr ⟨⟨_, mk_5_84⟩, List.forall_mem_cons.mpr ⟨⟨_, mk_5_94⟩, List.forall_mem_cons.mpr ⟨⟨_, mk_5_102⟩, List.forall_mem_cons.mpr ⟨⟨_, mk_5_108⟩, List.forall_mem_cons.mpr ⟨⟨_, mk_5_111⟩, List.forall_mem_cons.mpr ⟨⟨_, mk_5_114⟩, List.forall_mem_cons.mpr ⟨⟨_, mk_5_118⟩, List.forall_mem_cons.mpr ⟨⟨_, mk_5_122⟩, List.forall_mem_cons.mpr ⟨⟨_, mk_5_135⟩, List.forall_mem_cons.mpr ⟨⟨_, mk_5_138⟩, fun _ h => absurd h List.not_mem_nil⟩⟩⟩⟩⟩⟩⟩⟩⟩⟩⟩⟩⟩⟩⟩⟩⟩
theorem mlT_6_ok : ∀ q ∈ mlT_6, mOk q := List.forall_mem_cons.mpr ⟨⟨_, mk_6_24⟩, List.forall_mem_cons.mpr ⟨⟨_, mk_6_30⟩, List.forall_mem_cons.mpr ⟨⟨_, mk_6_39⟩, fun _ h => absurd h List.not_mem_nil⟩⟩⟩
theorem mlT_7_ok : ∀ q ∈ mlT_7, mOk q := List.forall_mem_cons.mpr ⟨⟨_, mk_7_9⟩, List.forall_mem_cons.mpr ⟨⟨_, mk_7_15⟩, List.forall_mem_cons.mpr ⟨⟨_, mk_7_32⟩, List.forall_mem_cons.mpr ⟨⟨_, mk_7_36⟩, List.forall_mem_cons.mpr ⟨⟨_, mk_7_45⟩, List.forall_mem_cons.mpr ⟨⟨_, mk_7_51⟩, List.forall_mem_cons.mpr ⟨⟨_, mk_7_55⟩, List.forall_mem_cons.mpr ⟨⟨_, mk_7_59⟩, List.forall_mem_cons.mpr ⟨⟨_, mk_7_63⟩, fun _ h => absurd h List.not_mem_nil⟩⟩⟩⟩⟩⟩⟩⟩⟩
theorem mlT_8_ok : ∀ q ∈ mlT_8, mOk q := List.forall_mem_cons.mpr ⟨⟨_, mk_8_37⟩, List.forall_mem_cons.mpr ⟨⟨_, mk_8_43⟩, List.forall_mem_cons.mpr ⟨⟨_, mk_8_46⟩, List.forall_mem_cons.mpr ⟨⟨_, mk_8_50⟩, List.forall_mem_cons.mpr ⟨⟨_, mk_8_54⟩, List.forall_mem_cons.mpr ⟨⟨_, mk_8_57⟩, List.forall_mem_cons.mpr ⟨⟨_, mk_8_61⟩, List.forall_mem_cons.mpr ⟨⟨_, mk_8_64⟩, List.forall_mem_cons.mpr ⟨⟨_, mk_8_67⟩, List.forall_mem_cons.mpr ⟨⟨_, mk_8_70⟩, List.forall_mem_cons.mpr ⟨⟨_, mk_8_73⟩, List.forall_mem_cons.mpr ⟨⟨_, mk_8_77⟩, List.forall_mem_cons.mpr ⟨⟨_, mk_8_81⟩, List.forall_mem_cons.mpr ⟨⟨_, mk_8_86⟩, List.forall_mem_cons.mpr ⟨⟨_, mk_8_90⟩, List.forall_mem_cons.mpr ⟨⟨_, mk_8_94⟩, fun _ h => absurd h List.not_mem_nil⟩⟩⟩⟩⟩⟩⟩⟩⟩⟩⟩⟩⟩⟩⟩⟩
theorem mlT_9_ok : ∀ q ∈ mlT_9, mOk q := List.forall_mem_cons.mpr ⟨⟨_, mk_9_41⟩, List.forall_mem_cons.mpr ⟨⟨_, mk_9_51⟩, List.forall_mem_cons.mpr ⟨⟨_, mk_9_55⟩, List.forall_mem_cons.mpr ⟨⟨_, mk_9_69⟩, List.forall_mem_cons.mpr ⟨⟨_, mk_9_80⟩, List.forall_mem_cons.mpr ⟨⟨_, mk_9_85⟩, List.forall_mem_cons.mpr ⟨⟨_, mk_9_89⟩, List.forall_mem_cons.mpr ⟨⟨_, mk_9_93⟩, List.forall_mem_cons.mpr ⟨⟨_, mk_9_99⟩, List.forall_mem_cons.mpr ⟨⟨_, mk_9_113⟩, List.forall_mem_cons.mpr ⟨⟨_, mk_9_117⟩, fun _ h => absurd h List.not_mem_nil⟩⟩⟩⟩⟩⟩⟩⟩⟩⟩⟩
theorem mlT_10_ok : ∀ q ∈ mlT_10, mOk q := List.forall_mem_cons.mpr ⟨⟨_, mk_10_44⟩, List.forall_mem_cons.mpr ⟨⟨_, mk_10_45⟩, List.forall_mem_cons.mpr ⟨⟨_, mk_10_49⟩, List.forall_mem_cons.mpr ⟨⟨_, mk_10_53⟩, fun _ h => absurd h List.not_mem_nil⟩⟩⟩⟩
theorem mlT_11_ok : ∀ q ∈ mlT_11, mOk q := List.forall_mem_cons.mpr ⟨⟨_, mk_11_35⟩, List.forall_mem_cons.mpr ⟨⟨_, mk_11_42⟩, List.forall_mem_cons.mpr ⟨⟨_, mk_11_49⟩, List.forall_mem_cons.mpr ⟨⟨_, mk_11_59⟩, List.forall_mem_cons.mpr ⟨⟨_, mk_11_87⟩, List.forall_mem_cons.mpr ⟨⟨_, mk_11_91⟩, List.forall_mem_cons.mpr ⟨⟨_, mk_11_97⟩, List.forall_mem_cons.mpr ⟨⟨_, mk_11_101⟩, List.forall_mem_cons.mpr ⟨⟨_, mk_11_105⟩, List.forall_mem_cons.mpr ⟨⟨_, mk_11_109⟩, List.forall_mem_cons.mpr ⟨⟨_, mk_11_120⟩, List.forall_mem_cons.mpr ⟨⟨_, mk_11_128⟩, List.forall_mem_cons.mpr ⟨⟨_, mk_11_131⟩, List.forall_mem_cons.mpr ⟨⟨_, mk_11_135⟩, List.forall_mem_cons.mpr ⟨⟨_, mk_11_139⟩, List.forall_mem_cons.mpr ⟨⟨_, mk_11_143⟩, List.forall_mem_cons.mpr ⟨⟨_, mk_11_146⟩, List.forall_mem_cons.mpr ⟨⟨_, mk_11_150⟩, List.forall_mem_cons.mpr ⟨⟨_, mk_11_154⟩, List.forall_mem_cons.mpr ⟨⟨_, mk_11_159⟩, List.forall_mem_cons.mpr ⟨⟨_, mk_11_162⟩, List.forall_mem_cons.mpr ⟨⟨_, mk_11_172⟩, List.forall_mem_cons.mpr ⟨⟨_, mk_11_179⟩, List.forall_mem_cons.mpr ⟨⟨_, mk_11_184⟩, List.forall_mem_cons.mpr ⟨⟨_, mk_11_188⟩, List.forall_mem_cons.mpr ⟨⟨_, mk_11_192⟩, List.forall_mem_cons.mpr ⟨⟨_, mk_11_196⟩, List.forall_mem_cons.mpr ⟨⟨_, mk_11_209⟩, List.forall_mem_cons.mpr ⟨⟨_, mk_11_220⟩, List.forall_mem_cons.mpr ⟨⟨_, mk_11_224⟩, List.forall_mem_cons.mpr ⟨⟨_, mk_11_227⟩, List.forall_mem_cons.mpr ⟨⟨_, mk_11_238⟩, List.forall_mem_cons.mpr ⟨⟨_, mk_11_254⟩, List.forall_mem_cons.mpr ⟨⟨_, mk_11_255⟩, List.forall_mem_cons.mpr ⟨⟨_, mk_11_260⟩, List.forall_mem_cons.mpr ⟨⟨_, mk_11_271⟩, List.forall_mem_cons.mpr ⟨⟨_, mk_11_277⟩, List.forall_mem_cons.mpr ⟨⟨_, mk_11_278⟩, List.forall_mem_cons.mpr ⟨⟨_, mk_11_281⟩, List.forall_mem_cons.mpr ⟨⟨_, mk_11_284⟩, List.forall_mem_cons.mpr ⟨⟨_, mk_11_291⟩, List.forall_mem_cons.mpr ⟨⟨_, mk_11_295⟩, List.forall_mem_cons.mpr ⟨⟨_, mk_11_298⟩, List.forall_mem_cons.mpr ⟨⟨_, mk_11_303⟩, List.forall_mem_cons.mpr ⟨⟨_, mk_11_307⟩, List.forall_mem_cons.mpr ⟨⟨_, mk_11_316⟩, List.forall_mem_cons.mpr ⟨⟨_, mk_11_321⟩, List.forall_mem_cons.mpr ⟨⟨_, mk_11_338⟩, List.forall_mem_cons.mpr ⟨⟨_, mk_11_341⟩, List.forall_mem_cons.mpr ⟨⟨_, mk_11_345⟩, List.forall_mem_cons.mpr ⟨⟨_, mk_11_348⟩, List.forall_mem_cons.mpr ⟨⟨_, mk_11_351⟩, List.forall_mem_cons.mpr ⟨⟨_, mk_11_354⟩, List.forall_mem_cons.mpr ⟨⟨_, mk_11_358⟩, List.forall_mem_cons.mpr ⟨⟨_, mk_11_365⟩, List.forall_mem_cons.mpr ⟨⟨_, mk_11_369⟩, List.forall_mem_cons.mpr ⟨⟨_, mk_11_373⟩, fun _ h => absurd h List.not_mem_nil⟩⟩⟩⟩⟩⟩⟩⟩⟩⟩⟩⟩⟩⟩⟩⟩⟩⟩⟩⟩⟩⟩⟩⟩⟩⟩⟩⟩⟩⟩⟩⟩⟩⟩⟩⟩⟩⟩⟩⟩⟩⟩⟩⟩⟩⟩⟩⟩⟩⟩⟩⟩⟩⟩⟩⟩⟩
theorem mlT_12_ok : ∀ q ∈ mlT_12, mOk q := List.forall_mem_cons.mpr ⟨⟨_, mk_12_134⟩, List.forall_mem_cons.mpr ⟨⟨_, mk_12_138⟩, List.forall_mem_cons.mpr ⟨⟨_, mk_12_144⟩, List.forall_mem_cons.mpr ⟨⟨_, mk_12_154⟩, List.forall_mem_cons.mpr ⟨⟨_, mk_12_162⟩, List.forall_mem_cons.mpr ⟨⟨_, mk_12_166⟩, List.forall_mem_cons.mpr ⟨⟨_, mk_12_170⟩, List.forall_mem_cons.mpr ⟨⟨_, mk_12_174⟩, List.forall_mem_cons.mpr ⟨⟨_, mk_12_178⟩, List.forall_mem_cons.mpr ⟨⟨_, mk_12_182⟩, List.forall_mem_cons.mpr ⟨⟨_, mk_12_185⟩, List.forall_mem_cons.mpr ⟨⟨_, mk_12_195⟩, List.forall_mem_cons.mpr ⟨⟨_, mk_12_208⟩, List.forall_mem_cons.mpr ⟨⟨_, mk_12_228⟩, List.forall_mem_cons.mpr ⟨⟨_, mk_12_233⟩, List.forall_mem_cons.mpr ⟨⟨_, mk_12_237⟩, List.forall_mem_cons.mpr ⟨⟨_, mk_12_241⟩, List.forall_mem_cons.mpr ⟨⟨_, mk_12_245⟩, List.forall_mem_cons.mpr ⟨⟨_, mk_12_248⟩, List.forall_mem_cons.mpr ⟨⟨_, mk_12_252⟩, List.forall_mem_cons.mpr ⟨⟨_, mk_12_255⟩, List.forall_mem_cons.mpr ⟨⟨_, mk_12_258⟩, List.forall_mem_cons.mpr ⟨⟨_, mk_12_261⟩, List.forall_mem_cons.mpr ⟨⟨_, mk_12_264⟩, List.forall_mem_cons.mpr ⟨⟨_, mk_12_267⟩, List.forall_mem_cons.mpr ⟨⟨_, mk_12_275⟩, List.forall_mem_cons.mpr ⟨⟨_, mk_12_279⟩, List.forall_mem_cons.mpr ⟨⟨_, mk_12_284⟩, List.forall_mem_cons.mpr ⟨⟨_, mk_12_287⟩, List.forall_mem_cons.mpr ⟨⟨_, mk_12_302⟩, List.forall_mem_cons.mpr ⟨⟨_, mk_12_306⟩, List.forall_mem_cons.mpr ⟨⟨_, mk_12_320⟩, List.forall_mem_cons.mpr ⟨⟨_, mk_12_323⟩, List.forall_mem_cons.mpr ⟨⟨_, mk_12_333⟩, List.forall_mem_cons.mpr ⟨⟨_, mk_12_336⟩, List.forall_mem_cons.mpr ⟨⟨_, mk_12_339⟩, List.forall_mem_cons.mpr ⟨⟨_, mk_12_346⟩, List.forall_mem_cons.mpr ⟨⟨_, mk_12_349⟩, List.forall_mem_cons.mpr ⟨⟨_, mk_12_356⟩, List.forall_mem_cons.mpr ⟨⟨_, mk_12_372⟩, List.forall_mem_cons.mpr ⟨⟨_, mk_12_375⟩, List.forall_mem_cons.mpr ⟨⟨_, mk_12_378⟩, List.forall_mem_cons.mpr ⟨⟨_, mk_12_382⟩, List.forall_mem_cons.mpr ⟨⟨_, mk_12_386⟩, List.forall_mem_cons.mpr ⟨⟨_, mk_12_390⟩, List.forall_mem_cons.mpr ⟨⟨_, mk_12_393⟩, List.forall_mem_cons.mpr ⟨⟨_, mk_12_396⟩, List.forall_mem_cons.mpr ⟨⟨_, mk_12_402⟩, List.forall_mem_cons.mpr ⟨⟨_, mk_12_405⟩, List.forall_mem_cons.mpr ⟨⟨_, mk_12_408⟩, List.forall_mem_cons.mpr ⟨⟨_, mk_12_412⟩, List.forall_mem_cons.mpr ⟨⟨_, mk_12_415⟩, List.forall_mem_cons.mpr ⟨⟨_, mk_12_418⟩, List.forall_mem_cons.mpr ⟨⟨_, mk_12_421⟩, List.forall_mem_cons.mpr ⟨⟨_, mk_12_426⟩, List.forall_mem_cons.mpr ⟨⟨_, mk_12_433⟩, List.forall_mem_cons.mpr ⟨⟨_, mk_12_437⟩, List.forall_mem_cons.mpr ⟨⟨_, mk_12_449⟩, List.forall_mem_cons.mpr ⟨⟨_, mk_12_462⟩, fun _ h => absurd h List.not_mem_nil⟩⟩⟩⟩⟩⟩⟩⟩⟩⟩⟩⟩⟩⟩⟩⟩⟩⟩⟩⟩⟩⟩⟩⟩⟩⟩⟩⟩⟩⟩⟩⟩⟩⟩⟩⟩⟩⟩⟩⟩⟩⟩⟩⟩⟩⟩⟩⟩⟩⟩⟩⟩⟩⟩⟩⟩⟩⟩⟩
theorem mlT_13_ok : ∀ q ∈ mlT_13, mOk q := List.forall_mem_cons.mpr ⟨⟨_, mk_13_47⟩, List.forall_mem_cons.mpr ⟨⟨_, mk_13_54⟩, List.forall_mem_cons.mpr ⟨⟨_, mk_13_106⟩, List.forall_mem_cons.mpr ⟨⟨_, mk_13_335⟩, List.forall_mem_cons.mpr ⟨⟨_, mk_13_489⟩, List.forall_mem_cons.mpr ⟨⟨_, mk_13_492⟩, List.forall_mem_cons.mpr ⟨⟨_, mk_13_495⟩, List.forall_mem_cons.mpr ⟨⟨_, mk_13_498⟩, List.forall_mem_cons.mpr ⟨⟨_, mk_13_549⟩, List.forall_mem_cons.mpr ⟨⟨_, mk_13_552⟩, List.forall_mem_cons.mpr ⟨⟨_, mk_13_1047⟩, List.forall_mem_cons.mpr ⟨⟨_, mk_13_1051⟩, List.forall_mem_cons.mpr ⟨⟨_, mk_13_1059⟩, List.forall_mem_cons.mpr ⟨⟨_, mk_13_1062⟩, List.forall_mem_cons.mpr ⟨⟨_, mk_13_1065⟩, fun _ h => absurd h List.not_mem_nil⟩⟩⟩⟩⟩⟩⟩⟩⟩⟩⟩⟩⟩⟩⟩
theorem mlT_14_ok : ∀ q ∈ mlT_14, mOk q := List.forall_mem_cons.mpr ⟨⟨_, mk_14_1⟩, List.forall_mem_cons.mpr ⟨⟨_, mk_14_29⟩, List.forall_mem_cons.mpr ⟨⟨_, mk_14_50⟩, List.forall_mem_cons.mpr ⟨⟨_, mk_14_53⟩, List.forall_mem_cons.mpr ⟨⟨_, mk_14_137⟩, List.forall_mem_cons.mpr ⟨⟨_, mk_14_343⟩, fun _ h => absurd h List.not_mem_nil⟩⟩⟩⟩⟩⟩
theorem mlT_15_ok : ∀ q ∈ mlT_15, mOk q := List.forall_mem_cons.mpr ⟨⟨_, mk_15_26⟩, List.forall_mem_cons.mpr ⟨⟨_, mk_15_32⟩, List.forall_mem_cons.mpr ⟨⟨_, mk_15_40⟩, List.forall_mem_cons.mpr ⟨⟨_, mk_15_83⟩, List.forall_mem_cons.mpr ⟨⟨_, mk_15_108⟩, List.forall_mem_cons.mpr ⟨⟨_, mk_15_114⟩, List.forall_mem_cons.mpr ⟨⟨_, mk_15_125⟩, List.forall_mem_cons.mpr ⟨⟨_, mk_15_191⟩, List.forall_mem_cons.mpr ⟨⟨_, mk_15_197⟩, List.forall_mem_cons.mpr ⟨⟨_, mk_15_226⟩, List.forall_mem_cons.mpr ⟨⟨_, mk_15_245⟩, List.forall_mem_cons.mpr ⟨⟨_, mk_15_248⟩, List.forall_mem_cons.mpr ⟨⟨_, mk_15_251⟩, List.forall_mem_cons.mpr ⟨⟨_, mk_15_399⟩, fun _ h => absurd h List.not_mem_nil⟩⟩⟩⟩⟩⟩⟩⟩⟩⟩⟩⟩⟩⟩
theorem mlT_18_ok : ∀ q ∈ mlT_18, mOk q := List.forall_mem_cons.mpr ⟨⟨_, mk_18_9⟩, List.forall_mem_cons.mpr ⟨⟨_, mk_18_240⟩, fun _ h => absurd h List.not_mem_nil⟩⟩
theorem mlT_19_ok : ∀ q ∈ mlT_19, mOk q := List.forall_mem_cons.mpr ⟨⟨_, mk_19_11⟩, List.forall_mem_cons.mpr ⟨⟨_, mk_19_48⟩, List.forall_mem_cons.mpr ⟨⟨_, mk_19_67⟩, List.forall_mem_cons.mpr ⟨⟨_, mk_19_71⟩, List.forall_mem_cons.mpr ⟨⟨_, mk_19_96⟩, List.forall_mem_cons.mpr ⟨⟨_, mk_19_111⟩, List.forall_mem_cons.mpr ⟨⟨_, mk_19_123⟩, List.forall_mem_cons.mpr ⟨⟨_, mk_19_126⟩, List.forall_mem_cons.mpr ⟨⟨_, mk_19_173⟩, List.forall_mem_cons.mpr ⟨⟨_, mk_19_241⟩, List.forall_mem_cons.mpr ⟨⟨_, mk_19_393⟩, List.forall_mem_cons.mpr ⟨⟨_, mk_19_414⟩, List.forall_mem_cons.mpr ⟨⟨_, mk_19_419⟩, fun _ h => absurd h List.not_mem_nil⟩⟩⟩⟩⟩⟩⟩⟩⟩⟩⟩⟩⟩
theorem mlT_21_ok : ∀ q ∈ mlT_21, mOk q := List.forall_mem_cons.mpr ⟨⟨_, mk_21_304⟩, List.forall_mem_cons.mpr ⟨⟨_, mk_21_339⟩, List.forall_mem_cons.mpr ⟨⟨_, mk_21_343⟩, fun _ h => absurd h List.not_mem_nil⟩⟩⟩
theorem mlT_22_ok : ∀ q ∈ mlT_22, mOk q := List.forall_mem_cons.mpr ⟨⟨_, mk_22_194⟩, List.forall_mem_cons.mpr ⟨⟨_, mk_22_201⟩, fun _ h => absurd h List.not_mem_nil⟩⟩
theorem mlT_24_ok : ∀ q ∈ mlT_24, mOk q := List.forall_mem_cons.mpr ⟨⟨_, mk_24_9⟩, List.forall_mem_cons.mpr ⟨⟨_, mk_24_12⟩, List.forall_mem_cons.mpr ⟨⟨_, mk_24_13⟩, List.forall_mem_cons.mpr ⟨⟨_, mk_24_17⟩, List.forall_mem_cons.mpr ⟨⟨_, mk_24_18⟩, List.forall_mem_cons.mpr ⟨⟨_, mk_24_22⟩, List.forall_mem_cons.mpr ⟨⟨_, mk_24_23⟩, List.forall_mem_cons.mpr ⟨⟨_, mk_24_26⟩, List.forall_mem_cons.mpr ⟨⟨_, mk_24_27⟩, List.forall_mem_cons.mpr ⟨⟨_, mk_24_30⟩, List.forall_mem_cons.mpr ⟨⟨_, mk_24_31⟩, List.forall_mem_cons.mpr ⟨⟨_, mk_24_34⟩, List.forall_mem_cons.mpr ⟨⟨_, mk_24_35⟩, List.forall_mem_cons.mpr ⟨⟨_, mk_24_39⟩, List.forall_mem_cons.mpr ⟨⟨_, mk_24_42⟩, List.forall_mem_cons.mpr ⟨⟨_, mk_24_46⟩, List.forall_mem_cons.mpr ⟨⟨_, mk_24_47⟩, List.forall_mem_cons.mpr ⟨⟨_, mk_24_51⟩, List.forall_mem_cons.mpr ⟨⟨_, mk_24_52⟩, List.forall_mem_cons.mpr ⟨⟨_, mk_24_55⟩, List.forall_mem_cons.mpr ⟨⟨_, mk_24_56⟩, List.forall_mem_cons.mpr ⟨⟨_, mk_24_60⟩, List.forall_mem_cons.mpr ⟨⟨_, mk_24_61⟩, List.forall_mem_cons.mpr ⟨⟨_, mk_24_64⟩, List.forall_mem_cons.mpr ⟨⟨_, mk_24_65⟩, List.forall_mem_cons.mpr ⟨⟨_, mk_24_68⟩, List.forall_mem_cons.mpr ⟨⟨_, mk_24_69⟩, List.forall_mem_cons.mpr ⟨⟨_, mk_24_72⟩, List.forall_mem_cons.mpr ⟨⟨_, mk_24_73⟩, List.forall_mem_cons.mpr ⟨⟨_, mk_24_76⟩, List.forall_mem_cons.mpr ⟨⟨_, mk_24_77⟩, List.forall_mem_cons.mpr ⟨⟨_, mk_24_80⟩, List.forall_mem_cons.mpr ⟨⟨_, mk_24_81⟩, List.forall_mem_cons.mpr ⟨⟨_, mk_24_84⟩, List.forall_mem_cons.mpr ⟨⟨_, mk_24_85⟩, List.forall_mem_cons.mpr ⟨⟨_, mk_24_88⟩, List.forall_mem_cons.mpr ⟨⟨_, mk_24_89⟩, List.forall_mem_cons.mpr ⟨⟨_, mk_24_92⟩, List.forall_mem_cons.mpr ⟨⟨_, mk_24_93⟩, List.forall_mem_cons.mpr ⟨⟨_, mk_24_96⟩, List.forall_mem_cons.mpr ⟨⟨_, mk_24_97⟩, List.forall_mem_cons.mpr ⟨⟨_, mk_24_100⟩, List.forall_mem_cons.mpr ⟨⟨_, mk_24_101⟩, List.forall_mem_cons.mpr ⟨⟨_, mk_24_104⟩, List.forall_mem_cons.mpr ⟨⟨_, mk_24_105⟩, List.forall_mem_cons.mpr ⟨⟨_, mk_24_108⟩, List.forall_mem_cons.mpr ⟨⟨_, mk_24_109⟩, List.forall_mem_cons.mpr ⟨⟨_, mk_24_112⟩, List.forall_mem_cons.mpr ⟨⟨_, mk_24_113⟩, List.forall_mem_cons.mpr ⟨⟨_, mk_24_116⟩, List.forall_mem_cons.mpr ⟨⟨_, mk_24_117⟩, List.forall_mem_cons.mpr ⟨⟨_, mk_24_120⟩, List.forall_mem_cons.mpr ⟨⟨_, mk_24_121⟩, List.forall_mem_cons.mpr ⟨⟨_, mk_24_125⟩, List.forall_mem_cons.mpr ⟨⟨_, mk_24_126⟩, List.forall_mem_cons.mpr ⟨⟨_, mk_24_129⟩, List.forall_mem_cons.mpr ⟨⟨_, mk_24_130⟩, List.forall_mem_cons.mpr ⟨⟨_, mk_24_133⟩, List.forall_mem_cons.mpr ⟨⟨_, mk_24_134⟩, List.forall_mem_cons.mpr ⟨⟨_, mk_24_137⟩, List.forall_mem_cons.mpr ⟨⟨_, mk_24_138⟩, List.forall_mem_cons.mpr ⟨⟨_, mk_24_141⟩, List.forall_mem_cons.mpr ⟨⟨_, mk_24_142⟩, List.forall_mem_cons.mpr ⟨⟨_, mk_24_145⟩, List.forall_mem_cons.mpr ⟨⟨_, mk_24_146⟩, List.forall_mem_cons.mpr ⟨⟨_, mk_24_149⟩, List.forall_mem_cons.mpr ⟨⟨_, mk_24_150⟩, List.forall_mem_cons.mpr ⟨⟨_, mk_24_153⟩, List.forall_mem_cons.mpr ⟨⟨_, mk_24_154⟩, List.forall_mem_cons.mpr ⟨⟨_, mk_24_157⟩, List.forall_mem_cons.mpr ⟨⟨_, mk_24_158⟩, List.forall_mem_cons.mpr ⟨⟨_, mk_24_161⟩, fun _ h => absurd h List.not_mem_nil⟩⟩⟩⟩⟩⟩⟩⟩⟩⟩⟩⟩⟩⟩⟩⟩⟩⟩⟩⟩⟩⟩⟩⟩⟩⟩⟩⟩⟩⟩⟩⟩⟩⟩⟩⟩⟩⟩⟩⟩⟩⟩⟩⟩⟩⟩⟩⟩⟩⟩⟩⟩⟩⟩⟩⟩⟩⟩⟩⟩⟩⟩⟩⟩⟩⟩⟩⟩⟩⟩⟩⟩
theorem mlT_25_ok : ∀ q ∈ mlT_25, mOk q := List.forall_mem_cons.mpr ⟨⟨_, mk_25_122⟩, fun _ h => absurd h List.not_mem_nil⟩
theorem mlT_26_ok : ∀ q ∈ mlT_26, mOk q := List.forall_mem_cons.mpr ⟨⟨_, mk_26_59⟩, fun _ h => absurd h List.not_mem_nil⟩
theorem mlT_ok : ∀ q ∈ mlT, mOk q := List.forall_mem_append.mpr ⟨List.forall_mem_append.mpr ⟨List.forall_mem_append.mpr ⟨List.forall_mem_append.mpr ⟨List.forall_mem_append.mpr ⟨List.forall_mem_append.mpr ⟨List.forall_mem_append.mpr ⟨List.forall_mem_append.mpr ⟨List.forall_mem_append.mpr ⟨List.forall_mem_append.mpr ⟨List.forall_mem_append.mpr ⟨List.forall_mem_append.mpr ⟨List.forall_mem_append.mpr ⟨List.forall_mem_append.mpr ⟨List.forall_mem_append.mpr ⟨List.forall_mem_append.mpr ⟨List.forall_mem_append.mpr ⟨List.forall_mem_append.mpr ⟨List.forall_mem_append.mpr ⟨List.forall_mem_append.mpr ⟨List.forall_mem_append.mpr ⟨mlT_0_ok, mlT_1_ok⟩, mlT_2_ok⟩, mlT_4_ok⟩, mlT_5_ok⟩, mlT_6_ok⟩, mlT_7_ok⟩, mlT_8_ok⟩, mlT_9_ok⟩, mlT_10_ok⟩, mlT_11_ok⟩, mlT_12_ok⟩, mlT_13_ok⟩, mlT_14_ok⟩, mlT_15_ok⟩, mlT_18_ok⟩, mlT_19_ok⟩, mlT_21_ok⟩, mlT_22_ok⟩, mlT_24_ok⟩, mlT_25_ok⟩, mlT_26_ok⟩
def plM (o i : Nat) : Option (Nat × Nat × Nat × Mi) := (mlT.find? fun q => q.1 == o && q.2.1 == i).map fun q => q.2.2
theorem plM_ok {o i kd rc np : Nat} {M : Mi} (h : plM o i = some (kd, rc, np, M)) : ∃ is, mChk o i kd rc np M is = true := by
  unfold plM at h
  cases hf : mlT.find? (fun q => q.1 == o && q.2.1 == i) with
  | none =>
    rw [hf] at h
    cases h
  | some e =>
    rw [hf] at h
    have hm := mlT_ok e (List.mem_of_find?_eq_some hf)
    have hp := List.find?_some hf
    simp only [Bool.and_eq_true, beq_iff_eq] at hp
    obtain ⟨o1, i1, k1, r1, n1, M1⟩ := e
    simp at h hp
    obtain ⟨rfl, rfl⟩ := hp
    obtain ⟨rfl, rfl, rfl, rfl⟩ := h
    exact hm
theorem pm_0_19 : plM 0 19 = some (1, 0, 1, mX0_add) := by rfl
theorem pm_1_32 : plM 1 32 = some (0, 1, 2, mX4_widens) := by rfl
theorem pm_1_38 : plM 1 38 = some (0, 1, 1, mX4_isWholeKind) := by rfl
theorem pm_1_42 : plM 1 42 = some (1, 3, 1, mJ4_append_cf468) := by rfl
theorem pm_1_48 : plM 1 48 = some (0, 3, 1, mX10_word) := by rfl
theorem pm_1_54 : plM 1 54 = some (1, 3, 1, mJ4_append_15ec4) := by rfl
theorem pm_1_59 : plM 1 59 = some (1, 3, 1, mJ4_append_bf812) := by rfl
theorem pm_2_59 : plM 2 59 = some (3, 1, 1, mX11_isVersion) := by rfl
theorem pm_2_63 : plM 2 63 = some (1, 1, 2, mX2_loses) := by rfl
theorem pm_2_67 : plM 2 67 = some (0, 1, 3, mX2_sumOf) := by rfl
theorem pm_2_71 : plM 2 71 = some (1, 1, 4, mX2_reads) := by rfl
theorem pm_2_75 : plM 2 75 = some (1, 1, 1, mX2_readsPresent) := by rfl
theorem pm_2_86 : plM 2 86 = some (1, 1, 2, mX2_readsSize) := by rfl
theorem pm_2_90 : plM 2 90 = some (1, 1, 2, mX2_readsCells) := by rfl
theorem pm_2_93 : plM 2 93 = some (1, 1, 0, mX2_fieldsPresent) := by rfl
theorem pm_2_97 : plM 2 97 = some (1, 1, 0, mX2_cellsPresent) := by rfl
theorem pm_2_100 : plM 2 100 = some (1, 1, 0, mX2_nextByte) := by rfl
theorem pm_2_112 : plM 2 112 = some (0, 1, 2, mJ9_min_7cf53) := by rfl
theorem pm_2_121 : plM 2 121 = some (1, 1, 1, mX2_readsBoxes) := by rfl
theorem pm_2_124 : plM 2 124 = some (1, 1, 3, mX2_readsSteps) := by rfl
theorem pm_2_128 : plM 2 128 = some (1, 1, 3, mX2_readsRuns) := by rfl
theorem pm_2_131 : plM 2 131 = some (1, 1, 3, mX2_readsPlain) := by rfl
theorem pm_2_134 : plM 2 134 = some (0, 1, 1, mX4_isNumberKind) := by rfl
theorem pm_2_139 : plM 2 139 = some (1, 1, 3, mX2_readsValue) := by rfl
theorem pm_2_143 : plM 2 143 = some (1, 0, 3, mX2_keep) := by rfl
theorem pm_2_147 : plM 2 147 = some (0, 1, 2, mX4_has) := by rfl
theorem pm_4_9 : plM 4 9 = some (0, 1, 1, mX4_isNumberKind) := by rfl
theorem pm_4_21 : plM 4 21 = some (0, 2, 2, mX4_nearest) := by rfl
theorem pm_4_25 : plM 4 25 = some (0, 1, 1, mX4_isWholeKind) := by rfl
theorem pm_4_28 : plM 4 28 = some (0, 2, 1, mX4_doubleOfFloat) := by rfl
theorem pm_4_36 : plM 4 36 = some (0, 2, 1, mJ9_abs_067f4) := by rfl
theorem pm_4_41 : plM 4 41 = some (0, 2, 1, mX4_asFloat) := by rfl
theorem pm_4_44 : plM 4 44 = some (0, 2, 3, mX4_ratio) := by rfl
theorem pm_4_48 : plM 4 48 = some (0, 2, 3, mX4_signed) := by rfl
theorem pm_4_52 : plM 4 52 = some (0, 1, 1, mX4_topBit) := by rfl
theorem pm_4_56 : plM 4 56 = some (0, 1, 1, mX4_digitsOf) := by rfl
theorem pm_4_60 : plM 4 60 = some (0, 2, 2, mX4_rounded) := by rfl
theorem pm_4_64 : plM 4 64 = some (0, 2, 3, mX4_composed) := by rfl
theorem pm_5_11 : plM 5 11 = some (4, 0, 0, mX0_init) := by rfl
theorem pm_5_20 : plM 5 20 = some (4, 0, 0, mX6_init) := by rfl
theorem pm_5_46 : plM 5 46 = some (0, 1, 2, mX5_presentBits) := by rfl
theorem pm_5_50 : plM 5 50 = some (1, 0, 1, mX0_add) := by rfl
theorem pm_5_66 : plM 5 66 = some (1, 1, 2, mX5_gathers) := by rfl
theorem pm_5_70 : plM 5 70 = some (1, 1, 0, mX7_size) := by rfl
theorem pm_5_76 : plM 5 76 = some (1, 0, 2, mX5_addField) := by rfl
theorem pm_5_84 : plM 5 84 = some (1, 1, 2, mX5_refuses) := by rfl
theorem pm_5_94 : plM 5 94 = some (0, 1, 3, mX7_refusalToView) := by rfl
theorem pm_5_102 : plM 5 102 = some (0, 2, 3, mX4_widened) := by rfl
theorem pm_5_108 : plM 5 108 = some (1, 0, 1, mX5_addBoxes) := by rfl
theorem pm_5_111 : plM 5 111 = some (1, 0, 1, mX5_addNumbers) := by rfl
theorem pm_5_114 : plM 5 114 = some (0, 1, 1, mX4_width) := by rfl
theorem pm_5_118 : plM 5 118 = some (1, 0, 2, mX0_addNumber) := by rfl
theorem pm_5_122 : plM 5 122 = some (1, 0, 2, mX6_choose) := by rfl
theorem pm_5_135 : plM 5 135 = some (1, 0, 1, mX5_addSteps) := by rfl
theorem pm_5_138 : plM 5 138 = some (1, 0, 1, mX5_addRuns) := by rfl
theorem pm_6_24 : plM 6 24 = some (0, 1, 1, mX4_width) := by rfl
theorem pm_6_30 : plM 6 30 = some (0, 1, 2, mJ9_max_7cf53) := by rfl
theorem pm_6_39 : plM 6 39 = some (1, 0, 4, mX6_offer) := by rfl
theorem pm_7_9 : plM 7 9 = some (0, 1, 2, mJ9_min_7cf53) := by rfl
theorem pm_7_15 : plM 7 15 = some (0, 1, 2, mJ9_max_7cf53) := by rfl
theorem pm_7_32 : plM 7 32 = some (1, 1, 0, mX7_size) := by rfl
theorem pm_7_36 : plM 7 36 = some (2, 0, 2, mX7_init) := by rfl
theorem pm_7_45 : plM 7 45 = some (0, 1, 2, mX4_widens) := by rfl
theorem pm_7_51 : plM 7 51 = some (0, 1, 3, mX7_refusalOfBox) := by rfl
theorem pm_7_55 : plM 7 55 = some (0, 2, 3, mX4_widened) := by rfl
theorem pm_7_59 : plM 7 59 = some (0, 1, 1, mX4_isWholeKind) := by rfl
theorem pm_7_63 : plM 7 63 = some (1, 1, 2, mX7_agrees) := by rfl
theorem pm_8_37 : plM 8 37 = some (1, 3, 0, mX8_nextField) := by rfl
theorem pm_8_43 : plM 8 43 = some (2, 0, 2, mX10_init) := by rfl
theorem pm_8_46 : plM 8 46 = some (1, 1, 0, mX8_here) := by rfl
theorem pm_8_50 : plM 8 50 = some (1, 1, 1, mX8_faultAt) := by rfl
theorem pm_8_54 : plM 8 54 = some (3, 1, 1, mX11_isSlot) := by rfl
theorem pm_8_57 : plM 8 57 = some (1, 1, 1, mX8_skips) := by rfl
theorem pm_8_61 : plM 8 61 = some (1, 1, 0, mX8_nextKind) := by rfl
theorem pm_8_64 : plM 8 64 = some (1, 1, 0, mX8_nextCells) := by rfl
theorem pm_8_67 : plM 8 67 = some (1, 1, 1, mX8_readsDefault) := by rfl
theorem pm_8_70 : plM 8 70 = some (2, 0, 6, mX1_init) := by rfl
theorem pm_8_73 : plM 8 73 = some (0, 3, 1, mX10_word) := by rfl
theorem pm_8_77 : plM 8 77 = some (1, 1, 2, mX8_isWord) := by rfl
theorem pm_8_81 : plM 8 81 = some (1, 1, 0, mJ0_length_8abf5) := by rfl
theorem pm_8_86 : plM 8 86 = some (1, 1, 1, mJ0_charAt_5068e) := by rfl
theorem pm_8_90 : plM 8 90 = some (1, 1, 1, mX8_nextDigits) := by rfl
theorem pm_8_94 : plM 8 94 = some (0, 1, 2, mJ9_max_7cf53) := by rfl
theorem pm_9_41 : plM 9 41 = some (1, 1, 1, mX10_placeOf) := by rfl
theorem pm_9_51 : plM 9 51 = some (1, 1, 5, mX9_fill) := by rfl
theorem pm_9_55 : plM 9 55 = some (1, 1, 2, mX9_fillByDefault) := by rfl
theorem pm_9_69 : plM 9 69 = some (2, 0, 2, mX7_init) := by rfl
theorem pm_9_80 : plM 9 80 = some (0, 1, 5, mX9_enter) := by rfl
theorem pm_9_85 : plM 9 85 = some (0, 1, 3, mX7_refusalOfBox) := by rfl
theorem pm_9_89 : plM 9 89 = some (1, 0, 3, mX7_put) := by rfl
theorem pm_9_93 : plM 9 93 = some (0, 1, 1, mX4_isWholeKind) := by rfl
theorem pm_9_99 : plM 9 99 = some (0, 1, 2, mX4_has) := by rfl
theorem pm_9_113 : plM 9 113 = some (0, 2, 2, mX4_byLong) := by rfl
theorem pm_9_117 : plM 9 117 = some (1, 1, 0, mX7_size) := by rfl
theorem pm_10_44 : plM 10 44 = some (2, 0, 0, mJ4_init_da8c8) := by rfl
theorem pm_10_45 : plM 10 45 = some (1, 3, 1, mJ4_append_cf468) := by rfl
theorem pm_10_49 : plM 10 49 = some (1, 0, 1, mX1_spellTo) := by rfl
theorem pm_10_53 : plM 10 53 = some (1, 3, 0, mJ4_toString_0e30d) := by rfl
theorem pm_11_35 : plM 11 35 = some (4, 0, 0, mX5_init) := by rfl
theorem pm_11_42 : plM 11 42 = some (4, 0, 0, mX2_init) := by rfl
theorem pm_11_49 : plM 11 49 = some (4, 0, 0, mX9_init) := by rfl
theorem pm_11_59 : plM 11 59 = some (4, 0, 0, mX3_init) := by rfl
theorem pm_11_87 : plM 11 87 = some (0, 1, 1, mX11_isSlot) := by rfl
theorem pm_11_91 : plM 11 91 = some (2, 0, 2, mX7_init) := by rfl
theorem pm_11_97 : plM 11 97 = some (1, 1, 0, mX7_size) := by rfl
theorem pm_11_101 : plM 11 101 = some (1, 1, 1, mX11_holdersOf) := by rfl
theorem pm_11_105 : plM 11 105 = some (0, 1, 3, mX7_refusalToView) := by rfl
theorem pm_11_109 : plM 11 109 = some (1, 1, 1, mX11_refusedBy) := by rfl
theorem pm_11_120 : plM 11 120 = some (0, 2, 3, mX4_widened) := by rfl
theorem pm_11_128 : plM 11 128 = some (0, 1, 1, mX4_isNumberKind) := by rfl
theorem pm_11_131 : plM 11 131 = some (0, 2, 2, mX4_byLong) := by rfl
theorem pm_11_135 : plM 11 135 = some (1, 1, 4, mX11_enterNumber) := by rfl
theorem pm_11_139 : plM 11 139 = some (0, 2, 3, mX4_quotient) := by rfl
theorem pm_11_143 : plM 11 143 = some (0, 1, 3, mX7_refusalOfBox) := by rfl
theorem pm_11_146 : plM 11 146 = some (1, 0, 3, mX7_put) := by rfl
theorem pm_11_150 : plM 11 150 = some (0, 1, 2, mX11_byteOf) := by rfl
theorem pm_11_154 : plM 11 154 = some (0, 1, 1, mX11_isVersion) := by rfl
theorem pm_11_159 : plM 11 159 = some (2, 0, 2, mX8_init) := by rfl
theorem pm_11_162 : plM 11 162 = some (1, 3, 0, mX8_understood) := by rfl
theorem pm_11_172 : plM 11 172 = some (1, 1, 1, mX11_lackOf) := by rfl
theorem pm_11_179 : plM 11 179 = some (1, 1, 1, mX1_tell) := by rfl
theorem pm_11_184 : plM 11 184 = some (1, 3, 0, mX10_asText) := by rfl
theorem pm_11_188 : plM 11 188 = some (1, 1, 0, mJ0_length_8abf5) := by rfl
theorem pm_11_192 : plM 11 192 = some (1, 1, 1, mJ0_charAt_5068e) := by rfl
theorem pm_11_196 : plM 11 196 = some (1, 1, 2, mX5_packs) := by rfl
theorem pm_11_209 : plM 11 209 = some (1, 0, 4, mX11_stopBy) := by rfl
theorem pm_11_220 : plM 11 220 = some (1, 0, 2, mX11_putFrame) := by rfl
theorem pm_11_224 : plM 11 224 = some (1, 1, 1, mX11_isOnWire) := by rfl
theorem pm_11_227 : plM 11 227 = some (1, 1, 4, mX2_stands) := by rfl
theorem pm_11_238 : plM 11 238 = some (1, 1, 4, mX9_takes) := by rfl
theorem pm_11_254 : plM 11 254 = some (1, 1, 1, mX2_tell) := by rfl
theorem pm_11_255 : plM 11 255 = some (1, 1, 1, mX11_frameSize) := by rfl
theorem pm_11_260 : plM 11 260 = some (1, 1, 2, mX5_gathers) := by rfl
theorem pm_11_271 : plM 11 271 = some (1, 0, 2, mX6_choose) := by rfl
theorem pm_11_277 : plM 11 277 = some (1, 1, 1, mX6_tell) := by rfl
theorem pm_11_278 : plM 11 278 = some (1, 1, 1, mX10_placeOf) := by rfl
theorem pm_11_281 : plM 11 281 = some (1, 1, 0, mX1_fitOfNone) := by rfl
theorem pm_11_284 : plM 11 284 = some (1, 1, 1, mX1_fitOf) := by rfl
theorem pm_11_291 : plM 11 291 = some (1, 1, 4, mX2_reads) := by rfl
theorem pm_11_295 : plM 11 295 = some (1, 1, 1, mX11_cellsKept) := by rfl
theorem pm_11_298 : plM 11 298 = some (0, 1, 2, mJ9_min_7cf53) := by rfl
theorem pm_11_303 : plM 11 303 = some (1, 1, 2, mX7_agrees) := by rfl
theorem pm_11_307 : plM 11 307 = some (0, 2, 1, mX11_digestOf) := by rfl
theorem pm_11_316 : plM 11 316 = some (0, 0, 2, mX11_copyRows) := by rfl
theorem pm_11_321 : plM 11 321 = some (0, 0, 2, mX11_copyVersions) := by rfl
theorem pm_11_338 : plM 11 338 = some (1, 1, 0, mX11_unlikeRows) := by rfl
theorem pm_11_341 : plM 11 341 = some (1, 1, 1, mX11_slotsWith) := by rfl
theorem pm_11_345 : plM 11 345 = some (1, 1, 0, mX11_cellsOfUnlikeRows) := by rfl
theorem pm_11_348 : plM 11 348 = some (1, 1, 0, mX11_versionsThere) := by rfl
theorem pm_11_351 : plM 11 351 = some (0, 1, 3, mX7_refusalOfNumber) := by rfl
theorem pm_11_354 : plM 11 354 = some (0, 1, 3, mX2_sumOf) := by rfl
theorem pm_11_358 : plM 11 358 = some (1, 1, 1, mX7_agreements) := by rfl
theorem pm_11_365 : plM 11 365 = some (0, 1, 2, mX11_firstHolder) := by rfl
theorem pm_11_369 : plM 11 369 = some (1, 3, 0, mX7_twin) := by rfl
theorem pm_11_373 : plM 11 373 = some (1, 1, 1, mX11_isFirstOfRow) := by rfl
theorem pm_12_134 : plM 12 134 = some (0, 1, 3, mX12_within) := by rfl
theorem pm_12_138 : plM 12 138 = some (0, 1, 1, mJxf58ca_floatToIntBits_5c35a) := by rfl
theorem pm_12_144 : plM 12 144 = some (0, 2, 1, mJxe99ae_doubleToLongBits_ccdee) := by rfl
theorem pm_12_154 : plM 12 154 = some (0, 2, 2, mX12_numberOf) := by rfl
theorem pm_12_162 : plM 12 162 = some (1, 1, 1, mX12_holders) := by rfl
theorem pm_12_166 : plM 12 166 = some (0, 1, 1, mX12_isSlot) := by rfl
theorem pm_12_170 : plM 12 170 = some (1, 1, 0, mX12_free) := by rfl
theorem pm_12_174 : plM 12 174 = some (0, 1, 2, mX12_widens) := by rfl
theorem pm_12_178 : plM 12 178 = some (1, 1, 3, mX12_bars) := by rfl
theorem pm_12_182 : plM 12 182 = some (1, 1, 1, mX12_refuses) := by rfl
theorem pm_12_185 : plM 12 185 = some (0, 2, 3, mX12_widened) := by rfl
theorem pm_12_195 : plM 12 195 = some (1, 1, 4, mX12_comes) := by rfl
theorem pm_12_208 : plM 12 208 = some (1, 1, 0, mX12_sign) := by rfl
theorem pm_12_228 : plM 12 228 = some (1, 1, 0, mJ0_length_8abf5) := by rfl
theorem pm_12_233 : plM 12 233 = some (1, 1, 1, mJ0_charAt_5068e) := by rfl
theorem pm_12_237 : plM 12 237 = some (0, 3, 1, mX12_wordOf) := by rfl
theorem pm_12_241 : plM 12 241 = some (1, 1, 2, mX12_isWord) := by rfl
theorem pm_12_245 : plM 12 245 = some (1, 1, 1, mX12_is) := by rfl
theorem pm_12_248 : plM 12 248 = some (1, 1, 0, mX12_isDigit) := by rfl
theorem pm_12_252 : plM 12 252 = some (1, 1, 1, mX12_isKind) := by rfl
theorem pm_12_255 : plM 12 255 = some (1, 1, 1, mX12_isMany) := by rfl
theorem pm_12_258 : plM 12 258 = some (1, 1, 1, mX12_isDefault) := by rfl
theorem pm_12_261 : plM 12 261 = some (0, 1, 1, mX12_isVersion) := by rfl
theorem pm_12_264 : plM 12 264 = some (1, 1, 1, mX12_isField) := by rfl
theorem pm_12_267 : plM 12 267 = some (1, 1, 2, mX12_noField) := by rfl
theorem pm_12_275 : plM 12 275 = some (1, 0, 1, mX12_says) := by rfl
theorem pm_12_279 : plM 12 279 = some (0, 1, 1, mJ9_abs_0f7a4) := by rfl
theorem pm_12_284 : plM 12 284 = some (1, 0, 1, mX12_says_) := by rfl
theorem pm_12_287 : plM 12 287 = some (1, 0, 1, mX12_saysNumber) := by rfl
theorem pm_12_302 : plM 12 302 = some (0, 1, 1, mX12_width) := by rfl
theorem pm_12_306 : plM 12 306 = some (0, 1, 2, mJ9_max_7cf53) := by rfl
theorem pm_12_320 : plM 12 320 = some (1, 0, 1, mX12_weighs) := by rfl
theorem pm_12_323 : plM 12 323 = some (1, 0, 2, mX12_puts) := by rfl
theorem pm_12_333 : plM 12 333 = some (1, 1, 3, mX12_fails) := by rfl
theorem pm_12_336 : plM 12 336 = some (1, 1, 1, mX12_reads) := by rfl
theorem pm_12_339 : plM 12 339 = some (1, 0, 1, mX12_putsNumbers) := by rfl
theorem pm_12_346 : plM 12 346 = some (1, 1, 1, mX12_packs) := by rfl
theorem pm_12_349 : plM 12 349 = some (1, 1, 4, mX12_stops) := by rfl
theorem pm_12_356 : plM 12 356 = some (0, 1, 4, mX12_digestOf) := by rfl
theorem pm_12_372 : plM 12 372 = some (1, 1, 2, mX12_isLost) := by rfl
theorem pm_12_375 : plM 12 375 = some (1, 1, 1, mX12_isCut) := by rfl
theorem pm_12_378 : plM 12 378 = some (1, 2, 1, mX12_told) := by rfl
theorem pm_12_382 : plM 12 382 = some (0, 1, 2, mX12_isValue) := by rfl
theorem pm_12_386 : plM 12 386 = some (1, 1, 4, mX12_isNoValue) := by rfl
theorem pm_12_390 : plM 12 390 = some (1, 1, 1, mX12_areNoBoxes) := by rfl
theorem pm_12_393 : plM 12 393 = some (1, 1, 2, mX12_areNoNumbers) := by rfl
theorem pm_12_396 : plM 12 396 = some (1, 1, 0, mX12_isNoBody) := by rfl
theorem pm_12_402 : plM 12 402 = some (0, 1, 1, mX12_isWhole) := by rfl
theorem pm_12_405 : plM 12 405 = some (1, 1, 2, mX12_fieldFor) := by rfl
theorem pm_12_408 : plM 12 408 = some (1, 1, 3, mX12_fits) := by rfl
theorem pm_12_412 : plM 12 412 = some (1, 1, 2, mX12_takesField) := by rfl
theorem pm_12_415 : plM 12 415 = some (1, 1, 1, mX12_isNoFrame) := by rfl
theorem pm_12_418 : plM 12 418 = some (1, 1, 1, mX12_takes) := by rfl
theorem pm_12_421 : plM 12 421 = some (0, 1, 1, mJ6_bitCount_0f7a4) := by rfl
theorem pm_12_426 : plM 12 426 = some (1, 1, 1, mX12_isRow) := by rfl
theorem pm_12_433 : plM 12 433 = some (0, 4, 2, mX12_real_) := by rfl
theorem pm_12_437 : plM 12 437 = some (0, 1, 4, mX12_areAlike) := by rfl
theorem pm_12_449 : plM 12 449 = some (1, 2, 1, mX12_digestOf_) := by rfl
theorem pm_12_462 : plM 12 462 = some (1, 1, 0, mX12_unlike) := by rfl
theorem pm_13_47 : plM 13 47 = some (0, 1, 2, mJ2_coderFromArrayLen_85cad) := by rfl
theorem pm_13_54 : plM 13 54 = some (0, 3, 3, mJ7_copyOfRange_39247) := by rfl
theorem pm_13_106 : plM 13 106 = some (0, 0, 5, mJ1_inflate_0e8fd) := by rfl
theorem pm_13_335 : plM 13 335 = some (1, 1, 0, mJ0_coder_7d493) := by rfl
theorem pm_13_489 : plM 13 489 = some (2, 0, 2, mJ0_init_db425) := by rfl
theorem pm_13_492 : plM 13 492 = some (1, 1, 0, mJ0_isLatin1_aae02) := by rfl
theorem pm_13_495 : plM 13 495 = some (0, 1, 2, mJ1_charAt_3b067) := by rfl
theorem pm_13_498 : plM 13 498 = some (0, 1, 2, mJ2_charAt_3b067) := by rfl
theorem pm_13_549 : plM 13 549 = some (14, 1, 0, mJ4_length_8abf5) := by rfl
theorem pm_13_552 : plM 13 552 = some (12, 3, 0, mJ5_getValue_6d5f1) := by rfl
theorem pm_13_1047 : plM 13 1047 = some (12, 1, 0, mJ5_isLatin1_aae02) := by rfl
theorem pm_13_1051 : plM 13 1051 = some (0, 3, 3, mJ2_compress_39247) := by rfl
theorem pm_13_1059 : plM 13 1059 = some (0, 1, 3, mJ3_checkIndex_8e157) := by rfl
theorem pm_13_1062 : plM 13 1062 = some (0, 1, 4, mJ3_checkFromToIndex_8c36e) := by rfl
theorem pm_13_1065 : plM 13 1065 = some (0, 1, 4, mJ3_checkFromIndexSize_8c36e) := by rfl
theorem pm_14_1 : plM 14 1 = some (2, 0, 1, mJ5_init_d00df) := by rfl
theorem pm_14_29 : plM 14 29 = some (13, 3, 1, mJ5_append_cf1ce) := by rfl
theorem pm_14_50 : plM 14 50 = some (13, 3, 1, mJ5_append_3fe6f) := by rfl
theorem pm_14_53 : plM 14 53 = some (13, 3, 1, mJ5_append_c97b9) := by rfl
theorem pm_14_137 : plM 14 137 = some (2, 0, 1, mJ0_init_81219) := by rfl
theorem pm_14_343 : plM 14 343 = some (13, 1, 0, mJ5_length_8abf5) := by rfl
theorem pm_15_26 : plM 15 26 = some (0, 3, 1, mJ2_newBytesFor_77867) := by rfl
theorem pm_15_32 : plM 15 32 = some (1, 1, 0, mJ0_length_8abf5) := by rfl
theorem pm_15_40 : plM 15 40 = some (1, 1, 0, mJ0_coder_7d493) := by rfl
theorem pm_15_83 : plM 15 83 = some (12, 1, 0, mJ5_isLatin1_aae02) := by rfl
theorem pm_15_108 : plM 15 108 = some (0, 3, 2, mJ7_copyOf_9075b) := by rfl
theorem pm_15_114 : plM 15 114 = some (0, 1, 3, mJ8_newLength_cabcc) := by rfl
theorem pm_15_125 : plM 15 125 = some (0, 0, 5, mJ1_inflate_0e8fd) := by rfl
theorem pm_15_191 : plM 15 191 = some (0, 1, 1, mJ1_canEncode_fc78d) := by rfl
theorem pm_15_197 : plM 15 197 = some (0, 0, 3, mJ2_putCharSB_b72d1) := by rfl
theorem pm_15_226 : plM 15 226 = some (0, 1, 6, mJ2_putCharsAt_cd4e5) := by rfl
theorem pm_15_245 : plM 15 245 = some (0, 1, 1, mJ6_stringSize_0f7a4) := by rfl
theorem pm_15_248 : plM 15 248 = some (0, 1, 3, mJ6_getChars_ba4f3) := by rfl
theorem pm_15_251 : plM 15 251 = some (0, 1, 4, mJ2_getChars_46870) := by rfl
theorem pm_15_399 : plM 15 399 = some (1, 0, 3, mJ0_getBytes_840e7) := by rfl
theorem pm_18_9 : plM 18 9 = some (0, 0, 2, mJ0_checkIndex_df160) := by rfl
theorem pm_18_240 : plM 18 240 = some (0, 0, 5, mJ2_inflate_0e8fd) := by rfl
theorem pm_19_11 : plM 19 11 = some (0, 1, 1, mJ2_newBytesLength_0f7a4) := by rfl
theorem pm_19_48 : plM 19 48 = some (0, 1, 1, mJ2_length_9d52b) := by rfl
theorem pm_19_67 : plM 19 67 = some (0, 0, 2, mJ2_checkIndex_2214a) := by rfl
theorem pm_19_71 : plM 19 71 = some (0, 1, 2, mJ2_getChar_3b067) := by rfl
theorem pm_19_96 : plM 19 96 = some (0, 0, 3, mJ2_checkBoundsBeginEnd_d044e) := by rfl
theorem pm_19_111 : plM 19 111 = some (0, 0, 3, mJ2_putChar_b72d1) := by rfl
theorem pm_19_123 : plM 19 123 = some (0, 1, 5, mJ2_compress_5af95) := by rfl
theorem pm_19_126 : plM 19 126 = some (0, 3, 3, mJ7_copyOfRange_39247) := by rfl
theorem pm_19_173 : plM 19 173 = some (0, 0, 3, mJ2_checkBoundsOffCount_d044e) := by rfl
theorem pm_19_241 : plM 19 241 = some (0, 0, 3, mJ0_checkBoundsBeginEnd_23922) := by rfl
theorem pm_19_393 : plM 19 393 = some (0, 1, 3, mJ2_getChars_ba4f3) := by rfl
theorem pm_19_414 : plM 19 414 = some (0, 0, 2, mJ0_checkIndex_df160) := by rfl
theorem pm_19_419 : plM 19 419 = some (0, 1, 3, mJ0_checkBoundsOffCount_cabcc) := by rfl
theorem pm_21_304 : plM 21 304 = some (0, 1, 2, mJ9_min_7cf53) := by rfl
theorem pm_21_339 : plM 21 339 = some (0, 3, 3, mJ7_copyOfRangeByte_39247) := by rfl
theorem pm_21_343 : plM 21 343 = some (0, 0, 2, mJ7_checkLength_df160) := by rfl
theorem pm_22_194 : plM 22 194 = some (0, 1, 2, mJ9_max_7cf53) := by rfl
theorem pm_22_201 : plM 22 201 = some (0, 1, 2, mJ8_hugeLength_7cf53) := by rfl
theorem pm_24_9 : plM 24 9 = some (2, 0, 0, mX11_init) := by rfl
theorem pm_24_12 : plM 24 12 = some (2, 0, 0, mX12_init) := by rfl
theorem pm_24_13 : plM 24 13 = some (1, 1, 3, mX11_make) := by rfl
theorem pm_24_17 : plM 24 17 = some (1, 1, 3, mX12_make) := by rfl
theorem pm_24_18 : plM 24 18 = some (1, 1, 2, mX11_thing) := by rfl
theorem pm_24_22 : plM 24 22 = some (1, 1, 2, mX12_thing) := by rfl
theorem pm_24_23 : plM 24 23 = some (1, 1, 2, mX11_same) := by rfl
theorem pm_24_26 : plM 24 26 = some (1, 1, 2, mX12_same) := by rfl
theorem pm_24_27 : plM 24 27 = some (1, 1, 2, mX11_of) := by rfl
theorem pm_24_30 : plM 24 30 = some (1, 1, 2, mX12_of) := by rfl
theorem pm_24_31 : plM 24 31 = some (1, 1, 3, mX11_read) := by rfl
theorem pm_24_34 : plM 24 34 = some (1, 1, 3, mX12_read) := by rfl
theorem pm_24_35 : plM 24 35 = some (1, 2, 1, mX11_latch) := by rfl
theorem pm_24_39 : plM 24 39 = some (1, 2, 1, mX12_latch) := by rfl
theorem pm_24_42 : plM 24 42 = some (1, 1, 4, mX11_write) := by rfl
theorem pm_24_46 : plM 24 46 = some (1, 1, 4, mX12_write) := by rfl
theorem pm_24_47 : plM 24 47 = some (1, 1, 5, mX11_real) := by rfl
theorem pm_24_51 : plM 24 51 = some (1, 1, 5, mX12_real) := by rfl
theorem pm_24_52 : plM 24 52 = some (1, 1, 4, mX11_box) := by rfl
theorem pm_24_55 : plM 24 55 = some (1, 1, 4, mX12_box) := by rfl
theorem pm_24_56 : plM 24 56 = some (1, 1, 1, mX11_lax) := by rfl
theorem pm_24_60 : plM 24 60 = some (1, 1, 1, mX12_lax) := by rfl
theorem pm_24_61 : plM 24 61 = some (1, 1, 2, mX11_feed) := by rfl
theorem pm_24_64 : plM 24 64 = some (1, 1, 2, mX12_feed) := by rfl
theorem pm_24_65 : plM 24 65 = some (1, 1, 1, mX11_define) := by rfl
theorem pm_24_68 : plM 24 68 = some (1, 1, 1, mX12_define) := by rfl
theorem pm_24_69 : plM 24 69 = some (1, 1, 1, mX11_drop) := by rfl
theorem pm_24_72 : plM 24 72 = some (1, 1, 1, mX12_drop) := by rfl
theorem pm_24_73 : plM 24 73 = some (1, 1, 3, mX11_field) := by rfl
theorem pm_24_76 : plM 24 76 = some (1, 1, 3, mX12_field) := by rfl
theorem pm_24_77 : plM 24 77 = some (1, 1, 1, mX11_spell) := by rfl
theorem pm_24_80 : plM 24 80 = some (1, 1, 1, mX12_spell) := by rfl
theorem pm_24_81 : plM 24 81 = some (1, 1, 1, mX11_paper) := by rfl
theorem pm_24_84 : plM 24 84 = some (1, 1, 1, mX12_paper) := by rfl
theorem pm_24_85 : plM 24 85 = some (1, 1, 1, mX11_pack) := by rfl
theorem pm_24_88 : plM 24 88 = some (1, 1, 1, mX12_pack) := by rfl
theorem pm_24_89 : plM 24 89 = some (1, 1, 2, mX11_load) := by rfl
theorem pm_24_92 : plM 24 92 = some (1, 1, 2, mX12_load) := by rfl
theorem pm_24_93 : plM 24 93 = some (1, 1, 1, mX11_stop) := by rfl
theorem pm_24_96 : plM 24 96 = some (1, 1, 1, mX12_stop) := by rfl
theorem pm_24_97 : plM 24 97 = some (1, 1, 1, mX11_wire) := by rfl
theorem pm_24_100 : plM 24 100 = some (1, 1, 1, mX12_wire) := by rfl
theorem pm_24_101 : plM 24 101 = some (1, 1, 2, mX11_poke) := by rfl
theorem pm_24_104 : plM 24 104 = some (1, 1, 2, mX12_poke) := by rfl
theorem pm_24_105 : plM 24 105 = some (1, 1, 1, mX11_cut) := by rfl
theorem pm_24_108 : plM 24 108 = some (1, 1, 1, mX12_cut) := by rfl
theorem pm_24_109 : plM 24 109 = some (1, 1, 2, mX11_frame) := by rfl
theorem pm_24_112 : plM 24 112 = some (1, 1, 2, mX12_frame) := by rfl
theorem pm_24_113 : plM 24 113 = some (1, 1, 1, mX11_bytes) := by rfl
theorem pm_24_116 : plM 24 116 = some (1, 1, 1, mX12_bytes) := by rfl
theorem pm_24_117 : plM 24 117 = some (1, 1, 3, mX11_mode) := by rfl
theorem pm_24_120 : plM 24 120 = some (1, 1, 3, mX12_mode) := by rfl
theorem pm_24_121 : plM 24 121 = some (1, 1, 0, mX11_smallest) := by rfl
theorem pm_24_125 : plM 24 125 = some (1, 1, 0, mX12_smallest) := by rfl
theorem pm_24_126 : plM 24 126 = some (1, 1, 1, mX11_scan) := by rfl
theorem pm_24_129 : plM 24 129 = some (1, 1, 1, mX12_scan) := by rfl
theorem pm_24_130 : plM 24 130 = some (1, 1, 1, mX11_found) := by rfl
theorem pm_24_133 : plM 24 133 = some (1, 1, 1, mX12_found) := by rfl
theorem pm_24_134 : plM 24 134 = some (1, 1, 3, mX11_fit) := by rfl
theorem pm_24_137 : plM 24 137 = some (1, 1, 3, mX12_fit) := by rfl
theorem pm_24_138 : plM 24 138 = some (1, 1, 2, mX11_trip) := by rfl
theorem pm_24_141 : plM 24 141 = some (1, 1, 2, mX12_trip) := by rfl
theorem pm_24_142 : plM 24 142 = some (1, 1, 2, mX11_alike) := by rfl
theorem pm_24_145 : plM 24 145 = some (1, 1, 2, mX12_alike) := by rfl
theorem pm_24_146 : plM 24 146 = some (1, 2, 1, mX11_digest) := by rfl
theorem pm_24_149 : plM 24 149 = some (1, 2, 1, mX12_digest) := by rfl
theorem pm_24_150 : plM 24 150 = some (1, 1, 0, mX11_image) := by rfl
theorem pm_24_153 : plM 24 153 = some (1, 1, 0, mX12_image) := by rfl
theorem pm_24_154 : plM 24 154 = some (1, 1, 0, mX11_back) := by rfl
theorem pm_24_157 : plM 24 157 = some (1, 1, 0, mX12_back) := by rfl
theorem pm_24_158 : plM 24 158 = some (1, 1, 1, mX11_count) := by rfl
theorem pm_24_161 : plM 24 161 = some (1, 1, 1, mX12_count) := by rfl
theorem pm_25_122 : plM 25 122 = some (0, 1, 1, mJxe99ae_isNaN_b9ae7) := by rfl
theorem pm_26_59 : plM 26 59 = some (0, 1, 1, mJxf58ca_isNaN_12338) := by rfl
