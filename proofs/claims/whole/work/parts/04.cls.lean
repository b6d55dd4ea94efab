/-! words of the classes, by program -/
def ckL (is : List Nat) (ws : List Cond) : Bool := is.length == ws.length && ckW (is.zip ws)
theorem ckL_ok {is : List Nat} {ws : List Cond} (h : ckL is ws = true) : ∀ w ∈ ws, w ∈ GL := by
  intro w hw
  simp only [ckL, Bool.and_eq_true, beq_iff_eq] at h
  obtain ⟨i, hi⟩ := List.getElem?_of_mem hw
  have hl : i < ws.length := (List.getElem?_eq_some_iff.mp hi).1
  have h3 : (is.zip ws)[i]? = some (is[i]'(by omega), w) := by
    rw [List.getElem?_zip_eq_some]
    exact ⟨List.getElem?_eq_getElem (by omega), hi⟩
  exact ckW_ok h.2 (List.mem_of_getElem? h3)
theorem iwX0 : ∀ w ∈ u_ws RX0 TX0 2, w ∈ GL := ckL_ok (is := [140, 142]) (by decide +kernel)
theorem iwX1 : ∀ w ∈ u_ws RX1 TX1 6, w ∈ GL := ckL_ok (is := [701, 703, 705, 707, 709, 711]) (by decide +kernel)
theorem iwX2 : ∀ w ∈ u_ws RX2 TX2 13, w ∈ GL := ckL_ok (is := [228, 230, 232, 234, 236, 238, 240, 242, 244, 246, 248, 250, 252]) (by decide +kernel)
theorem iwX3 : ∀ w ∈ u_ws RX3 TX3 6, w ∈ GL := ckL_ok (is := [300, 302, 304, 306, 308, 310]) (by decide +kernel)
theorem iwX4 : ∀ w ∈ u_ws RX4 TX4 0, w ∈ GL := ckL_ok (is := []) (by decide +kernel)
theorem iwX5 : ∀ w ∈ u_ws RX5 TX5 7, w ∈ GL := ckL_ok (is := [181, 183, 185, 187, 189, 191, 193]) (by decide +kernel)
theorem iwX6 : ∀ w ∈ u_ws RX6 TX6 4, w ∈ GL := ckL_ok (is := [159, 161, 163, 165]) (by decide +kernel)
theorem iwX7 : ∀ w ∈ u_ws RX7 TX7 3, w ∈ GL := ckL_ok (is := [393, 395, 397]) (by decide +kernel)
theorem iwX8 : ∀ w ∈ u_ws RX8 TX8 7, w ∈ GL := ckL_ok (is := [555, 557, 559, 561, 563, 565, 567]) (by decide +kernel)
theorem iwX9 : ∀ w ∈ u_ws RX9 TX9 4, w ∈ GL := ckL_ok (is := [271, 273, 275, 277]) (by decide +kernel)
theorem iwX10 : ∀ w ∈ u_ws RX10 TX10 2, w ∈ GL := ckL_ok (is := [730, 732]) (by decide +kernel)
theorem iwX11 : ∀ w ∈ u_ws RX11 TX11 16, w ∈ GL := ckL_ok (is := [330, 332, 334, 336, 338, 340, 342, 344, 346, 348, 350, 352, 354, 356, 358, 360]) (by decide +kernel)
theorem iwX12 : ∀ w ∈ u_ws RX12 TX12 65, w ∈ GL := ckL_ok (is := [1398, 1400, 1402, 1404, 1406, 1408, 1410, 1412, 1414, 1416, 1418, 1420, 1422, 1424, 1426, 1428, 1430, 1432, 1434, 1436, 1438, 1440, 1442, 1444, 1446, 1448, 1450, 1452, 1454, 1456, 1458, 1460, 1462, 1464, 1466, 1468, 1470, 1472, 1474, 1476, 1478, 1480, 1482, 1484, 1486, 1488, 1490, 1492, 1494, 1496, 1498, 1500, 1502, 1504, 1506, 1508, 1510, 1512, 1514, 1516, 1518, 1520, 1522, 1524, 1526]) (by decide +kernel)
theorem iwJ0 : ∀ w ∈ u_ws RJ0 TJ0 4, w ∈ GL := ckL_ok (is := [980, 982, 984, 986]) (by decide +kernel)
theorem iwJ4 : ∀ w ∈ u_ws RJ4 TJ4 4, w ∈ GL := ckL_ok (is := [781, 783, 785, 787]) (by decide +kernel)
/-- what is known of class c: its words, its field types, its fields apart -/
theorem clOk {c : Nat} {q : vw_C} (h : cls[c]? = some q) : (∀ w ∈ u_ws q.1 q.2.1 q.2.2, w ∈ GL) ∧ (∀ k, k < q.2.2 → parseFieldDescriptor (q.2.1 k).2.2.1 = some (clY c k)) ∧ (∀ a, a < q.2.2 → ∀ b, b < q.2.2 → a ≠ b → (q.2.1 a).2.1 ≠ (q.2.1 b).2.1) := by
  match c, h with
  | 0, h => cases h; exact ⟨iwX0, tyX0_ok, nmX0⟩
  | 1, h => cases h; exact ⟨iwX1, tyX1_ok, nmX1⟩
  | 2, h => cases h; exact ⟨iwX2, tyX2_ok, nmX2⟩
  | 3, h => cases h; exact ⟨iwX3, tyX3_ok, nmX3⟩
  | 4, h => cases h; exact ⟨iwX4, tyX4_ok, nmX4⟩
  | 5, h => cases h; exact ⟨iwX5, tyX5_ok, nmX5⟩
  | 6, h => cases h; exact ⟨iwX6, tyX6_ok, nmX6⟩
  | 7, h => cases h; exact ⟨iwX7, tyX7_ok, nmX7⟩
  | 8, h => cases h; exact ⟨iwX8, tyX8_ok, nmX8⟩
  | 9, h => cases h; exact ⟨iwX9, tyX9_ok, nmX9⟩
  | 10, h => cases h; exact ⟨iwX10, tyX10_ok, nmX10⟩
  | 11, h => cases h; exact ⟨iwX11, tyX11_ok, nmX11⟩
  | 12, h => cases h; exact ⟨iwX12, tyX12_ok, nmX12⟩
  | 13, h => cases h; exact ⟨iwJ0, tyJ0_ok, nmJ0⟩
  | 14, h => cases h; exact ⟨iwJ4, tyJ4_ok, nmJ4⟩
  | (c + 15), h => cases h
