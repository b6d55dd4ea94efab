/-! words of the classes, by program -/
def ckL (is : List Nat) (ws : List Cond) : Bool := is.length == ws.length && ckW (is.zip ws)
theorem ckL_ok {is : List Nat} {ws : List Cond} (h : ckL is ws = true) : ∀ w ∈ ws, w ∈ GL := by
  intro w hw
  simp only [ckL, Bool.and_eq_true, beq_iff_eq] at h
  obtain ⟨i, hi⟩ := List.getElem?_of_mem hw
  have hl : i < ws.length := (List.getElem?_eq_some_iff.mp hi).1
  have h3 : (is.zip ws)[i]? = some (is[i]'(by omega), w) := by
    rw [List.getElem?_zip_eq_some]
    exact ⟨List.getElem?_eq_getElem (by omega), hi⟩
  exact ckW_ok h.2 (List.mem_of_getElem? h3)
theorem iwX0 : ∀ w ∈ u_ws RX0 TX0 2, w ∈ GL := ckL_ok (is := [1056, 1058]) (by decide +kernel)
theorem iwX1 : ∀ w ∈ u_ws RX1 TX1 6, w ∈ GL := ckL_ok (is := [3137, 3139, 3141, 3143, 3145, 3147]) (by decide +kernel)
theorem iwX2 : ∀ w ∈ u_ws RX2 TX2 13, w ∈ GL := ckL_ok (is := [1144, 1146, 1148, 1150, 1152, 1154, 1156, 1158, 1160, 1162, 1164, 1166, 1168]) (by decide +kernel)
theorem iwX3 : ∀ w ∈ u_ws RX3 TX3 6, w ∈ GL := ckL_ok (is := [1216, 1218, 1220, 1222, 1224, 1226]) (by decide +kernel)
theorem iwX4 : ∀ w ∈ u_ws RX4 TX4 0, w ∈ GL := ckL_ok (is := []) (by decide +kernel)
theorem iwX5 : ∀ w ∈ u_ws RX5 TX5 7, w ∈ GL := ckL_ok (is := [1097, 1099, 1101, 1103, 1105, 1107, 1109]) (by decide +kernel)
theorem iwX6 : ∀ w ∈ u_ws RX6 TX6 4, w ∈ GL := ckL_ok (is := [1075, 1077, 1079, 1081]) (by decide +kernel)
theorem iwX7 : ∀ w ∈ u_ws RX7 TX7 3, w ∈ GL := ckL_ok (is := [2069, 2071, 2073]) (by decide +kernel)
theorem iwX8 : ∀ w ∈ u_ws RX8 TX8 7, w ∈ GL := ckL_ok (is := [2231, 2233, 2235, 2237, 2239, 3001, 3003]) (by decide +kernel)
theorem iwX9 : ∀ w ∈ u_ws RX9 TX9 4, w ∈ GL := ckL_ok (is := [1187, 1189, 1191, 1193]) (by decide +kernel)
theorem iwX10 : ∀ w ∈ u_ws RX10 TX10 2, w ∈ GL := ckL_ok (is := [3166, 3168]) (by decide +kernel)
theorem iwX11 : ∀ w ∈ u_ws RX11 TX11 16, w ∈ GL := ckL_ok (is := [2006, 2008, 2010, 2012, 2014, 2016, 2018, 2020, 2022, 2024, 2026, 2028, 2030, 2032, 2034, 2036]) (by decide +kernel)
theorem iwX12 : ∀ w ∈ u_ws RX12 TX12 65, w ∈ GL := ckL_ok (is := [6113, 6115, 6117, 6119, 6121, 6123, 6125, 6127, 6129, 6131, 6133, 6135, 6137, 6139, 6141, 6143, 6145, 6147, 6149, 6151, 6153, 6155, 6157, 6159, 6161, 6163, 6165, 6167, 6169, 6171, 6173, 6175, 6177, 6179, 6181, 6183, 6185, 6187, 6189, 6191, 6193, 6195, 6197, 6199, 6201, 6203, 6205, 6207, 6209, 6211, 6213, 6215, 6217, 6219, 6221, 6223, 6225, 6227, 6229, 6231, 6233, 6235, 6237, 6239, 7001]) (by decide +kernel)
theorem iwJ0 : ∀ w ∈ u_ws RJ0 TJ0 4, w ∈ GL := ckL_ok (is := [4176, 4178, 4180, 4182]) (by decide +kernel)
theorem iwJ4 : ∀ w ∈ u_ws RJ4 TJ4 4, w ∈ GL := ckL_ok (is := [3217, 3219, 3221, 3223]) (by decide +kernel)
/-- what is known of class c: its words, its field types, its fields apart -/
theorem clOk {c : Nat} {q : vw_C} (h : cls[c]? = some q) : (∀ w ∈ u_ws q.1 q.2.1 q.2.2, w ∈ GL) ∧ (∀ k, k < q.2.2 → parseFieldDescriptor (q.2.1 k).2.2.1 = some (clY c k)) ∧ (∀ a, a < q.2.2 → ∀ b, b < q.2.2 → a ≠ b → (q.2.1 a).2.1 ≠ (q.2.1 b).2.1) := by
  match c, h with
  | 0, h => cases h; exact ⟨iwX0, tyX0_ok, nmX0⟩
  | 1, h => cases h; exact ⟨iwX1, tyX1_ok, nmX1⟩
  | 2, h => cases h; exact ⟨iwX2, tyX2_ok, nmX2⟩
  | 3, h => cases h; exact ⟨iwX3, tyX3_ok, nmX3⟩
  | 4, h => cases h; exact ⟨iwX4, fun k h => absurd h (Nat.not_lt_zero k), fun a h => absurd h (Nat.not_lt_zero a)⟩
  | 5, h => cases h; exact ⟨iwX5, tyX5_ok, nmX5⟩
  | 6, h => cases h; exact ⟨iwX6, tyX6_ok, nmX6⟩
  | 7, h => cases h; exact ⟨iwX7, tyX7_ok, nmX7⟩
  | 8, h => cases h; exact ⟨iwX8, tyX8_ok, nmX8⟩
  | 9, h => cases h; exact ⟨iwX9, tyX9_ok, nmX9⟩
  | 10, h => cases h; exact ⟨iwX10, tyX10_ok, nmX10⟩
  | 11, h => cases h; exact ⟨iwX11, tyX11_ok, nmX11⟩
  | 12, h => cases h; exact ⟨iwX12, tyX12_ok, nmX12⟩
  | 13, h => cases h; exact ⟨iwJ0, tyJ0_ok, nmJ0⟩
  | 14, h => cases h; exact ⟨iwJ4, tyJ4_ok, nmJ4⟩
  | (c + 15), h => cases h
