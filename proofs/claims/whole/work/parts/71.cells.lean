/-! what is taken is sound -/
theorem i64_32 (x : Int32) : x.toInt64.toInt32 = x := Int32.toInt32_toInt64 x
theorem u32_mm (x : UInt32) : x % 65536 % 65536 = x % 65536 := UInt32.toNat_inj.mp (by rw [UInt32.toNat_mod, UInt32.toNat_mod, Nat.mod_mod])
theorem num_idem {kd : Int32} (h6 : ¬ kd = 6) (h7 : kd = 0 ∨ kd = 1 ∨ kd = 2 ∨ kd = 3 ∨ kd = 4 ∨ kd = 5) (v : Int64) : numOf kd (numOf kd v) = numOf kd v := by
  rcases h7 with rfl | rfl | rfl | rfl | rfl | rfl
  · show (if (if v = 0 then (0 : Int64) else 1) = 0 then (0 : Int64) else 1) = if v = 0 then 0 else 1
    by_cases q : v = 0
    · rw [if_pos q]; rfl
    · rw [if_neg q]; rfl
  · show v.toInt32.toInt8.toInt32.toInt64.toInt32.toInt8.toInt32.toInt64 = v.toInt32.toInt8.toInt32.toInt64
    rw [i64_32, Int8.toInt8_toInt32]
  · show ((v.toInt32.toUInt32 % 65536).toInt32.toInt64.toInt32.toUInt32 % 65536).toInt32.toInt64 = (v.toInt32.toUInt32 % 65536).toInt32.toInt64
    rw [i64_32, UInt32.toUInt32_toInt32, u32_mm]
  · show v.toInt32.toInt16.toInt32.toInt64.toInt32.toInt16.toInt32.toInt64 = v.toInt32.toInt16.toInt32.toInt64
    rw [i64_32, Int16.toInt16_toInt32]
  · show v.toInt32.toInt64.toInt32.toInt64 = v.toInt32.toInt64
    rw [i64_32]
  · rfl
/-- a double of a whole number is finite -/
theorem fin64_num (v : Int64) : isVal 7 (numOf 7 v) = true := (iv7 (FP.l2d v)).mpr (FP.Core.l2d_fin v)
/-- a double of a finite float is finite -/
theorem fin64_f2d {v : Int64} (h : fin32 v) : isVal 7 (FP.f2d v.toInt32.toUInt32).toInt64 = true := (iv7 _).mpr (by rw [fz_f2d (iv6 h)]; exact FP.Core.f2d_fin (iv6 h))
theorem kd_cases {kd : Int32} {b : Nat} (hb : b ≤ 7) (h : kd = nI b) : kd = 0 ∨ kd = 1 ∨ kd = 2 ∨ kd = 3 ∨ kd = 4 ∨ kd = 5 ∨ kd = 6 ∨ kd = 7 := by
  subst h
  rcases (show b = 0 ∨ b = 1 ∨ b = 2 ∨ b = 3 ∨ b = 4 ∨ b = 5 ∨ b = 6 ∨ b = 7 by omega) with rfl | rfl | rfl | rfl | rfl | rfl | rfl | rfl <;> decide
theorem val_num {kd : Int32} {b : Nat} (hb : b ≤ 7) (h : kd = nI b) (v : Int64) : isVal kd (numOf kd v) = true := by
  rcases kd_cases hb h with q | q | q | q | q | q | q | q
  case inr.inr.inr.inr.inr.inr.inl => subst q; exact fin32_num v
  case inr.inr.inr.inr.inr.inr.inr => subst q; exact fin64_num v
  all_goals
    have h6 : ¬ kd = 6 := by rw [q]; decide
    have h7 : ¬ kd = 7 := by rw [q]; decide
    unfold isVal
    rw [if_neg h6, if_neg h7]
    exact decide_eq_true (num_idem h6 (by simp only [q, true_or, or_true]) v)
theorem wdn_val {a b : Int32} {x : Nat} {v : Int64} (hx : x ≤ 7) (hb : b = nI x) (hv : isVal a v = true) : isVal b (wdn a v b) = true ∨ (a = 6 ∧ ¬ b = 7 ∧ ¬ a = b) := by
  unfold wdn
  by_cases e : a = b
  · rw [if_pos e]
    exact Or.inl (e ▸ hv)
  · rw [if_neg e]
    by_cases e6 : a = 6
    · rw [if_pos e6]
      by_cases e7 : b = 7
      · rw [e7]
        exact Or.inl (fin64_f2d (by rw [e6] at hv; exact hv))
      · exact Or.inr ⟨e6, e7, e⟩
    · rw [if_neg e6]
      exact Or.inl (val_num hx hb v)
theorem wds_val {a b : Int32} {x : Nat} {v : Int64} (hx : x ≤ 7) (hb : b = nI x) (hv : isVal a v = true) (hw : wds a b = true) : isVal b (wdn a v b) = true := by
  rcases wdn_val hx hb hv with q | ⟨q1, q2, q3⟩
  · exact q
  · subst q1
    unfold wds at hw
    rw [if_neg q3] at hw
    simp [q2] at hw
theorem fitV_ok {fr to lx : Int32} {x y : Nat} {v : Int64} (hx : x ≤ 8) (hto : to = nI x) (hy : y ≤ 8) (hfr : fr = nI y) (hv : cvl fr v) (h : (fitV fr v to lx).1 = 0) : (∃ b, b ≤ 8 ∧ (if to = 8 then fr else to) = nI b) ∧ cvl (if to = 8 then fr else to) (fitV fr v to lx).2 := by
  unfold fitV at h ⊢
  by_cases t8 : to = 8
  · simp only [if_pos t8]
    exact ⟨⟨y, hy, hfr⟩, hv⟩
  · simp only [if_neg t8] at h ⊢
    refine ⟨⟨x, hx, hto⟩, ?_⟩
    have hx7 : x ≤ 7 := by
      rcases Nat.lt_or_ge x 8 with q | q
      · omega
      · exact absurd (by rw [hto, show x = 8 by omega]; rfl) t8
    by_cases f8 : fr = 8
    · simp only [if_pos f8] at h
      exact absurd h (by decide)
    · simp only [if_neg f8] at h ⊢
      have hval : isVal fr v = true := by unfold cvl at hv; rw [if_neg f8] at hv; exact hv
      by_cases hw : wds fr to = true
      · simp only [if_pos hw]
        exact cvl_of t8 (wds_val hx7 hto hval hw)
      · simp only [if_neg hw] at h ⊢
        split at h
        · exact absurd h (show ¬ (-12 : Int32) = 0 by decide)
        next q =>
          rw [if_neg q]
          split at h
          next q2 =>
            rw [if_pos q2]
            exact cvl_of t8 q2
          · exact absurd h (show ¬ (-17 : Int32) = 0 by decide)
theorem tkC_ok {to lx : Int32} {x : Nat} (hx : x ≤ 8) (hto : to = nI x) : ∀ {C : List (Int32 × Int64)} {i : Nat} {D : List (Int32 × Int64)}, CelOK C → tkC to lx C i = .inr D → CelOK D ∧ D.length = C.length
  | [], i, D, _, h => by
    unfold tkC at h
    cases h
    exact ⟨CelOK.nil, rfl⟩
  | (kd, v) :: C, i, D, hC, h => by
    unfold tkC at h
    split at h
    next q =>
      split at h
      · cases h
      next D' hD =>
        cases h
        obtain ⟨⟨b, hb, e⟩, hv⟩ := hC (kd, v) List.mem_cons_self
        obtain ⟨g1, g2⟩ := tkC_ok hx hto (fun y hy => hC y (List.mem_cons_of_mem _ hy)) hD
        exact ⟨CelOK.cons (fitV_ok hx hto hb e hv q) g1, by rw [List.length_cons, List.length_cons, g2]⟩
    · cases h
theorem CelOK.rep {kd : Int32} {v : Int64} {n : Nat} (h : (∃ b, b ≤ 8 ∧ kd = nI b) ∧ cvl kd v) : CelOK (List.replicate n (kd, v)) := fun y hy => by
  rw [(List.mem_replicate.mp hy).2]
  exact h
theorem tkD_ok {F : Nat → Nat → Int32} {k : Nat} {C : List (Int32 × Int64)} (hF : FldW (fun j => F j k)) (h : tkD F k = .inr (some C)) : CelOK C := by
  obtain ⟨sl, kd, c, nd, td, hs8, hkd, hc, hnd, htd, f0, f1, f2, f3, f4, f5, f6, -, -⟩ := hF
  unfold tkD at h
  split at h
  · cases h
  · split at h
    · cases h
    next q =>
      cases h
      change F 1 k = nI kd at f1
      change F 4 k = nI td at f4
      have htd0 : ¬ td = 0 := fun e => q (by rw [f4, e]; rfl)
      have hk8 : ¬ kd = 8 := fun e => htd0 (f6 e)
      have h8 : ¬ F 1 k = 8 := by rw [f1, show (8 : Int32) = nI 8 from rfl, ni_eq (by omega) (by decide)]; exact hk8
      exact CelOK.rep ⟨⟨kd, hkd, f1⟩, cvl_of h8 (val_num (b := kd) (by omega) f1 _)⟩
theorem tkF_ok {Fw F : Nat → Nat → Int32} {nw k : Nat} {lx : Int32} {L : List (Option (List (Int32 × Int64)))} {C : List (Int32 × Int64)} (hF : FldW (fun j => F j k)) (hL : LOK L) (h : tkF Fw nw L lx F k = .inr (some C)) : CelOK C := by
  unfold tkF at h
  split at h
  · exact tkD_ok hF h
  · split at h
    next C' hC' =>
      split at h
      · cases h
      · split at h
        · cases h
        next D hD =>
          cases h
          obtain ⟨sl, kd, c, nd, td, hs8, hkd, hc, hnd, htd, f0, f1, -⟩ := hF
          exact (tkC_ok hkd f1 (hL _ _ hC') hD).1
    · exact tkD_ok hF h
theorem tk_ok {Fw F : Nat → Nat → Int32} {nw : Nat} {lx : Int32} {L : List (Option (List (Int32 × Int64)))} (hL : LOK L) : ∀ {r k : Nat} {D : List (Option (List (Int32 × Int64)))}, (∀ j, k ≤ j → j < k + r → FldW (fun i => F i j)) → tk Fw nw L lx F r k = .inr D → LOK D
  | 0, k, D, _, h => by
    unfold tk at h
    cases h
    intro j C hj
    cases hj
  | r + 1, k, D, hF, h => by
    unfold tk at h
    split at h
    · cases h
    next x hx =>
      split at h
      · cases h
      next D' hD =>
        cases h
        have ih := tk_ok hL (fun j h1 h2 => hF j (by omega) (by omega)) hD
        intro j C hj
        cases j with
        | zero =>
          have e : x = some C := by simpa using hj
          exact tkF_ok (hF k (by omega) (by omega)) hL (e ▸ hx)
        | succ j => exact ih j C hj
