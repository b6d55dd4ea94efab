/-! what is packed is read back -/
theorem sh_c : ∀ c, c < 64 → (((nI c).toInt64 &&& 63).toBitVec.smod 64).toNat = c := by decide +kernel
theorem shr_int (v : Int64) {c : Nat} (hc : c < 64) : (v >>> ((nI c).toInt64 &&& 63)).toInt = v.toInt / ((2 ^ c : Nat) : Int) := by
  have e : (v >>> ((nI c).toInt64 &&& 63)).toBitVec = v.toBitVec.sshiftRight c := by
    rw [Int64.toBitVec_shiftRight, BitVec.sshiftRight_eq', sh_c c hc]
  show (v >>> ((nI c).toInt64 &&& 63)).toBitVec.toInt = _
  rw [e, BitVec.toInt_sshiftRight, Int.shiftRight_eq_div_pow]
  rfl
theorem i64_lo (v : Int64) : -9223372036854775808 ≤ v.toInt ∧ v.toInt < 9223372036854775808 := ⟨v.le_toInt, v.toInt_lt⟩
theorem fit_rng {v : Int64} {w : Nat} (h1 : 1 ≤ w) (h8 : w ≤ 7) (h : fitB v w = true) : -((2 ^ (8 * w - 1) : Nat) : Int) ≤ v.toInt ∧ v.toInt < ((2 ^ (8 * w - 1) : Nat) : Int) := by
  have e := of_decide_eq_true h
  have e2 := congrArg Int64.toInt e
  rw [shr_int _ (by omega)] at e2
  generalize (v <<< ((nI (64 - 8 * w)).toInt64 &&& 63)) = y at e2
  have hy := i64_lo y
  rcases (show w = 1 ∨ w = 2 ∨ w = 3 ∨ w = 4 ∨ w = 5 ∨ w = 6 ∨ w = 7 by omega) with rfl | rfl | rfl | rfl | rfl | rfl | rfl <;> simp only [Nat.reduceMul, Nat.reduceSub, Nat.reducePow] at e2 ⊢ <;> omega
theorem wdF_rng {v : Int64} : ∀ (d w : Nat), w + d = 8 → 1 ≤ w → ∃ u, u = wdF v w d ∧ 1 ≤ u ∧ u ≤ 8 ∧ -((2 ^ (8 * u - 1) : Nat) : Int) ≤ v.toInt ∧ v.toInt < ((2 ^ (8 * u - 1) : Nat) : Int)
  | 0, w, h, h1 => ⟨8, rfl, by decide, by decide, by have := i64_lo v; exact this⟩
  | d + 1, w, h, h1 => by
    unfold wdF
    split
    next q =>
      exact ⟨w, rfl, h1, by omega, fit_rng h1 (by omega) q⟩
    · exact wdF_rng d (w + 1) (by omega) (by omega)
theorem wd_rng {v : Int64} {w : Nat} (h : wd v ≤ w) (h1 : 1 ≤ w) (h8 : w ≤ 8) : -((2 ^ (8 * w - 1) : Nat) : Int) ≤ v.toInt ∧ v.toInt < ((2 ^ (8 * w - 1) : Nat) : Int) := by
  unfold wd at h
  split at h
  next q =>
    subst q
    have : (0 : Int64).toInt = 0 := rfl
    rw [this]
    have := Nat.pow_pos (n := 8 * w - 1) (show 0 < 2 by decide)
    omega
  · obtain ⟨u, e, u1, u8, r1, r2⟩ := wdF_rng (v := v) 7 1 rfl (by decide)
    rw [← e] at h
    have : 2 ^ (8 * u - 1) ≤ 2 ^ (8 * w - 1) := Nat.pow_le_pow_right (by decide) (by omega)
    omega
theorem wd_00 {v : Int64} (h : wd v = 0) : v = 0 := by
  unfold wd at h
  split at h
  · assumption
  · obtain ⟨u, e, u1, -⟩ := wdF_rng (v := v) 7 1 rfl (by decide)
    omega
theorem nI_int {c : Nat} (h : c < 2147483648) : (nI c).toInt = (c : Int) := by
  show (BitVec.ofNat 32 c).toInt = _
  rw [BitVec.toInt_eq_toNat_cond, BitVec.toNat_ofNat, Nat.mod_eq_of_lt (by omega), if_pos (by omega)]
theorem byt_nI (v : Int64) {i : Nat} (hi : i ≤ 7) : byt v i = nI ((v.toInt / ((2 ^ (8 * i) : Nat) : Int)) % 256).toNat := by
  have hx := shr_int v (show 8 * i < 64 by omega)
  unfold byt
  generalize v >>> ((nI (8 * i)).toInt64 &&& 63) = x at hx ⊢
  rw [← hx]
  have hn : (x &&& 255).toBitVec.toNat = (x.toInt % 256).toNat := by
    have h1 : (x &&& 255).toBitVec = x.toBitVec &&& 255#64 := rfl
    rw [h1, BitVec.toNat_and, show (255#64).toNat = 2 ^ 8 - 1 from rfl, Nat.and_two_pow_sub_one_eq_mod]
    show _ = (x.toBitVec.toInt % 256).toNat
    rw [BitVec.toInt_eq_toNat_cond]
    have hl := x.toBitVec.isLt
    split <;> omega
  have hc : (x.toInt % 256).toNat < 256 := by omega
  have hi : (x &&& 255).toInt = ((x.toInt % 256).toNat : Int) := by
    show (x &&& 255).toBitVec.toInt = _
    rw [BitVec.toInt_eq_toNat_cond, hn, if_pos (by omega)]
  apply Int32.toInt_inj.mp
  rw [Int64.toInt_toInt32, hi, nI_int (by omega)]
  generalize (x.toInt % 256).toNat = c at hc
  rw [Int.bmod_eq_of_le (by omega) (by omega)]
/-- a byte behind what was told -/
theorem tel_or {x : Int64} {c : Nat} (hc : c < 256) (h1 : -36028797018963968 ≤ x.toInt) (h2 : x.toInt < 36028797018963968) : ((x <<< ((8 : Int32).toInt64 &&& 63)) ||| (nI c).toInt64).toInt = x.toInt * 256 + c := by
  have e1 : (x <<< ((8 : Int32).toInt64 &&& 63)).toBitVec = x.toBitVec <<< 8 := by
    rw [Int64.toBitVec_shiftLeft, BitVec.shiftLeft_eq']
    rfl
  have e2 : (nI c).toInt64.toBitVec = BitVec.ofNat 64 c := by
    apply BitVec.eq_of_toInt_eq
    show (nI c).toInt64.toInt = _
    rw [Int32.toInt_toInt64, nI_int (by omega), BitVec.toInt_eq_toNat_cond, BitVec.toNat_ofNat, Nat.mod_eq_of_lt (by omega), if_pos (by omega)]
  show ((x <<< ((8 : Int32).toInt64 &&& 63)) ||| (nI c).toInt64).toBitVec.toInt = _
  rw [Int64.toBitVec_or, e1, e2, ← BitVec.add_eq_or_of_and_eq_zero]
  · rw [BitVec.toInt_add, BitVec.toInt_shiftLeft, Nat.shiftLeft_eq]
    have e3 : (BitVec.ofNat 64 c).toInt = (c : Int) := by rw [BitVec.toInt_eq_toNat_cond, BitVec.toNat_ofNat, Nat.mod_eq_of_lt (by omega), if_pos (by omega)]
    rw [e3]
    have e4 : x.toInt = if 2 * x.toBitVec.toNat < 2 ^ 64 then (x.toBitVec.toNat : Int) else x.toBitVec.toNat - (2 ^ 64 : Nat) := BitVec.toInt_eq_toNat_cond _
    have hl := x.toBitVec.isLt
    generalize x.toBitVec.toNat = n at e4 hl
    generalize x.toInt = X at *
    simp only [Int.bmod_def]
    split at e4 <;> omega
  · apply BitVec.eq_of_getLsbD_eq
    intro i hi
    rw [BitVec.getLsbD_and, BitVec.getLsbD_shiftLeft, BitVec.getLsbD_ofNat, BitVec.getLsbD_zero]
    by_cases q : i < 8
    · rw [decide_eq_true q]
      simp only [Bool.not_true, Bool.and_false, Bool.false_and]
    · have : c.testBit i = false := Nat.testBit_lt_two_pow (Nat.lt_of_lt_of_le hc (by rw [show 256 = 2 ^ 8 from rfl]; exact Nat.pow_le_pow_right (by decide) (by omega)))
      rw [this]
      simp only [Bool.and_false]
theorem byts_at (v : Int64) : ∀ (w j : Nat), j < w → (byts v w)[j]? = some (byt v (w - 1 - j))
  | 0, j, h => absurd h (Nat.not_lt_zero j)
  | w + 1, 0, _ => rfl
  | w + 1, j + 1, h => by
    show (byts v w)[j]? = _
    rw [byts_at v w j (by omega)]
    congr 2
    omega
theorem nI_inj {a c : Nat} (ha : a < 2147483648) (hc : c < 2147483648) (h : nI a = nI c) : a = c := by
  have := congrArg Int32.toInt h
  rw [nI_int ha, nI_int hc] at this
  omega
theorem tel_rng {V : Int} {w i : Nat} (h1 : 1 ≤ i) (h2 : i < w) (h8 : w ≤ 8) (r1 : -((2 ^ (8 * w - 1) : Nat) : Int) ≤ V) (r2 : V < ((2 ^ (8 * w - 1) : Nat) : Int)) : -36028797018963968 ≤ V / ((2 ^ (8 * (w - i)) : Nat) : Int) ∧ V / ((2 ^ (8 * (w - i)) : Nat) : Int) < 36028797018963968 := by
  have hw : w = i + (w - i) := by omega
  generalize w - i = d at hw ⊢
  subst hw
  have e : 2 ^ (8 * (i + d) - 1) = 2 ^ (8 * i - 1) * 2 ^ (8 * d) := by rw [← Nat.pow_add]; congr 1; omega
  rw [e] at r1 r2
  have hp : 2 ^ (8 * i - 1) ≤ 2 ^ 55 := Nat.pow_le_pow_right (by decide) (by omega)
  have hq : 0 < 2 ^ (8 * d) := Nat.pow_pos (by decide)
  generalize 2 ^ (8 * i - 1) = P at r1 r2 hp
  generalize 2 ^ (8 * d) = Q at r1 r2 hq
  have hq' : (0 : Int) < (Q : Int) := by omega
  rw [Int.natCast_mul] at r1 r2
  constructor
  · refine Int.le_trans (show (-36028797018963968 : Int) ≤ -(P : Int) by omega) ?_
    rw [Int.le_ediv_iff_mul_le hq']
    rw [Int.neg_mul]
    exact r1
  · refine Int.lt_of_lt_of_le (show V / (Q : Int) < (P : Int) from ?_) (by omega)
    rw [Int.ediv_lt_iff_lt_mul hq']
    exact r2
theorem tld_ok {b : Nat → Nat} {a w : Nat} {v : Int64} (hw1 : 1 ≤ w) (hw : w ≤ 8) (hv : wd v ≤ w) (hb : ∀ j, j < w → nI (b (a + j)) = byt v (w - 1 - j) ∧ b (a + j) ≤ 255) : ∀ i, i < w → (tld b a (i + 1)).toInt = v.toInt / ((2 ^ (8 * (w - (i + 1))) : Nat) : Int) := by
  obtain ⟨r1, r2⟩ := wd_rng hv hw1 hw
  have hbn : ∀ j, j < w → b (a + j) = ((v.toInt / ((2 ^ (8 * (w - 1 - j)) : Nat) : Int)) % 256).toNat := fun j hj => by
    obtain ⟨h1, h2⟩ := hb j hj
    rw [byt_nI v (by omega)] at h1
    exact nI_inj (by omega) (by omega) h1
  intro i
  induction i with
  | zero =>
    intro _
    have h0 := hbn 0 hw1
    rw [Nat.add_zero, Nat.sub_zero] at h0
    have ⟨_, hb5⟩ := hb 0 hw1
    rw [Nat.add_zero] at hb5
    rw [tld, if_pos rfl, Int32.toInt_toInt64, Int8.toInt_toInt32, Int32.toInt_toInt8, nI_int (by omega)]
    have e : 2 ^ (8 * w - 1) = 128 * 2 ^ (8 * (w - 1)) := by rw [show (128 : Nat) = 2 ^ 7 from rfl, ← Nat.pow_add]; congr 1; omega
    rw [e] at r1 r2
    have hq : 0 < 2 ^ (8 * (w - 1)) := Nat.pow_pos (by decide)
    rw [show 0 + 1 = 1 from rfl]
    generalize 2 ^ (8 * (w - 1)) = Q at *
    have hq' : (0 : Int) < (Q : Int) := by omega
    rw [Int.natCast_mul] at r1 r2
    have c1 : -128 ≤ v.toInt / (Q : Int) := by rw [Int.le_ediv_iff_mul_le hq', Int.neg_mul]; exact r1
    have c2 : v.toInt / (Q : Int) < 128 := by rw [Int.ediv_lt_iff_lt_mul hq']; exact r2
    generalize v.toInt / (Q : Int) = Y at *
    rw [h0]
    simp only [Int.bmod_def]
    split <;> omega
  | succ i ih =>
    intro hi
    have h1 := ih (by omega)
    have ⟨hr1, hr2⟩ := tel_rng (V := v.toInt) (w := w) (i := i + 1) (by omega) hi hw r1 r2
    have hj := hbn (i + 1) hi
    have ⟨_, hb5⟩ := hb (i + 1) hi
    rw [tld, if_neg (by omega), tel_or (by omega) (by rw [h1]; exact hr1) (by rw [h1]; exact hr2), h1, hj]
    rw [show w - 1 - (i + 1) = w - (i + 1 + 1) by omega]
    have e : 2 ^ (8 * (w - (i + 1))) = 2 ^ (8 * (w - (i + 1 + 1))) * 256 := by rw [show (256 : Nat) = 2 ^ 8 from rfl, ← Nat.pow_add]; congr 1; omega
    rw [e, Int.natCast_mul, ← Int.ediv_ediv_of_nonneg (by omega)]
    generalize v.toInt / ((2 ^ (8 * (w - (i + 1 + 1))) : Nat) : Int) = Y
    omega
theorem tld_v {b : Nat → Nat} {a w : Nat} {v : Int64} (hw : w ≤ 8) (hv : wd v ≤ w) (hb : ∀ j, j < w → nI (b (a + j)) = byt v (w - 1 - j) ∧ b (a + j) ≤ 255) : tld b a w = v := by
  cases w with
  | zero =>
    rw [wd_00 (Nat.le_zero.mp hv)]
    rfl
  | succ w =>
    apply Int64.toInt_inj.mp
    rw [tld_ok (by omega) hw hv hb w (Nat.lt_succ_self w), Nat.sub_self]
    show v.toInt / 1 = _
    rw [Int.ediv_one]
def AtB (b : Nat → Nat) (a : Nat) (B : List Int32) : Prop := ∀ i, i < B.length → B[i]? = some (nI (b (a + i))) ∧ b (a + i) ≤ 255
theorem AtB.l {b : Nat → Nat} {a : Nat} {A B : List Int32} (h : AtB b a (A ++ B)) : AtB b a A := fun i hi => by
  have := h i (by rw [List.length_append]; omega)
  rwa [List.getElem?_append_left hi] at this
theorem AtB.r {b : Nat → Nat} {a : Nat} {A B : List Int32} (h : AtB b a (A ++ B)) : AtB b (a + A.length) B := fun i hi => by
  have := h (A.length + i) (by rw [List.length_append]; omega)
  rwa [List.getElem?_append_right (Nat.le_add_right _ _), Nat.add_sub_cancel_left, ← Nat.add_assoc] at this
theorem AtB.cons {b : Nat → Nat} {a : Nat} {x : Int32} {B : List Int32} (h : AtB b a (x :: B)) : x = nI (b a) ∧ b a ≤ 255 ∧ AtB b (a + 1) B := by
  have h0 := h 0 (by rw [List.length_cons]; omega)
  refine ⟨Option.some.inj h0.1, h0.2, fun i hi => ?_⟩
  have := h (i + 1) (by rw [List.length_cons]; omega)
  rw [List.getElem?_cons_succ, show a + (i + 1) = a + 1 + i by omega] at this
  exact this
theorem rdVal_rt {b : Nat → Nat} {e a w : Nat} {kd : Int32} {base v y : Int64} (h : AtB b a (byts v w)) (hw : w ≤ 8) (hv : wd v ≤ w) (he : a + w ≤ e) (hy : base + v = y) (hk : isVal kd y = true) : rdVal b e a kd w base = .inr y := by
  have ht : tld b a w = v := tld_v hw hv fun j hj => by
    obtain ⟨h1, h2⟩ := h j (by rw [byts_len]; exact hj)
    rw [byts_at v w j hj] at h1
    exact ⟨(Option.some.inj h1).symm, h2⟩
  unfold rdVal
  rw [if_neg (by omega), ht, hy, if_pos hk]
def chP (f : Nat → Int64) (md w d j : Nat) : List Int32 := if md = 1 ∧ 0 < j then byts (f j - f (j - 1)) d else byts (f j) w
theorem AtB.bp {b : Nat → Nat} {a : Nat} {f : Nat → Int64} {md w d : Nat} : ∀ {n : Nat}, AtB b a (bpL f md w d n) → ∀ j, j < n → AtB b (a + (bpL f md w d j).length) (chP f md w d j)
  | 0, _, j, hj => absurd hj (Nat.not_lt_zero j)
  | n + 1, h, j, hj => by
    have h' : AtB b a (bpL f md w d n ++ chP f md w d n) := h
    by_cases q : j < n
    · exact AtB.bp h'.l j q
    · obtain rfl : j = n := by omega
      exact h'.r
theorem bpL_s (f : Nat → Int64) (md w d j : Nat) : (bpL f md w d (j + 1)).length = (bpL f md w d j).length + (if md = 1 ∧ 0 < j then d else w) := by
  rw [bpL, List.length_append]
  split
  · rw [byts_len]
  · rw [byts_len]
theorem bpL_mono (f : Nat → Int64) (md w d : Nat) {i j : Nat} (h : i ≤ j) : (bpL f md w d i).length ≤ (bpL f md w d j).length := by
  induction h with
  | refl => exact Nat.le_refl _
  | step _ ih => rw [bpL_s]; omega
theorem rdP_rt {b : Nat → Nat} {e a n md w d : Nat} {kd : Int32} {f : Nat → Int64} (hw : w ≤ 8) (hd : d ≤ 8) (hb : AtB b a (bpL f md w d n)) (hwd : ∀ j, j < n → if md = 1 ∧ 0 < j then wd (f j - f (j - 1)) ≤ d else wd (f j) ≤ w) (hv : ∀ j, j < n → isVal kd (f j) = true) (he : a + (bpL f md w d n).length ≤ e) : ∀ (r i : Nat) (prev : Int64), i + r = n → (0 < i → prev = f (i - 1)) → rdP b e kd md w d r i (a + (bpL f md w d i).length) prev = .inr ((List.range' i r).map (fun j => (kd, f j)), a + (bpL f md w d n).length) := by
  intro r
  induction r with
  | zero =>
    intro i prev hi hp
    obtain rfl : i = n := by omega
    rfl
  | succ r ih =>
    intro i prev hi hp
    have hc := hb.bp i (by omega)
    have hwi := hwd i (by omega)
    have hs := bpL_s f md w d i
    have hm := bpL_mono f md w d (show i + 1 ≤ n by omega)
    have hn := ih (i + 1) (f i) (by omega) fun _ => by rw [Nat.add_sub_cancel]
    unfold chP at hc
    rw [rdP, List.range'_succ, List.map_cons]
    by_cases q : md = 1 ∧ 0 < i
    · simp only [if_pos q] at hc hwi hs ⊢
      rw [rdVal_rt hc hd hwi (by omega) (show prev + (f i - f (i - 1)) = f i by rw [hp q.2, Int64.add_comm, Int64.sub_add_cancel]) (hv i (by omega))]
      rw [hs, ← Nat.add_assoc] at hn
      simp only [hn]
    · simp only [if_neg q] at hc hwi hs ⊢
      rw [rdVal_rt hc hw hwi (by omega) (Int64.zero_add _) (hv i (by omega))]
      rw [hs, ← Nat.add_assoc] at hn
      simp only [hn]
theorem rep_map {α : Type} {f : Nat → α} {x : α} : ∀ (n b : Nat), (∀ j, b ≤ j → j < b + n → f j = x) → (List.range' b n).map f = List.replicate n x
  | 0, _, _ => rfl
  | n + 1, b, h => by
    rw [List.range'_succ, List.map_cons, List.replicate_succ, h b (Nat.le_refl _) (by omega), rep_map n (b + 1) fun j h1 h2 => h j (by omega) (by omega)]
theorem rdR_rt {b : Nat → Nat} {e n w : Nat} {kd : Int32} {f : Nat → Int64} (hn : n ≤ 16) (hw : w ≤ 8) (hwd : ∀ j, j < n → wd (f j) ≤ w) (hv : ∀ j, j < n → isVal kd (f j) = true) : ∀ (d c a : Nat) (v0 : Int64), c + d < n → (∀ j, c ≤ j → j < n - d → f j = f c) → AtB b a (ruS f w n d c) → a + (ruS f w n d c).length ≤ e → rdR b e kd w (n - c) 0 a v0 = .inr ((List.range' c (n - c)).map (fun j => (kd, f j)), a + (ruS f w n d c).length) := by
  intro d
  induction d with
  | zero =>
    intro c a v0 hc hf hb he
    rw [ruS] at hb he ⊢
    obtain ⟨h1, h2, h3⟩ := hb.cons
    have h4 : n - c = b a := nI_inj (by omega) (by omega) h1
    rw [List.length_cons, byts_len] at he ⊢
    obtain ⟨r, hr⟩ : ∃ r, n - c = r + 1 := ⟨n - c - 1, by omega⟩
    rw [hr] at h4 ⊢
    rw [rdR, if_pos rfl, if_neg (by omega), if_neg (by omega), rdVal_rt h3 hw (hwd c (by omega)) (by omega) (Int64.zero_add _) (hv c (by omega))]
    have e1 : b a - 1 = r := by omega
    rw [e1]
    simp only [rdR_skip r r _ _ (Nat.le_refl r), Nat.sub_self]
    rw [rdR]
    simp only [List.append_nil]
    rw [rep_map (x := (kd, f c)) (r + 1) c fun j j1 j2 => by rw [hf j j1 (by omega)], List.replicate_succ]
    congr 2
    omega
  | succ d ih =>
    intro c a v0 hc hf hb he
    rw [ruS] at hb he ⊢
    by_cases q : f (n - (d + 1)) = f c
    · rw [if_pos q] at hb he ⊢
      refine ih c a v0 (by omega) (fun j j1 j2 => ?_) hb he
      by_cases z : j = n - (d + 1)
      · rw [z]; exact q
      · exact hf j j1 (by omega)
    · rw [if_neg q] at hb he ⊢
      have hlt : c < n - (d + 1) := by
        rcases Nat.lt_or_ge c (n - (d + 1)) with z | z
        · exact z
        · have : n - (d + 1) = c := by omega
          rw [this] at q
          exact absurd rfl q
      obtain ⟨h1, h2, h3⟩ := hb.cons
      have h4 : n - (d + 1) - c = b a := nI_inj (by omega) (by omega) h1
      have h5 := h3.r
      rw [byts_len] at h5
      rw [List.length_cons, List.length_append, byts_len] at he ⊢
      obtain ⟨r, hr⟩ : ∃ r, n - c = r + 1 := ⟨n - c - 1, by omega⟩
      have hi := ih (n - (d + 1)) (a + 1 + w) (f c) (by omega) (fun j j1 j2 => by rw [show j = n - (d + 1) by omega]) h5 (by omega)
      rw [hr, rdR, if_pos rfl, if_neg (by omega), if_neg (by omega), rdVal_rt h3.l hw (hwd c (by omega)) (by omega) (Int64.zero_add _) (hv c (by omega))]
      simp only [rdR_skip (b a - 1) r _ _ (by omega)]
      rw [show r - (b a - 1) = n - (n - (d + 1)) by omega, hi]
      simp only []
      have e2 : r + 1 = (b a - 1 + 1) + (n - (n - (d + 1))) := by omega
      rw [e2, List.range'_append_1.symm, List.map_append, rep_map (x := (kd, f c)) (b a - 1 + 1) c fun j j1 j2 => by rw [hf j j1 (by omega)], List.replicate_succ]
      exact ()
