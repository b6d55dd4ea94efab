/-! what is packed is read back -/
theorem sh_c : ∀ c, c < 64 → (((nI c).toInt64 &&& 63).toBitVec.smod 64).toNat = c := by decide +kernel
theorem shr_int (v : Int64) {c : Nat} (hc : c < 64) : (v >>> ((nI c).toInt64 &&& 63)).toInt = v.toInt / ((2 ^ c : Nat) : Int) := by
  have e : (v >>> ((nI c).toInt64 &&& 63)).toBitVec = v.toBitVec.sshiftRight c := by
    rw [Int64.toBitVec_shiftRight, BitVec.sshiftRight_eq', sh_c c hc]
  show (v >>> ((nI c).toInt64 &&& 63)).toBitVec.toInt = _
  rw [e, BitVec.toInt_sshiftRight, Int.shiftRight_eq_div_pow]
  rfl
theorem i64_lo (v : Int64) : -9223372036854775808 ≤ v.toInt ∧ v.toInt < 9223372036854775808 := ⟨v.le_toInt, v.toInt_lt⟩
theorem fit_rng {v : Int64} {w : Nat} (h1 : 1 ≤ w) (h8 : w ≤ 7) (h : fitB v w = true) : -((2 ^ (8 * w - 1) : Nat) : Int) ≤ v.toInt ∧ v.toInt < ((2 ^ (8 * w - 1) : Nat) : Int) := by
  have e := of_decide_eq_true h
  have e2 := congrArg Int64.toInt e
  rw [shr_int _ (by omega)] at e2
  generalize (v <<< ((nI (64 - 8 * w)).toInt64 &&& 63)) = y at e2
  have hy := i64_lo y
  rcases (show w = 1 ∨ w = 2 ∨ w = 3 ∨ w = 4 ∨ w = 5 ∨ w = 6 ∨ w = 7 by omega) with rfl | rfl | rfl | rfl | rfl | rfl | rfl <;> simp only [Nat.reduceMul, Nat.reduceSub, Nat.reducePow] at e2 ⊢ <;> omega
theorem wdF_rng {v : Int64} : ∀ (d w : Nat), w + d = 8 → 1 ≤ w → ∃ u, u = wdF v w d ∧ 1 ≤ u ∧ u ≤ 8 ∧ -((2 ^ (8 * u - 1) : Nat) : Int) ≤ v.toInt ∧ v.toInt < ((2 ^ (8 * u - 1) : Nat) : Int)
  | 0, w, h, h1 => ⟨8, rfl, by decide, by decide, by have := i64_lo v; exact this⟩
  | d + 1, w, h, h1 => by
    unfold wdF
    split
    next q =>
      exact ⟨w, rfl, h1, by omega, fit_rng h1 (by omega) q⟩
    · exact wdF_rng d (w + 1) (by omega) (by omega)
theorem wd_rng {v : Int64} {w : Nat} (h : wd v ≤ w) (h1 : 1 ≤ w) (h8 : w ≤ 8) : -((2 ^ (8 * w - 1) : Nat) : Int) ≤ v.toInt ∧ v.toInt < ((2 ^ (8 * w - 1) : Nat) : Int) := by
  unfold wd at h
  split at h
  next q =>
    subst q
    have : (0 : Int64).toInt = 0 := rfl
    rw [this]
    have := Nat.pow_pos (n := 8 * w - 1) (show 0 < 2 by decide)
    omega
  · obtain ⟨u, e, u1, u8, r1, r2⟩ := wdF_rng (v := v) 7 1 rfl (by decide)
    rw [← e] at h
    have : 2 ^ (8 * u - 1) ≤ 2 ^ (8 * w - 1) := Nat.pow_le_pow_right (by decide) (by omega)
    omega
theorem wd_00 {v : Int64} (h : wd v = 0) : v = 0 := by
  unfold wd at h
  split at h
  · assumption
  · obtain ⟨u, e, u1, -⟩ := wdF_rng (v := v) 7 1 rfl (by decide)
    omega
theorem nI_int {c : Nat} (h : c < 2147483648) : (nI c).toInt = (c : Int) := by
  show (BitVec.ofNat 32 c).toInt = _
  rw [BitVec.toInt_eq_toNat_cond, BitVec.toNat_ofNat, Nat.mod_eq_of_lt (by omega), if_pos (by omega)]
theorem byt_nI (v : Int64) {i : Nat} (hi : i ≤ 7) : byt v i = nI ((v.toInt / ((2 ^ (8 * i) : Nat) : Int)) % 256).toNat := by
  have hx := shr_int v (show 8 * i < 64 by omega)
  unfold byt
  generalize v >>> ((nI (8 * i)).toInt64 &&& 63) = x at hx ⊢
  rw [← hx]
  have hn : (x &&& 255).toBitVec.toNat = (x.toInt % 256).toNat := by
    have h1 : (x &&& 255).toBitVec = x.toBitVec &&& 255#64 := rfl
    rw [h1, BitVec.toNat_and, show (255#64).toNat = 2 ^ 8 - 1 from rfl, Nat.and_two_pow_sub_one_eq_mod]
    show _ = (x.toBitVec.toInt % 256).toNat
    rw [BitVec.toInt_eq_toNat_cond]
    have hl := x.toBitVec.isLt
    split <;> omega
  have hc : (x.toInt % 256).toNat < 256 := by omega
  have hi : (x &&& 255).toInt = ((x.toInt % 256).toNat : Int) := by
    show (x &&& 255).toBitVec.toInt = _
    rw [BitVec.toInt_eq_toNat_cond, hn, if_pos (by omega)]
  apply Int32.toInt_inj.mp
  rw [Int64.toInt_toInt32, hi, nI_int (by omega)]
  generalize (x.toInt % 256).toNat = c at hc
  rw [Int.bmod_eq_of_le (by omega) (by omega)]
/-- a byte behind what was told -/
theorem tel_or {x : Int64} {c : Nat} (hc : c < 256) (h1 : -36028797018963968 ≤ x.toInt) (h2 : x.toInt < 36028797018963968) : ((x <<< ((8 : Int32).toInt64 &&& 63)) ||| (nI c).toInt64).toInt = x.toInt * 256 + c := by
  have e1 : (x <<< ((8 : Int32).toInt64 &&& 63)).toBitVec = x.toBitVec <<< 8 := by
    rw [Int64.toBitVec_shiftLeft, BitVec.shiftLeft_eq']
    rfl
  have e2 : (nI c).toInt64.toBitVec = BitVec.ofNat 64 c := by
    apply BitVec.eq_of_toInt_eq
    show (nI c).toInt64.toInt = _
    rw [Int32.toInt_toInt64, nI_int (by omega), BitVec.toInt_eq_toNat_cond, BitVec.toNat_ofNat, Nat.mod_eq_of_lt (by omega), if_pos (by omega)]
  show ((x <<< ((8 : Int32).toInt64 &&& 63)) ||| (nI c).toInt64).toBitVec.toInt = _
  rw [Int64.toBitVec_or, e1, e2, ← BitVec.add_eq_or_of_and_eq_zero]
  · rw [BitVec.toInt_add, BitVec.toInt_shiftLeft, Nat.shiftLeft_eq]
    have e3 : (BitVec.ofNat 64 c).toInt = (c : Int) := by rw [BitVec.toInt_eq_toNat_cond, BitVec.toNat_ofNat, Nat.mod_eq_of_lt (by omega), if_pos (by omega)]
    rw [e3]
    have e4 : x.toInt = if 2 * x.toBitVec.toNat < 2 ^ 64 then (x.toBitVec.toNat : Int) else x.toBitVec.toNat - (2 ^ 64 : Nat) := BitVec.toInt_eq_toNat_cond _
    have hl := x.toBitVec.isLt
    generalize x.toBitVec.toNat = n at e4 hl
    generalize x.toInt = X at *
    simp only [Int.bmod_def]
    split at e4 <;> omega
  · apply BitVec.eq_of_getLsbD_eq
    intro i hi
    rw [BitVec.getLsbD_and, BitVec.getLsbD_shiftLeft, BitVec.getLsbD_ofNat, BitVec.getLsbD_zero]
    by_cases q : i < 8
    · rw [decide_eq_true q]
      simp only [Bool.not_true, Bool.and_false, Bool.false_and]
    · have : c.testBit i = false := Nat.testBit_lt_two_pow (Nat.lt_of_lt_of_le hc (by rw [show 256 = 2 ^ 8 from rfl]; exact Nat.pow_le_pow_right (by decide) (by omega)))
      rw [this]
      simp only [Bool.and_false]
theorem byts_at (v : Int64) : ∀ (w j : Nat), j < w → (byts v w)[j]? = some (byt v (w - 1 - j))
  | 0, j, h => absurd h (Nat.not_lt_zero j)
  | w + 1, 0, _ => rfl
  | w + 1, j + 1, h => by
    show (byts v w)[j]? = _
    rw [byts_at v w j (by omega)]
    congr 2
    omega
theorem nI_inj {a c : Nat} (ha : a < 2147483648) (hc : c < 2147483648) (h : nI a = nI c) : a = c := by
  have := congrArg Int32.toInt h
  rw [nI_int ha, nI_int hc] at this
  omega
theorem tel_rng {V : Int} {w i : Nat} (h1 : 1 ≤ i) (h2 : i < w) (h8 : w ≤ 8) (r1 : -((2 ^ (8 * w - 1) : Nat) : Int) ≤ V) (r2 : V < ((2 ^ (8 * w - 1) : Nat) : Int)) : -36028797018963968 ≤ V / ((2 ^ (8 * (w - i)) : Nat) : Int) ∧ V / ((2 ^ (8 * (w - i)) : Nat) : Int) < 36028797018963968 := by
  have hw : w = i + (w - i) := by omega
  generalize w - i = d at hw ⊢
  subst hw
  have e : 2 ^ (8 * (i + d) - 1) = 2 ^ (8 * i - 1) * 2 ^ (8 * d) := by rw [← Nat.pow_add]; congr 1; omega
  rw [e] at r1 r2
  have hp : 2 ^ (8 * i - 1) ≤ 2 ^ 55 := Nat.pow_le_pow_right (by decide) (by omega)
  have hq : 0 < 2 ^ (8 * d) := Nat.pow_pos (by decide)
  generalize 2 ^ (8 * i - 1) = P at r1 r2 hp
  generalize 2 ^ (8 * d) = Q at r1 r2 hq
  have hq' : (0 : Int) < (Q : Int) := by omega
  rw [Int.natCast_mul] at r1 r2
  constructor
  · refine Int.le_trans (show (-36028797018963968 : Int) ≤ -(P : Int) by omega) ?_
    rw [Int.le_ediv_iff_mul_le hq']
    rw [Int.neg_mul]
    exact r1
  · refine Int.lt_of_lt_of_le (show V / (Q : Int) < (P : Int) from ?_) (by omega)
    rw [Int.ediv_lt_iff_lt_mul hq']
    exact r2
theorem tld_ok {b : Nat → Nat} {a w : Nat} {v : Int64} (hw1 : 1 ≤ w) (hw : w ≤ 8) (hv : wd v ≤ w) (hb : ∀ j, j < w → nI (b (a + j)) = byt v (w - 1 - j) ∧ b (a + j) ≤ 255) : ∀ i, i < w → (tld b a (i + 1)).toInt = v.toInt / ((2 ^ (8 * (w - (i + 1))) : Nat) : Int) := by
  obtain ⟨r1, r2⟩ := wd_rng hv hw1 hw
  have hbn : ∀ j, j < w → b (a + j) = ((v.toInt / ((2 ^ (8 * (w - 1 - j)) : Nat) : Int)) % 256).toNat := fun j hj => by
    obtain ⟨h1, h2⟩ := hb j hj
    rw [byt_nI v (by omega)] at h1
    exact nI_inj (by omega) (by omega) h1
  intro i
  induction i with
  | zero =>
    intro _
    have h0 := hbn 0 hw1
    rw [Nat.add_zero, Nat.sub_zero] at h0
    have ⟨_, hb5⟩ := hb 0 hw1
    rw [Nat.add_zero] at hb5
    rw [tld, if_pos rfl, Int32.toInt_toInt64, Int8.toInt_toInt32, Int32.toInt_toInt8, nI_int (by omega)]
    have e : 2 ^ (8 * w - 1) = 128 * 2 ^ (8 * (w - 1)) := by rw [show (128 : Nat) = 2 ^ 7 from rfl, ← Nat.pow_add]; congr 1; omega
    rw [e] at r1 r2
    have hq : 0 < 2 ^ (8 * (w - 1)) := Nat.pow_pos (by decide)
    rw [show 0 + 1 = 1 from rfl]
    generalize 2 ^ (8 * (w - 1)) = Q at *
    have hq' : (0 : Int) < (Q : Int) := by omega
    rw [Int.natCast_mul] at r1 r2
    have c1 : -128 ≤ v.toInt / (Q : Int) := by rw [Int.le_ediv_iff_mul_le hq', Int.neg_mul]; exact r1
    have c2 : v.toInt / (Q : Int) < 128 := by rw [Int.ediv_lt_iff_lt_mul hq']; exact r2
    generalize v.toInt / (Q : Int) = Y at *
    rw [h0]
    simp only [Int.bmod_def]
    split <;> omega
  | succ i ih =>
    intro hi
    have h1 := ih (by omega)
    have ⟨hr1, hr2⟩ := tel_rng (V := v.toInt) (w := w) (i := i + 1) (by omega) hi hw r1 r2
    have hj := hbn (i + 1) hi
    have ⟨_, hb5⟩ := hb (i + 1) hi
    rw [tld, if_neg (by omega), tel_or (by omega) (by rw [h1]; exact hr1) (by rw [h1]; exact hr2), h1, hj]
    rw [show w - 1 - (i + 1) = w - (i + 1 + 1) by omega]
    have e : 2 ^ (8 * (w - (i + 1))) = 2 ^ (8 * (w - (i + 1 + 1))) * 256 := by rw [show (256 : Nat) = 2 ^ 8 from rfl, ← Nat.pow_add]; congr 1; omega
    rw [e, Int.natCast_mul, ← Int.ediv_ediv_of_nonneg (by omega)]
    generalize v.toInt / ((2 ^ (8 * (w - (i + 1 + 1))) : Nat) : Int) = Y
    omega
theorem tld_v {b : Nat → Nat} {a w : Nat} {v : Int64} (hw : w ≤ 8) (hv : wd v ≤ w) (hb : ∀ j, j < w → nI (b (a + j)) = byt v (w - 1 - j) ∧ b (a + j) ≤ 255) : tld b a w = v := by
  cases w with
  | zero =>
    rw [wd_00 (Nat.le_zero.mp hv)]
    rfl
  | succ w =>
    apply Int64.toInt_inj.mp
    rw [tld_ok (by omega) hw hv hb w (Nat.lt_succ_self w), Nat.sub_self]
    show v.toInt / 1 = _
    rw [Int.ediv_one]
def AtB (b : Nat → Nat) (a : Nat) (B : List Int32) : Prop := ∀ i, i < B.length → B[i]? = some (nI (b (a + i))) ∧ b (a + i) ≤ 255
theorem AtB.l {b : Nat → Nat} {a : Nat} {A B : List Int32} (h : AtB b a (A ++ B)) : AtB b a A := fun i hi => by
  have := h i (by rw [List.length_append]; omega)
  rwa [List.getElem?_append_left hi] at this
theorem AtB.r {b : Nat → Nat} {a : Nat} {A B : List Int32} (h : AtB b a (A ++ B)) : AtB b (a + A.length) B := fun i hi => by
  have := h (A.length + i) (by rw [List.length_append]; omega)
  rwa [List.getElem?_append_right (Nat.le_add_right _ _), Nat.add_sub_cancel_left, ← Nat.add_assoc] at this
theorem AtB.cons {b : Nat → Nat} {a : Nat} {x : Int32} {B : List Int32} (h : AtB b a (x :: B)) : x = nI (b a) ∧ b a ≤ 255 ∧ AtB b (a + 1) B := by
  have h0 := h 0 (by rw [List.length_cons]; omega)
  refine ⟨Option.some.inj h0.1, h0.2, fun i hi => ?_⟩
  have := h (i + 1) (by rw [List.length_cons]; omega)
  rw [List.getElem?_cons_succ, show a + (i + 1) = a + 1 + i by omega] at this
  exact this
theorem rdVal_rt {b : Nat → Nat} {e a w : Nat} {kd : Int32} {base v y : Int64} (h : AtB b a (byts v w)) (hw : w ≤ 8) (hv : wd v ≤ w) (he : a + w ≤ e) (hy : base + v = y) (hk : isVal kd y = true) : rdVal b e a kd w base = .inr y := by
  have ht : tld b a w = v := tld_v hw hv fun j hj => by
    obtain ⟨h1, h2⟩ := h j (by rw [byts_len]; exact hj)
    rw [byts_at v w j hj] at h1
    exact ⟨(Option.some.inj h1).symm, h2⟩
  unfold rdVal
  rw [if_neg (by omega), ht, hy, if_pos hk]
def chP (f : Nat → Int64) (md w d j : Nat) : List Int32 := if md = 1 ∧ 0 < j then byts (f j - f (j - 1)) d else byts (f j) w
theorem AtB.bp {b : Nat → Nat} {a : Nat} {f : Nat → Int64} {md w d : Nat} : ∀ {n : Nat}, AtB b a (bpL f md w d n) → ∀ j, j < n → AtB b (a + (bpL f md w d j).length) (chP f md w d j)
  | 0, _, j, hj => absurd hj (Nat.not_lt_zero j)
  | n + 1, h, j, hj => by
    have h' : AtB b a (bpL f md w d n ++ chP f md w d n) := h
    by_cases q : j < n
    · exact AtB.bp h'.l j q
    · obtain rfl : j = n := by omega
      exact h'.r
theorem bpL_s (f : Nat → Int64) (md w d j : Nat) : (bpL f md w d (j + 1)).length = (bpL f md w d j).length + (if md = 1 ∧ 0 < j then d else w) := by
  rw [bpL, List.length_append]
  split
  · rw [byts_len]
  · rw [byts_len]
theorem bpL_mono (f : Nat → Int64) (md w d : Nat) {i j : Nat} (h : i ≤ j) : (bpL f md w d i).length ≤ (bpL f md w d j).length := by
  induction h with
  | refl => exact Nat.le_refl _
  | step _ ih => rw [bpL_s]; omega
theorem rdP_rt {b : Nat → Nat} {e a n md w d : Nat} {kd : Int32} {f : Nat → Int64} (hw : w ≤ 8) (hd : d ≤ 8) (hb : AtB b a (bpL f md w d n)) (hwd : ∀ j, j < n → if md = 1 ∧ 0 < j then wd (f j - f (j - 1)) ≤ d else wd (f j) ≤ w) (hv : ∀ j, j < n → isVal kd (f j) = true) (he : a + (bpL f md w d n).length ≤ e) : ∀ (r i : Nat) (prev : Int64), i + r = n → (0 < i → prev = f (i - 1)) → rdP b e kd md w d r i (a + (bpL f md w d i).length) prev = .inr ((List.range' i r).map (fun j => (kd, f j)), a + (bpL f md w d n).length) := by
  intro r
  induction r with
  | zero =>
    intro i prev hi hp
    obtain rfl : i = n := by omega
    rfl
  | succ r ih =>
    intro i prev hi hp
    have hc := hb.bp i (by omega)
    have hwi := hwd i (by omega)
    have hs := bpL_s f md w d i
    have hm := bpL_mono f md w d (show i + 1 ≤ n by omega)
    have hn := ih (i + 1) (f i) (by omega) fun _ => by rw [Nat.add_sub_cancel]
    unfold chP at hc
    rw [rdP, List.range'_succ, List.map_cons]
    by_cases q : md = 1 ∧ 0 < i
    · simp only [if_pos q] at hc hwi hs ⊢
      rw [rdVal_rt hc hd hwi (by omega) (show prev + (f i - f (i - 1)) = f i by rw [hp q.2, Int64.add_comm, Int64.sub_add_cancel]) (hv i (by omega))]
      rw [hs, ← Nat.add_assoc] at hn
      simp only [hn]
    · simp only [if_neg q] at hc hwi hs ⊢
      rw [rdVal_rt hc hw hwi (by omega) (Int64.zero_add _) (hv i (by omega))]
      rw [hs, ← Nat.add_assoc] at hn
      simp only [hn]
theorem rep_map {α : Type} {f : Nat → α} {x : α} : ∀ (n b : Nat), (∀ j, b ≤ j → j < b + n → f j = x) → (List.range' b n).map f = List.replicate n x
  | 0, _, _ => rfl
  | n + 1, b, h => by
    rw [List.range'_succ, List.map_cons, List.replicate_succ, h b (Nat.le_refl _) (by omega), rep_map n (b + 1) fun j h1 h2 => h j (by omega) (by omega)]
theorem rdR_rt {b : Nat → Nat} {e n w : Nat} {kd : Int32} {f : Nat → Int64} (hn : n ≤ 16) (hw : w ≤ 8) (hwd : ∀ j, j < n → wd (f j) ≤ w) (hv : ∀ j, j < n → isVal kd (f j) = true) : ∀ (d c a : Nat) (v0 : Int64), c + d < n → (∀ j, c ≤ j → j < n - d → f j = f c) → AtB b a (ruS f w n d c) → a + (ruS f w n d c).length ≤ e → rdR b e kd w (n - c) 0 a v0 = .inr ((List.range' c (n - c)).map (fun j => (kd, f j)), a + (ruS f w n d c).length) := by
  intro d
  induction d with
  | zero =>
    intro c a v0 hc hf hb he
    rw [ruS] at hb he ⊢
    obtain ⟨h1, h2, h3⟩ := hb.cons
    have h4 : n - c = b a := nI_inj (by omega) (by omega) h1
    rw [List.length_cons, byts_len] at he ⊢
    obtain ⟨r, hr⟩ : ∃ r, n - c = r + 1 := ⟨n - c - 1, by omega⟩
    rw [hr] at h4 ⊢
    rw [rdR, if_pos rfl, if_neg (by omega), if_neg (by omega), rdVal_rt h3 hw (hwd c (by omega)) (by omega) (Int64.zero_add _) (hv c (by omega))]
    have e1 : b a - 1 = r := by omega
    rw [e1]
    simp only [rdR_skip r r _ _ (Nat.le_refl r), Nat.sub_self]
    rw [rdR]
    simp only [List.append_nil]
    rw [rep_map (x := (kd, f c)) (r + 1) c fun j j1 j2 => by rw [hf j j1 (by omega)], List.replicate_succ]
    congr 2
    omega
  | succ d ih =>
    intro c a v0 hc hf hb he
    rw [ruS] at hb he ⊢
    by_cases q : f (n - (d + 1)) = f c
    · rw [if_pos q] at hb he ⊢
      refine ih c a v0 (by omega) (fun j j1 j2 => ?_) hb he
      by_cases z : j = n - (d + 1)
      · rw [z]; exact q
      · exact hf j j1 (by omega)
    · rw [if_neg q] at hb he ⊢
      have hlt : c < n - (d + 1) := by
        rcases Nat.lt_or_ge c (n - (d + 1)) with z | z
        · exact z
        · have : n - (d + 1) = c := by omega
          rw [this] at q
          exact absurd rfl q
      obtain ⟨h1, h2, h3⟩ := hb.cons
      have h4 : n - (d + 1) - c = b a := nI_inj (by omega) (by omega) h1
      have h5 := h3.r
      rw [byts_len] at h5
      rw [List.length_cons, List.length_append, byts_len] at he ⊢
      obtain ⟨r, hr⟩ : ∃ r, n - c = r + 1 := ⟨n - c - 1, by omega⟩
      have hi := ih (n - (d + 1)) (a + 1 + w) (f c) (by omega) (fun j j1 j2 => by rw [show j = n - (d + 1) by omega]) h5 (by omega)
      rw [hr, rdR, if_pos rfl, if_neg (by omega), if_neg (by omega), rdVal_rt h3.l hw (hwd c (by omega)) (by omega) (Int64.zero_add _) (hv c (by omega))]
      simp only [rdR_skip (b a - 1) r _ _ (by omega)]
      rw [show r - (b a - 1) = n - (n - (d + 1)) by omega, hi]
      simp only []
      have e2 : r + 1 = (b a - 1 + 1) + (n - (n - (d + 1))) := by omega
      rw [e2, List.range'_append_1.symm, List.map_append, rep_map (x := (kd, f c)) (b a - 1 + 1) c fun j j1 j2 => by rw [hf j j1 (by omega)], List.replicate_succ]
      rw [show c + (b a - 1 + 1) = n - (d + 1) by omega, show a + (w + (ruS f w n d (n - (d + 1))).length + 1) = a + 1 + w + (ruS f w n d (n - (d + 1))).length by omega]
      rfl
theorem bpL_d (f : Nat → Int64) {md w d d' : Nat} (h : ¬ md = 1) : ∀ n, bpL f md w d n = bpL f md w d' n
  | 0 => rfl
  | n + 1 => by rw [bpL, bpL, bpL_d f h n, if_neg (fun q => h q.1), if_neg (fun q => h q.1)]
theorem wmx_ge {f : Nat → Int64} : ∀ {n j : Nat}, j < n → wd (f j) ≤ wmx f n
  | 0, _, h => absurd h (Nat.not_lt_zero _)
  | n + 1, j, h => by
    unfold wmx
    by_cases q : j < n
    · have := wmx_ge (f := f) q
      omega
    · obtain rfl : j = n := by omega
      omega
theorem smx_ge {f : Nat → Int64} : ∀ {n j : Nat}, j < n → 0 < j → wd (f j - f (j - 1)) ≤ smx f n
  | 0, _, h, _ => absurd h (Nat.not_lt_zero _)
  | n + 1, j, h, h0 => by
    unfold smx
    by_cases q : j < n
    · have := smx_ge (f := f) q h0
      rw [if_neg (by omega)]
      omega
    · obtain rfl : j = n := by omega
      rw [if_neg (by omega)]
      omega
theorem pM_1 {f : Nat → Int64} {n : Nat} (h : pMd f n = 1) : 1 < n ∧ pW f n = wd (f 0) := by
  unfold pMd at h
  unfold pW
  split at h
  · cases h
  next q =>
    split at h
    next r => exact ⟨(of_decide_eq_true r).1, by rw [if_neg q, if_pos r]⟩
    · cases h
theorem pM_n1 {f : Nat → Int64} {n : Nat} (h : ¬ pMd f n = 1) : pW f n = wmx f n := by
  unfold pMd at h
  unfold pW
  split
  · rfl
  next q =>
    rw [if_neg q] at h
    split
    next r => exact absurd (if_pos r) h
    · rfl
theorem pW_8 (f : Nat → Int64) (n : Nat) : pW f n ≤ 8 := by
  by_cases h : pMd f n = 1
  · rw [(pM_1 h).2]; exact wd_le _
  · rw [pM_n1 h]; exact wmx_le f n
theorem rdN_rt {b : Nat → Nat} {e n a : Nat} {kd : Int32} {f : Nat → Int64} (h0 : 0 < n) (hn : n ≤ 16) (hb : AtB b a (numsL f n)) (he : a + (numsL f n).length ≤ e) (hv : ∀ j, j < n → isVal kd (f j) = true) : rdN b e kd n a = .inr ((List.range n).map (fun j => (kd, f j)), a + (numsL f n).length) := by
  have hm := pMd_le f n
  have hw := pW_8 f n
  rw [List.range_eq_range']
  unfold numsL at hb he ⊢
  obtain ⟨c1, c2, c3⟩ := hb.cons
  have c4 : 16 * pMd f n + pW f n = b a := nI_inj (by omega) (by omega) c1
  rw [List.length_cons] at he ⊢
  unfold rdN
  by_cases q1 : pMd f n = 1
  · obtain ⟨n1, ew⟩ := pM_1 q1
    rw [if_pos q1, if_neg (show ¬ pMd f n = 2 by omega)] at c3 he ⊢
    obtain ⟨d1, d2, d3⟩ := c3.cons
    have hs := smx_le f n
    have d4 : smx f n = b (a + 1) := nI_inj (by omega) (by omega) d1
    rw [List.length_append, List.length_singleton] at he ⊢
    rw [if_neg (by omega), if_neg (by omega), if_pos (by omega), if_neg (by omega), if_neg (by omega), show b a % 16 = pW f n by omega, ← d4]
    have := rdP_rt (b := b) (e := e) (a := a + 2) (kd := kd) (md := 1) hw hs (by rw [q1] at d3; exact d3) (fun j hj => ?_) hv (by rw [q1] at he; omega) n 0 0 (by omega) (fun z => absurd z (Nat.lt_irrefl 0))
    · rw [show a + 2 + (bpL f 1 (pW f n) (smx f n) 0).length = a + 2 from rfl] at this
      rw [this, q1]
      congr 2
      omega
    · split
      next z => exact smx_ge hj z.2
      next z =>
        obtain rfl : j = 0 := by omega
        rw [ew]
        exact Nat.le_refl _
  · have ew := pM_n1 q1
    rw [if_neg q1] at c3 he ⊢
    rw [List.nil_append] at c3 he ⊢
    by_cases q2 : pMd f n = 2
    · rw [if_pos q2] at c3 he ⊢
      rw [if_neg (by omega), if_neg (by omega), if_neg (by omega), if_pos (by omega), show b a % 16 = pW f n by omega]
      have := rdR_rt (b := b) (e := e) (kd := kd) (n := n) hn hw (fun j hj => by rw [ew]; exact wmx_ge hj) hv (n - 1) 0 (a + 1) 0 (by omega) (fun j z1 z2 => by rw [show j = 0 by omega]) c3 (by omega)
      rw [Nat.sub_zero] at this
      rw [this]
      congr 2
      omega
    · rw [if_neg q2] at c3 he ⊢
      rw [if_neg (by omega), if_neg (by omega), if_neg (by omega), if_neg (by omega), show b a % 16 = pW f n by omega, show b a / 16 = pMd f n by omega]
      rw [bpL_d (d' := pW f n) f q1] at c3 he ⊢
      have := rdP_rt (b := b) (e := e) (a := a + 1) (kd := kd) hw hw c3 (fun j hj => ?_) hv (by omega) n 0 0 (by omega) (fun z => absurd z (Nat.lt_irrefl 0))
      · rw [show a + 1 + (bpL f (pMd f n) (pW f n) (pW f n) 0).length = a + 1 from rfl] at this
        rw [this]
        congr 2
        omega
      · rw [if_neg (fun z => q1 z.1), ew]
        exact wmx_ge hj
theorem AtB.bx {b : Nat → Nat} {a : Nat} {K : Nat → Int32} {V : Nat → Int64} : ∀ {n : Nat}, AtB b a (boxL K V n) → ∀ j, j < n → AtB b (a + (boxL K V j).length) (boxB (K j) (V j))
  | 0, _, j, hj => absurd hj (Nat.not_lt_zero j)
  | n + 1, h, j, hj => by
    have h' : AtB b a (boxL K V n ++ boxB (K n) (V n)) := h
    by_cases q : j < n
    · exact AtB.bx h'.l j q
    · obtain rfl : j = n := by omega
      exact h'.r
theorem boxL_mono (K : Nat → Int32) (V : Nat → Int64) {i j : Nat} (h : i ≤ j) : (boxL K V i).length ≤ (boxL K V j).length := by
  induction h with
  | refl => exact Nat.le_refl _
  | step _ ih => rw [boxL, List.length_append]; omega
theorem box_hd : ∀ o, o < 8 → ∀ u, u ≤ 8 → 16 * (nI o + 1) + nI u = nI (16 * (o + 1) + u) := by decide +kernel
theorem rdB_rt {b : Nat → Nat} {e a n : Nat} {K : Nat → Int32} {V : Nat → Int64} (hb : AtB b a (boxL K V n)) (he : a + (boxL K V n).length ≤ e) (hv : ∀ j, j < n → ∃ o, o ≤ 8 ∧ K j = nI o ∧ (o = 8 → V j = 0) ∧ (¬ o = 8 → isVal (K j) (V j) = true)) : ∀ (r i : Nat), i + r = n → rdB b e r (a + (boxL K V i).length) = .inr ((List.range' i r).map (fun j => (K j, V j)), a + (boxL K V n).length) := by
  intro r
  induction r with
  | zero =>
    intro i hi
    obtain rfl : i = n := by omega
    rfl
  | succ r ih =>
    intro i hi
    have hc := hb.bx i (by omega)
    have hm := boxL_mono K V (show i + 1 ≤ n by omega)
    have hn := ih (i + 1) (by omega)
    obtain ⟨o, o1, o2, o3, o4⟩ := hv i (by omega)
    have hwl := wd_le (V i)
    have hs : (boxL K V (i + 1)).length = (boxL K V i).length + (1 + wd (V i)) := by
      rw [boxL, List.length_append]
      unfold boxB
      rw [List.length_cons, byts_len]
      omega
    unfold boxB at hc
    obtain ⟨c1, c2, c3⟩ := hc.cons
    rw [rdB, List.range'_succ, List.map_cons, if_neg (by omega)]
    generalize hA : a + (boxL K V i).length = A at *
    by_cases q : o = 8
    · subst q
      have e8 : K i = 8 := o2
      have hv0 := o3 rfl
      rw [if_pos e8] at c1
      have hw0 : wd (V i) = 0 := by rw [hv0]; rfl
      have b0 : 0 = b A := nI_inj (by omega) (by omega) c1
      rw [if_pos b0.symm, show A + 1 = a + (boxL K V (i + 1)).length by omega]
      simp only [hn, e8, hv0]
    · have e8 : ¬ K i = 8 := fun z => by
        rw [o2] at z
        exact q (nI_inj (by omega) (by omega) (z.trans (show (8 : Int32) = nI 8 from rfl)))
      rw [if_neg e8, o2, box_hd o (by omega) _ hwl] at c1
      have b0 : 16 * (o + 1) + wd (V i) = b A := nI_inj (by omega) (by omega) c1
      have b1 : b A % 16 = wd (V i) := by omega
      have b2 : nI (b A / 16 - 1) = K i := by rw [o2, show b A / 16 - 1 = o by omega]
      rw [if_neg (by omega), if_neg (by omega), b1, b2, rdVal_rt c3 hwl (Nat.le_refl _) (by omega) (Int64.zero_add _) (o4 q), show A + 1 + wd (V i) = a + (boxL K V (i + 1)).length by omega]
      simp only [hn]
theorem rc_0 {sl rk rs c v : Int32} (h : rdCode sl rk rs c v = 0) : 0 < c → c = rs := fun z => by
  unfold rdCode at h
  split at h
  · exact absurd h (by decide)
  · split at h
    · exact absurd h (by decide)
    next q => exact Decidable.byContradiction fun r => q ⟨z, r⟩
/-- a field's bytes, read back -/
theorem fld_rt {b : Nat → Nat} {e a f z c : Nat} {s : St} (hz : z ≤ 16) (hf : fnn s f = z) (hc : c ≤ 16) (ec : s.1 9 f = nI c) (hcz : ¬ c = 0 → c = z) (hC : CelOK ((List.range z).map fun i => (if s.1 8 f = 8 then fKd s f i else s.1 8 f, fVl s f i))) (hb : AtB b a (fbyt s f)) (he : a + (fbyt s f).length ≤ e) : ∃ a1, rdSz b e (s.1 9 f) a = .inr (z, a1) ∧ rdCl b e (s.1 8 f) z a1 = .inr ((List.range z).map fun i => (if s.1 8 f = 8 then fKd s f i else s.1 8 f, fVl s f i), a + (fbyt s f).length) := by
  have hcell : ∀ j, j < z → (∃ o, o ≤ 8 ∧ (if s.1 8 f = 8 then fKd s f j else s.1 8 f) = nI o) ∧ cvl (if s.1 8 f = 8 then fKd s f j else s.1 8 f) (fVl s f j) := fun j hj => hC _ (List.mem_map.mpr ⟨j, List.mem_range.mpr hj, rfl⟩)
  have hsz : ∃ a1, a1 = a + (if s.1 9 f = 0 then [nI z] else []).length ∧ rdSz b e (s.1 9 f) a = .inr (z, a1) := by
    unfold fbyt at hb he
    rw [hf] at hb he
    refine ⟨_, rfl, ?_⟩
    unfold rdSz
    by_cases q : s.1 9 f = 0
    · rw [if_pos q] at hb he
      rw [if_pos q, if_pos q]
      obtain ⟨c1, c2, -⟩ := hb.cons
      rw [List.length_append, List.length_singleton] at he
      have b0 : z = b a := nI_inj (by omega) (by omega) c1
      rw [if_neg (by omega), if_neg (by omega), ← b0]
      rfl
    · rw [if_neg q, if_neg q, ec, ni_cl (by omega)]
      have c0 : ¬ c = 0 := fun z => q (by rw [ec, z]; rfl)
      rw [hcz c0]
      rfl
  obtain ⟨a1, e1, h1⟩ := hsz
  refine ⟨a1, h1, ?_⟩
  unfold fbyt at hb he ⊢
  rw [hf] at hb he ⊢
  have hb2 := hb.r
  rw [← e1] at hb2
  rw [List.length_append, ← Nat.add_assoc, ← e1] at he ⊢
  unfold rdCl
  by_cases q8 : s.1 8 f = 8
  · simp only [if_pos q8] at hb2 he hcell ⊢
    have := rdB_rt (b := b) (e := e) hb2 he (fun j hj => ?_) z 0 (by omega)
    · rw [show a1 + (boxL (fKd s f) (fVl s f) 0).length = a1 from rfl, ← List.range_eq_range'] at this
      exact this
    · obtain ⟨⟨o, o1, o2⟩, o3⟩ := hcell j hj
      refine ⟨o, o1, o2, fun q => ?_, fun q => ?_⟩
      · unfold cvl at o3
        rw [if_pos (by rw [o2, q]; rfl)] at o3
        exact o3
      · unfold cvl at o3
        rw [if_neg (fun z => by
          rw [o2] at z
          exact q (nI_inj (by omega) (by omega) (z.trans (show (8 : Int32) = nI 8 from rfl))))] at o3
        exact o3
  · simp only [if_neg q8] at hb2 he hcell ⊢
    by_cases q0 : z = 0
    · subst q0
      rfl
    · simp only [if_neg q0] at hb2 he ⊢
      refine rdN_rt (by omega) hz hb2 he fun j hj => ?_
      obtain ⟨-, o3⟩ := hcell j hj
      unfold cvl at o3
      rw [if_neg q8] at o3
      exact o3
theorem pk_pre {s : St} {v : Nat} : ∀ (d : Nat) {k : Nat} {p q : Int32} {A B : List Int32}, pk s v k = .inr (p, A) → pk s v (k + d) = .inr (q, B) → ∃ C, B = A ++ C
  | 0, k, p, q, A, B, h1, h2 => by
    rw [Nat.add_zero, h1] at h2
    cases h2
    exact ⟨[], (List.append_nil _).symm⟩
  | d + 1, k, p, q, A, B, h1, h2 => by
    have h2' : pk s v ((k + d) + 1) = .inr (q, B) := h2
    unfold pk at h2'
    split at h2'
    · cases h2'
    next p0 B0 h0 =>
      obtain ⟨C, rfl⟩ := pk_pre d h1 h0
      split at h2'
      · split at h2'
        · cases h2'
        · cases h2'
          exact ⟨C, rfl⟩
      · split at h2'
        · cases h2'
          exact ⟨C ++ fbyt s (8 * v + (k + d)), List.append_assoc _ _ _⟩
        · cases h2'
theorem rdFs_rt {b : Nat → Nat} {e a v n q : Nat} {s : St} {p : Int32} {B : List Int32} (hR : RW s) (hV : VerS s v n) (h : pk s v n = .inr (p, B)) (hq : ∀ j, j < n → (q / 2 ^ j % 2 = 0 ↔ fsl s (8 * v + j) = -1)) (hb : AtB b a B) (he : a + B.length ≤ e) : ∀ (r k : Nat) (P : Int32) (A : List Int32), k + r = n → pk s v k = .inr (P, A) → rdFs b e (FV s v) q r k (a + A.length) = .inr ((List.range' k r).map (fun j => cellAt s (8 * v + j)), a + B.length) := by
  intro r
  induction r with
  | zero =>
    intro k P A hk hA
    obtain rfl : k = n := by omega
    rw [hA] at h
    cases h
    rfl
  | succ r ih =>
    intro k P A hk hA
    obtain ⟨P', A', hA'⟩ : ∃ P' A', pk s v (k + 1) = .inr (P', A') := by
      cases z : pk s v (k + 1) with
      | inl x =>
        have := pk_inl z r
        rw [show k + 1 + r = n by omega, h] at this
        cases this
      | inr y => exact ⟨y.1, y.2, rfl⟩
    obtain ⟨C, hC⟩ := pk_pre r hA' (show pk s v (k + 1 + r) = .inr (p, B) by rw [show k + 1 + r = n by omega]; exact h)
    have hn := ih (k + 1) P' A' (by omega) hA'
    rw [rdFs, List.range'_succ, List.map_cons]
    have hs := hA'
    unfold pk at hs
    rw [hA] at hs
    simp only [] at hs
    by_cases q1 : fsl s (8 * v + k) = -1
    · rw [if_pos q1] at hs
      rw [if_pos ((hq k (by omega)).mpr q1)]
      split at hs
      · cases hs
      · cases hs
        rw [hn]
        simp only [show cellAt s (8 * v + k) = none from if_pos q1]
    · rw [if_neg q1] at hs
      rw [if_neg (fun z => q1 ((hq k (by omega)).mp z))]
      split at hs
      next hcode =>
        cases hs
        obtain ⟨hn8, hmany, hfld⟩ := hV
        obtain ⟨sl, kd, c, nd, td, hs8, hkd, hc, hnd, htd, f0, f1, f2, -⟩ := hfld k (by omega)
        obtain ⟨r0, z, hr, hz, hfs, hrs, hfrow, hfn⟩ := (fcode_s hR hs8 f0 q1).2 hcode
        have hL := pkL_ok hR ⟨hn8, hmany, hfld⟩ h k _ (by rw [pkL_at (by omega)]; rw [show cellAt s (8 * v + k) = some ((List.range (fnn s (8 * v + k))).map fun i => (if s.1 8 (8 * v + k) = 8 then fKd s (8 * v + k) i else s.1 8 (8 * v + k), fVl s (8 * v + k) i)) from if_neg q1])
        rw [hfn] at hL
        have f2' : s.1 9 (8 * v + k) = nI c := f2
        have hcz : ¬ c = 0 → c = z := fun c0 => by
          unfold fcode at hcode
          have := rc_0 hcode (by rw [f2', show (0 : Int32) = nI 0 from rfl, ni_lt (by omega) (by omega)]; omega)
          rw [f2', hfrow, hrs] at this
          exact nI_inj (by omega) (by omega) this
        obtain ⟨a1, g1, g2⟩ := fld_rt (b := b) (e := e) (a := a + A.length) hz hfn hc f2' hcz hL (by
          rw [hC] at hb
          exact hb.l.r) (by
          rw [hC, List.length_append, List.length_append] at he
          omega)
        rw [show FV s v 2 k = s.1 9 (8 * v + k) from rfl, show FV s v 1 k = s.1 8 (8 * v + k) from rfl, g1]
        simp only []
        rw [g2]
        simp only []
        rw [show a + A.length + (fbyt s (8 * v + k)).length = a + (A ++ fbyt s (8 * v + k)).length by rw [List.length_append, Nat.add_assoc], hn]
        simp only []
        rw [show cellAt s (8 * v + k) = some ((List.range (fnn s (8 * v + k))).map fun i => (if s.1 8 (8 * v + k) = 8 then fKd s (8 * v + k) i else s.1 8 (8 * v + k), fVl s (8 * v + k) i)) from if_neg q1, hfn]
      · cases hs
theorem pk_need {s : St} {v : Nat} : ∀ {n : Nat} {x : Int32 × List Int32}, pk s v n = .inr x → ∀ k, k < n → s.1 10 (8 * v + k) = 1 → ¬ fsl s (8 * v + k) = -1
  | 0, _, _, k, hk, _ => absurd hk (Nat.not_lt_zero k)
  | n + 1, x, h, k, hk, hs => by
    unfold pk at h
    split at h
    · cases h
    next p0 B0 h0 =>
      rcases Nat.lt_or_ge k n with z | z
      · exact pk_need h0 k z hs
      · obtain rfl : k = n := by omega
        intro y
        rw [if_pos y, if_pos hs] at h
        cases h
theorem rdBody_rt {b : Nat → Nat} {v n : Nat} {s : St} {p : Int32} {B : List Int32} (hR : RW s) (hV : VerS s v n) (h : pk s v n = .inr (p, B)) (hb : AtB b 0 (p :: B)) : ∃ q, p = nI q ∧ q < 2 ^ n ∧ b 0 = q ∧ PresL q (pkL s v n) ∧ rdBody b (B.length + 1) (FV s v) n 0 = .inr (q, pkL s v n) := by
  have hn8 := hV.1
  obtain ⟨q, e1, q2, q3⟩ := pk_pres hn8 h
  obtain ⟨c1, c2, c3⟩ := hb.cons
  have hq : q < 256 := Nat.lt_of_lt_of_le q2 (Nat.pow_le_pow_right (by decide) hn8)
  have b0 : q = b 0 := nI_inj (by omega) (by omega) (e1.symm.trans c1)
  have hr := rdFs_rt (b := b) (e := B.length + 1) (a := 0 + 1) hR hV h q3 c3 (by omega) n 0 0 [] (by omega) rfl
  rw [show 0 + 1 + ([] : List Int32).length = 1 from rfl] at hr
  refine ⟨q, e1, q2, b0.symm, pkL_pres hn8 q2 q3, ?_⟩
  unfold rdBody
  rw [if_neg (by omega), ← b0, if_neg (not_not_intro (Nat.div_eq_of_lt q2)), if_neg, show 0 + 1 = 1 from rfl, hr]
  · simp only []
    rw [if_neg (by omega)]
    unfold pkL
    rw [List.range_eq_range']
  · intro z
    obtain ⟨j, z1, z2, z3, z4⟩ := (ndB_iff (FV s v) q n 0).mp z
    exact pk_need h j (by omega) z3 ((q3 j (by omega)).mp z4)
