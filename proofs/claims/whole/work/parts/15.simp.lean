/-! switches -/
def mkcs (pc : Nat) : Int → List Int → List (Int32 × Nat)
  | _, [] => []
  | lo, o :: os => (Int32.ofInt lo, ((pc : Int) + o).toNat) :: mkcs pc (lo + 1) os
theorem eq_ofInt {x : Int32} {lo : Int} (h1 : -2147483648 ≤ lo) (h2 : lo < 2147483648) : x = Int32.ofInt lo ↔ x.toInt = lo := by
  constructor
  · rintro rfl
    rw [Int32.toInt_ofInt, show Int32.size = 4294967296 from rfl]
    exact Int.bmod_eq_of_le (by omega) (by omega)
  · intro h
    rw [← h, Int32.ofInt_toInt]
theorem sw_ok {x : Int32} {pc d : Nat} {F : Nat → Prop} (os : List Int) : ∀ (lo : Int), -2147483648 ≤ lo → lo + os.length ≤ 2147483648 → (swi x (mkcs pc lo os) d F ↔ ((x.toInt < lo ∨ lo + os.length ≤ x.toInt) → F d) ∧ ∀ o, lo ≤ x.toInt → os[(x.toInt - lo).toNat]? = some o → F ((pc : Int) + o).toNat) := by
  induction os with
  | nil =>
    intro lo h1 h2
    simp only [mkcs, swi, List.length_nil, List.getElem?_nil]
    constructor
    · intro h; exact ⟨fun _ => h, fun o _ q => by cases q⟩
    · rintro ⟨h, -⟩
      have h0 : ((0 : Nat) : Int) = 0 := rfl
      exact h (by omega)
  | cons o os ih =>
    intro lo h1 h2
    have hl : ((o :: os).length : Int) = os.length + 1 := by simp
    rw [hl] at h2 ⊢
    simp only [mkcs, swi, eq_ofInt h1 (show lo < 2147483648 by omega)]
    rw [ih (lo + 1) (by omega) (by omega)]
    constructor
    · rintro ⟨ha, hb⟩
      refine ⟨fun q => (hb (by omega)).1 (by omega), fun o' q1 q2 => ?_⟩
      by_cases he : x.toInt = lo
      · rw [he, Int.sub_self] at q2
        simp at q2
        rw [← q2]
        exact ha he
      · have e : (x.toInt - lo).toNat = (x.toInt - (lo + 1)).toNat + 1 := by omega
        rw [e, List.getElem?_cons_succ] at q2
        exact (hb he).2 o' (by omega) q2
    · rintro ⟨ha, hb⟩
      refine ⟨fun q => hb o (by omega) (by rw [q, Int.sub_self]; rfl), fun q => ⟨fun z => ha (by omega), fun o' q1 q2 => hb o' (by omega) ?_⟩⟩
      have e : (x.toInt - lo).toNat = (x.toInt - (lo + 1)).toNat + 1 := by omega
      rw [e, List.getElem?_cons_succ]
      exact q2
theorem R_tsw {g : Ge} {M : Mi} {K : Option Value → Wd → Prop} {pc len d : Nat} {dflt lo hi : Int} {offs : List Int} {cs : List (Int32 × Nat)} (V : List (Option Value)) (st : List Value) (w : Wd) (k n : Nat) (hd : decode (mC M) pc = .ok (.tableswitch dflt lo hi offs.toArray, len)) (hcs : mkcs pc lo offs = cs) (hdf : (pc : Int) + dflt = (d : Int)) (h1 : -2147483648 ≤ lo) (h2 : lo + offs.length ≤ 2147483648) (hhi : hi + 1 = lo + offs.length) (hpos : ∀ o ∈ offs, 0 ≤ (pc : Int) + o) : R g M K pc V st w k n = pI st fun x st => swi x cs d fun t => R g M K t V st w k n := by
  rw [R_at hd rfl]
  simp only [stp]
  congr 1
  funext x st
  apply propext
  rw [← hcs, sw_ok offs lo h1 h2]
  constructor
  · rintro ⟨t, ht, hR⟩
    rcases ht with ⟨q1, q2⟩ | ⟨q1, q2, off, q3, q4⟩
    · have : t = d := by have := q2.symm.trans hdf; omega
      rw [← this]
      refine ⟨fun _ => hR, fun o z1 z2 => ?_⟩
      have := (List.getElem?_eq_some_iff.mp z2).1
      omega
    · refine ⟨fun z => by omega, fun o z1 z2 => ?_⟩
      have e1 : offs[(x.toInt - lo).toNat]? = some off := by simpa using q3
      cases e1.symm.trans z2
      rw [q4]
      exact hR
  · rintro ⟨ha, hb⟩
    by_cases hc : x.toInt < lo ∨ hi < x.toInt
    · exact ⟨d, Or.inl ⟨hc, hdf⟩, ha (by omega)⟩
    · have hlt : (x.toInt - lo).toNat < offs.length := by omega
      have e1 := List.getElem?_eq_getElem hlt
      have hp := hpos _ (List.getElem_mem hlt)
      exact ⟨_, Or.inr ⟨by omega, by omega, offs[(x.toInt - lo).toNat], by simpa using e1, by omega⟩, hb _ (by omega) e1⟩
/-! evaluation -/
theorem pI_c (x : Int32) (st : List Value) (F : Int32 → List Value → Prop) : pI (.int x :: st) F = F x st := rfl
theorem pL_c (x : Int64) (st : List Value) (F : Int64 → List Value → Prop) : pL (.long x :: st) F = F x st := rfl
theorem pF_c (x : UInt32) (st : List Value) (F : UInt32 → List Value → Prop) : pF (.float x :: st) F = F x st := rfl
theorem pD_c (x : UInt64) (st : List Value) (F : UInt64 → List Value → Prop) : pD (.double x :: st) F = F x st := rfl
theorem pA_n (st : List Value) (F : Option Nat → List Value → Prop) : pA (.null :: st) F = F none st := rfl
theorem pA_c (a : Nat) (st : List Value) (F : Option Nat → List Value → Prop) : pA (.ref a :: st) F = F (some a) st := rfl
theorem pR_c (a : Nat) (st : List Value) (F : Nat → List Value → Prop) : pR (.ref a :: st) F = F a st := rfl
theorem pR_rf (o : Option Nat) (st : List Value) (F : Nat → List Value → Prop) : pR (va_rf o :: st) F = ∃ a, o = some a ∧ F a st := by
  cases o with
  | none => exact propext ⟨fun h => absurd h id, fun ⟨a, h, _⟩ => by cases h⟩
  | some a => exact propext ⟨fun h => ⟨a, rfl, h⟩, fun ⟨b, h, h2⟩ => by cases h; exact h2⟩
theorem pV_i (x : Int32) (st : List Value) (F : Value → List Value → Prop) : pV (.int x :: st) F = F (.int x) st := propext ⟨fun h => h.2, fun h => ⟨rfl, h⟩⟩
theorem pV_a (a : Nat) (st : List Value) (F : Value → List Value → Prop) : pV (.ref a :: st) F = F (.ref a) st := propext ⟨fun h => h.2, fun h => ⟨rfl, h⟩⟩
theorem pV_n (st : List Value) (F : Value → List Value → Prop) : pV (.null :: st) F = F .null st := propext ⟨fun h => h.2, fun h => ⟨rfl, h⟩⟩
theorem cat_rf (o : Option Nat) : (va_rf o).category = 1 := by cases o <;> rfl
theorem pV_rf (o : Option Nat) (st : List Value) (F : Value → List Value → Prop) : pV (va_rf o :: st) F = F (va_rf o) st := propext ⟨fun h => h.2, fun h => ⟨cat_rf o, h⟩⟩
theorem ldI_c (x : Int32) (F : Int32 → Prop) : ldI (some (.int x)) F = F x := rfl
theorem ldL_c (x : Int64) (F : Int64 → Prop) : ldL (some (.long x)) F = F x := rfl
theorem ldF_c (x : UInt32) (F : UInt32 → Prop) : ldF (some (.float x)) F = F x := rfl
theorem ldD_c (x : UInt64) (F : UInt64 → Prop) : ldD (some (.double x)) F = F x := rfl
theorem ldA_c (a : Nat) (F : Option Nat → Prop) : ldA (some (.ref a)) F = F (some a) := rfl
theorem ldA_n (F : Option Nat → Prop) : ldA (some .null) F = F none := rfl
theorem dup2_l (x : Int64) (st : List Value) (F : List Value → Prop) : dup2K (.long x :: st) F = F (.long x :: .long x :: st) := rfl
theorem dup2_ia (x : Int32) (a : Nat) (st : List Value) (F : List Value → Prop) : dup2K (.int x :: .ref a :: st) F = F (.int x :: .ref a :: .int x :: .ref a :: st) := propext ⟨fun h => h.2.2, fun h => ⟨rfl, rfl, h⟩⟩
theorem dup2_ir (x : Int32) (o : Option Nat) (st : List Value) (F : List Value → Prop) : dup2K (.int x :: va_rf o :: st) F = F (.int x :: va_rf o :: .int x :: va_rf o :: st) := propext ⟨fun h => h.2.2, fun h => ⟨rfl, cat_rf o, h⟩⟩
theorem popA_0 (av st : List Value) (F : List Value → List Value → Prop) : popA 0 av st F = F av st := by cases st <;> rfl
theorem popA_s (i : Nat) (v : Value) (av st : List Value) (F : List Value → List Value → Prop) : popA (i + 1) av (v :: st) F = popA i (v :: av) st F := rfl
theorem getL_z (o : Option Value) (V : List (Option Value)) : getL (o :: V) 0 = o := rfl
theorem getL_s (o : Option Value) (V : List (Option Value)) (i : Nat) : getL (o :: V) (i + 1) = getL V i := rfl
theorem setL_z (o : Option Value) (V : List (Option Value)) (v : Value) : setL (o :: V) 0 v = some v :: V := rfl
theorem setL_1 (o : Option Value) (V : List (Option Value)) (v : Value) : setL (o :: V) 1 v = drop2 o :: setL V 0 v := rfl
theorem setL_s (o : Option Value) (V : List (Option Value)) (i : Nat) (v : Value) : setL (o :: V) (i + 2) v = o :: setL V (i + 1) v := rfl
theorem setL2_z (o p : Option Value) (V : List (Option Value)) (v : Value) : setL2 (o :: p :: V) 0 v = some v :: none :: V := rfl
theorem setL2_1 (o : Option Value) (V : List (Option Value)) (v : Value) : setL2 (o :: V) 1 v = drop2 o :: setL2 V 0 v := by cases V <;> rfl
theorem setL2_s (o : Option Value) (V : List (Option Value)) (i : Nat) (v : Value) : setL2 (o :: V) (i + 2) v = o :: setL2 V (i + 1) v := by cases V <;> rfl
theorem drop2_i (x : Int32) : drop2 (some (.int x)) = some (.int x) := rfl
theorem drop2_a (x : Nat) : drop2 (some (.ref x)) = some (.ref x) := rfl
theorem drop2_0 : drop2 none = none := rfl
theorem drop2_n : drop2 (some .null) = some .null := rfl
theorem drop2_l (x : Int64) : drop2 (some (.long x)) = none := rfl
theorem drop2_d (x : UInt64) : drop2 (some (.double x)) = none := rfl
theorem drop2_r (o : Option Nat) : drop2 (some (va_rf o)) = some (va_rf o) := by cases o <;> rfl
theorem cwd_0 : cwd [] = 0 := rfl
theorem cwd_i (x : Int32) (st : List Value) : cwd (.int x :: st) = cwd st + 1 := by simp [cwd, Value.category, Nat.add_comm]
theorem cwd_a (x : Nat) (st : List Value) : cwd (.ref x :: st) = cwd st + 1 := by simp [cwd, Value.category, Nat.add_comm]
theorem cwd_n (st : List Value) : cwd (.null :: st) = cwd st + 1 := by simp [cwd, Value.category, Nat.add_comm]
theorem cwd_l (x : Int64) (st : List Value) : cwd (.long x :: st) = cwd st + 2 := by simp [cwd, Value.category, Nat.add_comm]
theorem cwd_d (x : UInt64) (st : List Value) : cwd (.double x :: st) = cwd st + 2 := by simp [cwd, Value.category, Nat.add_comm]
theorem cwd_f (x : UInt32) (st : List Value) : cwd (.float x :: st) = cwd st + 1 := by simp [cwd, Value.category, Nat.add_comm]
theorem cwd_r (o : Option Nat) (st : List Value) : cwd (va_rf o :: st) = cwd st + 1 := by
  cases o <;> simp [cwd, va_rf, Value.category, Nat.add_comm]
theorem rf_s (a : Nat) : va_rf (some a) = .ref a := rfl
theorem rf_n : va_rf none = .null := rfl
theorem inv_0 (g : Ge) (M : Mi) (av : List Value) (w : Wd) (k n : Nat) (F : List Value → Wd → Nat → Nat → Prop) : inv g 0 M av w k n F = cV g M av w k n fun w' k' n' => F [] w' k' n' := rfl
theorem inv_1 (g : Ge) (M : Mi) (av : List Value) (w : Wd) (k n : Nat) (F : List Value → Wd → Nat → Nat → Prop) : inv g 1 M av w k n F = cI g M av w k n fun x w' k' n' => F [.int x] w' k' n' := rfl
theorem inv_2 (g : Ge) (M : Mi) (av : List Value) (w : Wd) (k n : Nat) (F : List Value → Wd → Nat → Nat → Prop) : inv g 2 M av w k n F = cL g M av w k n fun x w' k' n' => F [.long x] w' k' n' := rfl
theorem inv_3 (g : Ge) (M : Mi) (av : List Value) (w : Wd) (k n : Nat) (F : List Value → Wd → Nat → Nat → Prop) : inv g 3 M av w k n F = cR g M av w k n fun x w' k' n' => F [va_rf x] w' k' n' := rfl
theorem inv_4 (g : Ge) (M : Mi) (av : List Value) (w : Wd) (k n : Nat) (F : List Value → Wd → Nat → Nat → Prop) : inv g 4 M av w k n F = cD g M av w k n fun x w' k' n' => F [.double x] w' k' n' := rfl
theorem swi_0 (x : Int32) (d : Nat) (F : Nat → Prop) : swi x [] d F = F d := rfl
theorem swi_s (x v : Int32) (t : Nat) (cs : List (Int32 × Nat)) (d : Nat) (F : Nat → Prop) : swi x ((v, t) :: cs) d F = ((x = v → F t) ∧ (¬ x = v → swi x cs d F)) := rfl
theorem ci_eq (x y : Int32) : condI .eq x y = (x = y) := rfl
theorem ci_ne (x y : Int32) : condI .ne x y = (¬ x = y) := rfl
theorem ci_lt (x y : Int32) : condI .lt x y = (x < y) := rfl
theorem ci_ge (x y : Int32) : condI .ge x y = (y ≤ x) := rfl
theorem ci_gt (x y : Int32) : condI .gt x y = (y < x) := rfl
theorem ci_le (x y : Int32) : condI .le x y = (x ≤ y) := rfl
theorem zN_0 (ty : FieldType) (h : ty = .boolean ∨ ty = .byte) : zN ty 0 := by rcases h with rfl | rfl <;> exact ⟨rfl, rfl⟩
theorem zN_1 (ty : FieldType) (h : ty = .boolean ∨ ty = .byte) : zN ty 1 := by rcases h with rfl | rfl <;> exact ⟨rfl, rfl⟩
/-! contracts out of runs -/
theorem cI_of {g : Ge} {M : Mi} {av : List Value} {w : Wd} {k n : Nat} {K : Int32 → Wd → Nat → Nat → Prop} (nl k1 n1 : Nat) (hnl : mL M = nl) (hy : plainFor (mN M) = true) (ho : (mN M).cls = oN (mO M)) (hlen : (entL av).length ≤ nl) (hk : k1 ≤ k) (hn : n1 ≤ n) (h : R g M (fun r w' => ∃ x, r = some (.int x) ∧ K x w' (k - k1) (n - n1)) 0 (entV av nl) [] w k1 n1) : cI g M av w k n K := by
  subst hnl
  exact ⟨k1, n1, _, hk, hn, Cl_of_R hy ho hlen h, fun _ _ q => q⟩
theorem cL_of {g : Ge} {M : Mi} {av : List Value} {w : Wd} {k n : Nat} {K : Int64 → Wd → Nat → Nat → Prop} (nl k1 n1 : Nat) (hnl : mL M = nl) (hy : plainFor (mN M) = true) (ho : (mN M).cls = oN (mO M)) (hlen : (entL av).length ≤ nl) (hk : k1 ≤ k) (hn : n1 ≤ n) (h : R g M (fun r w' => ∃ x, r = some (.long x) ∧ K x w' (k - k1) (n - n1)) 0 (entV av nl) [] w k1 n1) : cL g M av w k n K := by
  subst hnl
  exact ⟨k1, n1, _, hk, hn, Cl_of_R hy ho hlen h, fun _ _ q => q⟩
theorem cV_of {g : Ge} {M : Mi} {av : List Value} {w : Wd} {k n : Nat} {K : Wd → Nat → Nat → Prop} (nl k1 n1 : Nat) (hnl : mL M = nl) (hy : plainFor (mN M) = true) (ho : (mN M).cls = oN (mO M)) (hlen : (entL av).length ≤ nl) (hk : k1 ≤ k) (hn : n1 ≤ n) (h : R g M (fun r w' => r = none ∧ K w' (k - k1) (n - n1)) 0 (entV av nl) [] w k1 n1) : cV g M av w k n K := by
  subst hnl
  exact ⟨k1, n1, _, hk, hn, Cl_of_R hy ho hlen h, fun _ _ q => q⟩
theorem cR_of {g : Ge} {M : Mi} {av : List Value} {w : Wd} {k n : Nat} {K : Option Nat → Wd → Nat → Nat → Prop} (nl k1 n1 : Nat) (hnl : mL M = nl) (hy : plainFor (mN M) = true) (ho : (mN M).cls = oN (mO M)) (hlen : (entL av).length ≤ nl) (hk : k1 ≤ k) (hn : n1 ≤ n) (h : R g M (fun r w' => ∃ x, r = some (va_rf x) ∧ K x w' (k - k1) (n - n1)) 0 (entV av nl) [] w k1 n1) : cR g M av w k n K := by
  subst hnl
  exact ⟨k1, n1, _, hk, hn, Cl_of_R hy ho hlen h, fun _ _ q => q⟩
theorem cD_of {g : Ge} {M : Mi} {av : List Value} {w : Wd} {k n : Nat} {K : UInt64 → Wd → Nat → Nat → Prop} (nl k1 n1 : Nat) (hnl : mL M = nl) (hy : plainFor (mN M) = true) (ho : (mN M).cls = oN (mO M)) (hlen : (entL av).length ≤ nl) (hk : k1 ≤ k) (hn : n1 ≤ n) (h : R g M (fun r w' => ∃ x, r = some (.double x) ∧ K x w' (k - k1) (n - n1)) 0 (entV av nl) [] w k1 n1) : cD g M av w k n K := by
  subst hnl
  exact ⟨k1, n1, _, hk, hn, Cl_of_R hy ho hlen h, fun _ _ q => q⟩
/-! returns -/
def zR (ty : FieldType) (x : Int32) : Prop := narrow ty (.int x) = .int x
section RET
variable {g : Ge} {M : Mi} {K : Option Value → Wd → Prop} {pc : Nat} (V : List (Option Value)) (st : List Value) (w : Wd) (k n : Nat)
theorem R_iret (hd : decode (mC M) pc = .ok (.ireturn, 1)) (hr : mR M = some .int) : R g M K pc V st w k n = pI st fun x st => st = [] ∧ K (some (.int x)) w := by
  rw [R_at hd rfl]
  simp only [stp, hr]
  congr 1
  funext x st
  apply propext
  exact ⟨fun h => ⟨h.1, h.2.2⟩, fun h => ⟨h.1, ⟨_, rfl, rfl⟩, h.2⟩⟩
theorem R_zret {ty : FieldType} (hd : decode (mC M) pc = .ok (.ireturn, 1)) (hr : mR M = some ty) : R g M K pc V st w k n = pI st fun x st => st = [] ∧ zR ty x ∧ K (some (.int x)) w := by
  rw [R_at hd rfl]
  simp only [stp, hr]
  congr 1
  funext x st
  apply propext
  constructor
  · rintro ⟨h1, ⟨t, h2, h3⟩, h4⟩
    cases h2
    exact ⟨h1, h3, h4⟩
  · rintro ⟨h1, h3, h4⟩
    exact ⟨h1, ⟨_, rfl, h3⟩, h4⟩
theorem R_lret (hd : decode (mC M) pc = .ok (.lreturn, 1)) (hr : mR M = some .long) : R g M K pc V st w k n = pL st fun x st => st = [] ∧ K (some (.long x)) w := by
  rw [R_at hd rfl]
  simp only [stp, hr, true_and]
theorem R_dret (hd : decode (mC M) pc = .ok (.dreturn, 1)) (hr : mR M = some .double) : R g M K pc V st w k n = pD st fun x st => st = [] ∧ K (some (.double x)) w := by
  rw [R_at hd rfl]
  simp only [stp, hr, true_and]
theorem R_aret {rt : FieldType} (hd : decode (mC M) pc = .ok (.areturn, 1)) (hr : mR M = some rt) (hrt : (∃ n, rt = .object n) ∨ ∃ t, rt = .array t) : R g M K pc V st w k n = pA st fun x st => st = [] ∧ K (some (va_rf x)) w := by
  rw [R_at hd rfl]
  simp only [stp]
  congr 1
  funext x st
  apply propext
  exact ⟨fun h => ⟨h.1, h.2.2⟩, fun h => ⟨h.1, ⟨_, hr, hrt⟩, h.2⟩⟩
theorem R_vret (hd : decode (mC M) pc = .ok (.return_, 1)) (hr : mR M = none) : R g M K pc V st w k n = (st = [] ∧ K none w) := by
  rw [R_at hd rfl]
  simp only [stp, hr, true_and]
end RET
theorem zR_0 (ty : FieldType) (h : ty = .boolean) : zR ty 0 := by rw [h]; rfl
theorem zR_b0 : zR .boolean 0 = True := eq_true rfl
theorem zR_b1 : zR .boolean 1 = True := eq_true rfl
theorem zN_b0 : zN .boolean 0 = True := eq_true ⟨rfl, rfl⟩
theorem zN_b1 : zN .boolean 1 = True := eq_true ⟨rfl, rfl⟩
theorem entV_c (v : Value) (h : v.category = 1) (av : List Value) (n : Nat) : entV (v :: av) (n + 1) = some v :: entV av n := by
  unfold entV
  rw [entL_1 h]
  simp
theorem entV_i (x : Int32) (av : List Value) (n : Nat) : entV (.int x :: av) (n + 1) = some (.int x) :: entV av n := entV_c _ rfl av n
theorem entV_a (x : Nat) (av : List Value) (n : Nat) : entV (.ref x :: av) (n + 1) = some (.ref x) :: entV av n := entV_c _ rfl av n
theorem entV_n (av : List Value) (n : Nat) : entV (.null :: av) (n + 1) = some .null :: entV av n := entV_c _ rfl av n
theorem entV_r (o : Option Nat) (av : List Value) (n : Nat) : entV (va_rf o :: av) (n + 1) = some (va_rf o) :: entV av n := entV_c _ (cat_rf o) av n
theorem entV_f (x : UInt32) (av : List Value) (n : Nat) : entV (.float x :: av) (n + 1) = some (.float x) :: entV av n := entV_c _ rfl av n
theorem entV_l (x : Int64) (av : List Value) (n : Nat) : entV (.long x :: av) (n + 2) = some (.long x) :: none :: entV av n := by
  unfold entV
  rw [entL_2 rfl]
  simp
theorem entV_d (x : UInt64) (av : List Value) (n : Nat) : entV (.double x :: av) (n + 2) = some (.double x) :: none :: entV av n := by
  unfold entV
  rw [entL_2 rfl]
  simp
theorem entV_s (n : Nat) : entV [] (n + 1) = none :: entV [] n := by
  unfold entV
  simp [entL, List.replicate_succ]
theorem entV_0 : entV [] 0 = [] := rfl
theorem ex_i (a : Int32) (P : Int32 → Prop) : (∃ x, some (Value.int a) = some (Value.int x) ∧ P x) = P a := propext ⟨fun ⟨x, h, q⟩ => by cases h; exact q, fun q => ⟨a, rfl, q⟩⟩
theorem ex_l (a : Int64) (P : Int64 → Prop) : (∃ x, some (Value.long a) = some (Value.long x) ∧ P x) = P a := propext ⟨fun ⟨x, h, q⟩ => by cases h; exact q, fun q => ⟨a, rfl, q⟩⟩
theorem ex_d (a : UInt64) (P : UInt64 → Prop) : (∃ x, some (Value.double a) = some (Value.double x) ∧ P x) = P a := propext ⟨fun ⟨x, h, q⟩ => by cases h; exact q, fun q => ⟨a, rfl, q⟩⟩
theorem rf_inj {a b : Option Nat} (h : va_rf a = va_rf b) : a = b := by
  cases a <;> cases b <;> first | rfl | (cases h; done) | (cases h; rfl)
theorem ex_r (a : Option Nat) (P : Option Nat → Prop) : (∃ x, some (va_rf a) = some (va_rf x) ∧ P x) = P a := propext ⟨fun ⟨x, h, q⟩ => by
  have := rf_inj (Option.some.inj h)
  subst this
  exact q, fun q => ⟨a, rfl, q⟩⟩
theorem ex_rs (a : Nat) (P : Option Nat → Prop) : (∃ x, some (Value.ref a) = some (va_rf x) ∧ P x) = P (some a) := ex_r (some a) P
theorem ex_rn (P : Option Nat → Prop) : (∃ x, some Value.null = some (va_rf x) ∧ P x) = P none := ex_r none P
theorem ex_sm (a : Nat) (P : Nat → Prop) : (∃ x, some a = some x ∧ P x) = P a := propext ⟨fun ⟨x, h, q⟩ => by cases h; exact q, fun q => ⟨a, rfl, q⟩⟩
