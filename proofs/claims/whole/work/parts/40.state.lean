/-! the reference's state, and what the class's cells have to do with it -/
abbrev St : Type := (Nat → Nat → Int32) × (Nat → Nat → Int64)
def mst (m : Nat) (w : Wd) : St := (fun o j => wI w (m + o) j, fun o j => wL w (m + o) j)
/-- what stays from call to call -/
def pers (o j : Nat) : Prop := (o = 0 ∧ j < 35) ∨ (1 ≤ o ∧ o ≤ 25)
/-- alike but for the places of S -/
def Bt (S : Nat → Nat → Prop) (s s' : St) : Prop := ∀ o j, pers o j → ¬ S o j → s'.1 o j = s.1 o j ∧ s'.2 o j = s.2 o j
theorem Bt.rf {S : Nat → Nat → Prop} {s : St} : Bt S s s := fun _ _ _ _ => ⟨rfl, rfl⟩
theorem Bt.I {S : Nat → Nat → Prop} {s s' : St} (h : Bt S s s') (o j : Nat) (hp : pers o j) (hs : ¬ S o j) : s'.1 o j = s.1 o j := (h o j hp hs).1
theorem Bt.L {S : Nat → Nat → Prop} {s s' : St} (h : Bt S s s') (o j : Nat) (hp : pers o j) (hs : ¬ S o j) : s'.2 o j = s.2 o j := (h o j hp hs).2
theorem Bt.A {S : Nat → Nat → Prop} {s s' : St} (h : Bt S s s') (o : Nat) (h1 : 1 ≤ o) (h2 : o ≤ 25) (hs : ∀ j, ¬ S o j) : s'.1 o = s.1 o := funext fun j => (h o j (Or.inr ⟨h1, h2⟩) (hs j)).1
theorem Bt.B {S : Nat → Nat → Prop} {s s' : St} (h : Bt S s s') (o : Nat) (h1 : 1 ≤ o) (h2 : o ≤ 25) (hs : ∀ j, ¬ S o j) : s'.2 o = s.2 o := funext fun j => (h o j (Or.inr ⟨h1, h2⟩) (hs j)).2
theorem Bt.of {S : Nat → Nat → Prop} {T : Nat → Nat → Prop} {m : Nat} {w w' : Wd} (h : Fr S w w') (hs : ∀ o j, pers o j → ¬ T o j → ¬ S (m + o) j) : Bt T (mst m w) (mst m w') := fun o j h1 h2 => h.2.2.2 _ _ (hs o j h1 h2)
/-- the reference's cells are as they were -/
theorem mst_eq {S : Nat → Nat → Prop} {m : Nat} {w w' : Wd} (h : ∀ a j, m ≤ a → a < m + 40 → wI w' a j = wI w a j ∧ wL w' a j = wL w a j) (o : Nat) (ho : o < 40) : (mst m w').1 o = (mst m w).1 o ∧ (mst m w').2 o = (mst m w).2 o := ⟨funext fun j => (h (m + o) j (by omega) (by omega)).1, funext fun j => (h (m + o) j (by omega) (by omega)).2⟩
/-- a cell's number is one of its kind -/
def cvl (kd : Int32) (v : Int64) : Prop := if kd = 8 then v = 0 else isVal kd v = true
/-! the class's objects -/
def RowAt (w : Wd) (a kd n : Nat) (K : Nat → Int32) (V : Nat → Int64) : Prop := wsh w a = (7, 0) ∧ wI w a 0 = nI kd ∧ wP w a 1 = some (a + 1) ∧ wP w a 2 = some (a + 2) ∧ wsh w (a + 1) = (100, n) ∧ wsh w (a + 2) = (101, n) ∧ ∀ i, i < n → wI w (a + 1) i = K i ∧ wL w (a + 2) i = V i
/-- a row's cells, as the reference has them -/
def RowV (a n : Nat) (K : Nat → Int32) (V : Nat → Int64) : Prop := a ≤ 8 ∧ n ≤ 16 ∧ ∀ i, i < n → (∃ b, b ≤ 8 ∧ K i = nI b ∧ (a ≠ 8 → b = a)) ∧ cvl (K i) (V i)
def RowsX (b : Nat) (w : Wd) (P : Nat → Option Nat) (ra : Nat → Nat) (sl rk rs kd : Nat → Int32) (vl : Nat → Int64) : Prop := (∀ s, s < 8 → (sl s = -1 ∧ P s = none) ∨ (sl s = 9 ∧ ∃ a, b ≤ a ∧ P s = some a ∧ RowAt w a 9 0 (fun _ => 0) (fun _ => 0)) ∨ ∃ r, r < 8 ∧ sl s = nI r ∧ P s = some (ra r) ∧ b ≤ ra r ∧ ∃ a n, rk r = nI a ∧ rs r = nI n ∧ RowV a n (fun i => kd (16 * r + i)) (fun i => vl (16 * r + i)) ∧ RowAt w (ra r) a n (fun i => kd (16 * r + i)) (fun i => vl (16 * r + i))) ∧
  ∀ s t r q, s < 8 → t < 8 → r < 8 → q < 8 → sl s = nI r → sl t = nI q → ra r = ra q → r = q
def FldW (f : Nat → Int32) : Prop := ∃ s kd c nd td : Nat, s < 8 ∧ kd ≤ 8 ∧ c ≤ 16 ∧ nd ≤ 1 ∧ td ≤ 1 ∧ f 0 = nI s ∧ f 1 = nI kd ∧ f 2 = nI c ∧ f 3 = nI nd ∧ f 4 = nI td ∧ (td = 0 → f 5 = 0) ∧ (kd = 8 → td = 0) ∧ -999999 ≤ (f 5).toInt ∧ (f 5).toInt ≤ 999999
def FldAt (w : Wd) (a : Nat) (f : Nat → Int32) : Prop := wsh w a = (1, 0) ∧ ∀ j, j < 6 → wI w a j = f j
/-- fields, as the reference has them: numbers j = 0 .. 5 of field k -/
def VerW (n : Nat) (f : Nat → Nat → Int32) : Prop := n ≤ 8 ∧ (∀ k, k < n → FldW (fun j => f j k)) ∧ ∀ k l, k < n → l < n → f 0 k = f 0 l → k = l
def VerAt (b : Nat) (w : Wd) (a n : Nat) (f : Nat → Nat → Int32) : Prop := b ≤ a ∧ wsh w a = (10, 0) ∧ wI w a 1 = nI n ∧ ∃ c, b ≤ c ∧ wP w a 0 = some c ∧ wsh w c = (106, 8) ∧ ∀ k, k < n → ∃ d, b ≤ d ∧ wP w c k = some d ∧ FldAt w d (fun j => f j k)
def VersX (b : Nat) (w : Wd) (P : Nat → Option Nat) (mn : Nat → Int32) (f : Nat → Nat → Int32) : Prop := ∀ v, v < 6 → (mn v = 0 ∧ P v = none) ∨ ∃ a n, 0 < n ∧ mn v = nI n ∧ P v = some a ∧ VerW n (fun j k => f j (8 * v + k)) ∧ VerAt b w a n (fun j k => f j (8 * v + k))
def TapeR (tl : Int32) (tb : Nat → Int32) (sl : Int32) (sb : Nat → Int32) : Prop := ∃ n, n ≤ 160 ∧ tl = nI n ∧ sl = nI n ∧ ∀ i, i < n → tb i = sb i ∧ ∃ c, 1 ≤ c ∧ c ≤ 127 ∧ sb i = nI c
def WireR (tl : Int32) (tb : Nat → Int32) (sl : Int32) (sb : Nat → Int32) : Prop := ∃ n, n ≤ 500 ∧ tl = nI n ∧ sl = nI n ∧ ∀ i, i < n → tb i = sb i ∧ ∃ c, c ≤ 255 ∧ sb i = nI c
def LaxR (a b : Int32) : Prop := a = b ∧ (b = 0 ∨ b = 1)
def StopR (a : Nat → Int32) (st : Int32) (b : Nat → Int32) : Prop := (st = 0 ∧ a 0 = 0) ∨ (st = 1 ∧ ¬ a 0 = 0 ∧ ∀ i, i < 4 → a i = b i)
/-- a text of signs 0 .. 127 -/
def StrAt (w : Wd) (a n : Nat) (c : Nat → Int32) : Prop := wsh w a = (13, 0) ∧ wI w a 1 = 0 ∧ ∃ b, wP w a 0 = some b ∧ wsh w b = (103, n) ∧ ∀ i, i < n → wI w b i = c i ∧ ∃ z, z ≤ 127 ∧ c i = nI z
def PapR (x : Nat) (w : Wd) (p : Option Nat) (sl : Int32) (sb : Nat → Int32) : Prop := ∃ n a, n ≤ 240 ∧ sl = nI n ∧ p = some a ∧ (a < x ∨ x + 81 ≤ a) ∧ (∀ b, wP w a 0 = some b → b < x ∨ x + 81 ≤ b) ∧ StrAt w a n sb
def ImgR (x : Nat) (w : Wd) (ra rb : Nat → Nat) (s : St) : Prop := wI w (x + 37) 0 = s.1 0 24 ∧ (s.1 0 24 = 0 ∨ (s.1 0 24 = 1 ∧
  RowsX (x + 81) w (wP w (x + 38)) rb (s.1 18) (s.1 19) (s.1 20) (s.1 21) (s.2 22) ∧ VersX (x + 81) w (wP w (x + 39)) (s.1 23) (fun j i => s.1 24 (6 * i + j)) ∧
  WireR (wI w (x + 37) 4) (wI w (x + 40)) (s.1 0 26) (s.1 25) ∧ LaxR (wI w (x + 37) 5) (s.1 0 25) ∧
  ∀ s1 t r q, s1 < 8 → t < 8 → r < 8 → q < 8 → s.1 1 s1 = nI r → s.1 18 t = nI q → ra r ≠ rb q))
def AbsX (x : Nat) (w : Wd) (s : St) : Prop := ∃ ra rb : Nat → Nat,
  RowsX (x + 81) w (wP w (x + 1)) ra (s.1 1) (s.1 2) (s.1 3) (s.1 4) (s.2 5) ∧
  VersX (x + 81) w (wP w (x + 2)) (s.1 6) (fun j i => s.1 (7 + j) i) ∧
  TapeR (wI w x 11) (wI w (x + 3)) (s.1 0 15) (s.1 14) ∧
  WireR (wI w x 12) (wI w (x + 4)) (s.1 0 13) (s.1 13) ∧
  PapR x w (wP w x 10) (s.1 0 17) (s.1 15) ∧
  (wI w x 14 = s.1 0 19 ∧ wL w x 15 = s.2 0 20) ∧
  LaxR (wI w x 13) (s.1 0 5) ∧
  StopR (wI w (x + 36)) (s.1 0 21) (s.1 16) ∧
  (∀ i, i < 6 → wI w (x + 5) i = s.1 17 i) ∧
  ImgR x w ra rb s
/-- cells off the class's fixed ones are as they were -/
def Keep (x : Nat) (w w' : Wd) : Prop := ∀ a, (a < x ∨ x + 81 ≤ a) → (wsh w a).1 < 109 → wsh w' a = wsh w a ∧ wI w' a = wI w a ∧ wL w' a = wL w a ∧ wP w' a = wP w a
theorem Keep.rf {x : Nat} {w : Wd} : Keep x w w := fun _ _ _ => ⟨rfl, rfl, rfl, rfl⟩
theorem Keep.tr {x : Nat} {w w1 w2 : Wd} (h1 : Keep x w w1) (h2 : Keep x w1 w2) : Keep x w w2 := fun a ha ht => by
  obtain ⟨e1, e2, e3, e4⟩ := h1 a ha ht
  obtain ⟨f1, f2, f3, f4⟩ := h2 a ha (by rw [e1]; exact ht)
  exact ⟨f1.trans e1, f2.trans e2, f3.trans e3, f4.trans e4⟩
theorem RowAt.keep {x : Nat} {w w' : Wd} (hk : Keep x w w') {a kd n : Nat} {K : Nat → Int32} {V : Nat → Int64} (hb : x + 81 ≤ a) (h : RowAt w a kd n K V) : RowAt w' a kd n K V := by
  obtain ⟨h1, h2, h3, h4, h5, h6, h7⟩ := h
  obtain ⟨a1, a2, a3, a4⟩ := hk a (Or.inr hb) (by rw [h1]; decide)
  obtain ⟨b1, b2, b3, b4⟩ := hk (a + 1) (Or.inr (by omega)) (by rw [h5]; show 100 < 109; omega)
  obtain ⟨c1, c2, c3, c4⟩ := hk (a + 2) (Or.inr (by omega)) (by rw [h6]; show 101 < 109; omega)
  refine ⟨a1.trans h1, by rw [a2]; exact h2, by rw [a4]; exact h3, by rw [a4]; exact h4, b1.trans h5, c1.trans h6, fun i hi => ?_⟩
  rw [b2, c3]
  exact h7 i hi
theorem RowsX.keep {x : Nat} {w w' : Wd} (hk : Keep x w w') {P P' : Nat → Option Nat} {ra : Nat → Nat} {sl rk rs kd : Nat → Int32} {vl : Nat → Int64} (hP : P' = P) (h : RowsX (x + 81) w P ra sl rk rs kd vl) : RowsX (x + 81) w' P' ra sl rk rs kd vl := by
  subst hP
  refine ⟨fun s hs => ?_, h.2⟩
  rcases h.1 s hs with h | ⟨h1, a, h2, h3, h4⟩ | ⟨r, h1, h2, h3, h4, a, n, h5, h6, h7, h8⟩
  · exact Or.inl h
  · exact Or.inr (Or.inl ⟨h1, a, h2, h3, h4.keep hk h2⟩)
  · exact Or.inr (Or.inr ⟨r, h1, h2, h3, h4, a, n, h5, h6, h7, h8.keep hk h4⟩)
theorem VerAt.keep {x : Nat} {w w' : Wd} (hk : Keep x w w') {a n : Nat} {f : Nat → Nat → Int32} (h : VerAt (x + 81) w a n f) : VerAt (x + 81) w' a n f := by
  obtain ⟨h0, h1, h2, c, h3, h4, h5, h6⟩ := h
  obtain ⟨a1, a2, a3, a4⟩ := hk a (Or.inr h0) (by rw [h1]; decide)
  obtain ⟨b1, b2, b3, b4⟩ := hk c (Or.inr h3) (by rw [h5]; decide)
  refine ⟨h0, a1.trans h1, by rw [a2]; exact h2, c, h3, by rw [a4]; exact h4, b1.trans h5, fun k hkn => ?_⟩
  obtain ⟨d, d1, d2, d3, d4⟩ := h6 k hkn
  obtain ⟨c1, c2, c3, c4⟩ := hk d (Or.inr d1) (by rw [d3]; decide)
  exact ⟨d, d1, by rw [b4]; exact d2, c1.trans d3, fun j hj => by rw [c2]; exact d4 j hj⟩
theorem VersX.keep {x : Nat} {w w' : Wd} (hk : Keep x w w') {P P' : Nat → Option Nat} {mn : Nat → Int32} {f : Nat → Nat → Int32} (hP : P' = P) (h : VersX (x + 81) w P mn f) : VersX (x + 81) w' P' mn f := by
  subst hP
  intro v hv
  rcases h v hv with h | ⟨a, n, h1, h2, h3, h4, h5⟩
  · exact Or.inl h
  · exact Or.inr ⟨a, n, h1, h2, h3, h4, h5.keep hk⟩
theorem PapR.keep {x : Nat} {w w' : Wd} (hk : Keep x w w') {p p' : Option Nat} {sl : Int32} {sb : Nat → Int32} (hP : p' = p) (h : PapR x w p sl sb) : PapR x w' p' sl sb := by
  subst hP
  obtain ⟨n, a, h1, h2, h3, h4, h5, h6, h7, b, h8, h9, h10⟩ := h
  obtain ⟨a1, a2, a3, a4⟩ := hk a h4 (by rw [h6]; decide)
  obtain ⟨b1, b2, b3, b4⟩ := hk b (h5 b h8) (by rw [h9]; show 103 < 109; omega)
  refine ⟨n, a, h1, h2, h3, h4, fun c hc => h5 c (by rw [a4] at hc; exact hc), a1.trans h6, by rw [a2]; exact h7, b, by rw [a4]; exact h8, b1.trans h9, fun i hi => ?_⟩
  rw [b2]
  exact h10 i hi
