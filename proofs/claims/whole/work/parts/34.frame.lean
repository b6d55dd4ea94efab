/-! what a method changes: the cells (a, j) for which S holds -/
def Fr (S : Nat → Nat → Prop) (w w' : Wd) : Prop := wn w' = wn w ∧ wsh w' = wsh w ∧ wP w' = wP w ∧ ∀ a j, ¬ S a j → wI w' a j = wI w a j ∧ wL w' a j = wL w a j
theorem Fr.rf {S : Nat → Nat → Prop} {w : Wd} : Fr S w w := ⟨rfl, rfl, rfl, fun _ _ _ => ⟨rfl, rfl⟩⟩
theorem Fr.tr {S : Nat → Nat → Prop} {w w1 w2 : Wd} (h1 : Fr S w w1) (h2 : Fr S w1 w2) : Fr S w w2 := ⟨h2.1.trans h1.1, h2.2.1.trans h1.2.1, h2.2.2.1.trans h1.2.2.1, fun a j h => ⟨(h2.2.2.2 a j h).1.trans (h1.2.2.2 a j h).1, (h2.2.2.2 a j h).2.trans (h1.2.2.2 a j h).2⟩⟩
theorem Fr.mo {S S' : Nat → Nat → Prop} {w w1 : Wd} (h : Fr S w w1) (hs : ∀ a j, S a j → S' a j) : Fr S' w w1 := ⟨h.1, h.2.1, h.2.2.1, fun a j q => h.2.2.2 a j (fun z => q (hs a j z))⟩
theorem Fr.i {S : Nat → Nat → Prop} {w w1 : Wd} (h : Fr S w w1) {a k : Nat} (x : Int32) (hs : S a k) : Fr S w (sI w1 a k x) := by
  refine ⟨h.1, h.2.1, h.2.2.1, fun b j q => ⟨Eq.trans ?_ (h.2.2.2 b j q).1, (h.2.2.2 b j q).2⟩⟩
  show up2 (wI w1) a k x b j = wI w1 b j
  unfold up2
  exact if_neg (fun z => q (by rw [z.1, z.2]; exact hs))
theorem Fr.l {S : Nat → Nat → Prop} {w w1 : Wd} (h : Fr S w w1) {a k : Nat} (x : Int64) (hs : S a k) : Fr S w (sL w1 a k x) := by
  refine ⟨h.1, h.2.1, h.2.2.1, fun b j q => ⟨(h.2.2.2 b j q).1, Eq.trans ?_ (h.2.2.2 b j q).2⟩⟩
  show up2 (wL w1) a k x b j = wL w1 b j
  unfold up2
  exact if_neg (fun z => q (by rw [z.1, z.2]; exact hs))
theorem Fr.I {S : Nat → Nat → Prop} {w w1 : Wd} (h : Fr S w w1) (a j : Nat) (hs : ¬ S a j) : wI w1 a j = wI w a j := (h.2.2.2 a j hs).1
theorem Fr.L {S : Nat → Nat → Prop} {w w1 : Wd} (h : Fr S w w1) (a j : Nat) (hs : ¬ S a j) : wL w1 a j = wL w a j := (h.2.2.2 a j hs).2
theorem Fr.P {S : Nat → Nat → Prop} {w w1 : Wd} (h : Fr S w w1) : wP w1 = wP w := h.2.2.1
theorem Fr.sh {S : Nat → Nat → Prop} {w w1 : Wd} (h : Fr S w w1) : wsh w1 = wsh w := h.2.1
theorem Fr.n {S : Nat → Nat → Prop} {w w1 : Wd} (h : Fr S w w1) : wn w1 = wn w := h.1
theorem MS.fr {g : Ge} {m : Nat} {w w1 : Wd} (h : MS g m w) {S : Nat → Nat → Prop} (hf : Fr S w w1) : MS g m w1 := by
  unfold MS at h ⊢
  rw [hf.sh, hf.P]
  exact h
theorem XS.fr {g : Ge} {x : Nat} {w w1 : Wd} (h : XS g x w) {S : Nat → Nat → Prop} (hf : Fr S w w1) : XS g x w1 := by
  unfold XS at h ⊢
  rw [hf.sh, hf.P]
  exact h
/-! reading behind a write -/
theorem up2_n1 {α : Type} {f : Nat → Nat → α} {a k b : Nat} {x : α} (h : b ≠ a) (j : Nat) : up2 f a k x b j = f b j := by rw [up2_ne h]
theorem wI_ne {w : Wd} {a k b j : Nat} {x : Int32} (h : b ≠ a) : wI (sI w a k x) b j = wI w b j := by rw [wI_sI, up2_ne h]
theorem wL_ne {w : Wd} {a k b j : Nat} {x : Int64} (h : b ≠ a) : wL (sL w a k x) b j = wL w b j := by rw [wL_sL, up2_ne h]
theorem wP_ne {w : Wd} {a k b j : Nat} {x : Option Nat} (h : b ≠ a) : wP (sP w a k x) b j = wP w b j := by rw [wP_sP, up2_ne h]
theorem wI_at {w : Wd} {a k j : Nat} {x : Int32} : wI (sI w a k x) a j = if j = k then x else wI w a j := by rw [wI_sI, up2_at]
theorem wL_at {w : Wd} {a k j : Nat} {x : Int64} : wL (sL w a k x) a j = if j = k then x else wL w a j := by rw [wL_sL, up2_at]
theorem wP_at {w : Wd} {a k j : Nat} {x : Option Nat} : wP (sP w a k x) a j = if j = k then x else wP w a j := by rw [wP_sP, up2_at]
/-! two branches that end in one world -/
theorem br_K {α : Type} (K : α → Wd → Nat → Nat → Prop) (c : Prop) [Decidable c] (a b : α) (w : Wd) (k n : Nat) : ((c → K a w k n) ∧ (¬ c → K b w k n)) = K (if c then a else b) w k n := by
  apply propext
  by_cases h : c
  · rw [if_pos h]; exact ⟨fun z => z.1 h, fun z => ⟨fun _ => z, fun q => absurd h q⟩⟩
  · rw [if_neg h]; exact ⟨fun z => z.2 h, fun z => ⟨fun q => absurd q h, fun _ => z⟩⟩
theorem br_N {α : Type} (K : α → Wd → Nat → Nat → Prop) (c : Prop) [Decidable c] (a b : α) (w : Wd) (k n : Nat) : ((¬ c → K a w k n) ∧ (c → K b w k n)) = K (if c then b else a) w k n := by rw [And.comm, br_K]
/-! numbers -/
theorem i_nat {v : Int32} {c : Nat} (hc : c < 2147483648) (h0 : 0 ≤ v) (h1 : v ≤ nI c) : ∃ s, s ≤ c ∧ v = nI s := by
  obtain ⟨j, hj, rfl⟩ := nI_of (x := v) (by simp only [Int32.lt_iff_toInt_lt, Int32.le_iff_toInt_le] at *; omega)
  exact ⟨j, (ni_le hj hc).mp h1, rfl⟩
theorem ni_0 (a : Nat) (h : a < 2147483648) : (0 ≤ nI a) = True := eq_true (nI_pos' h)
theorem ni_0_ (a : Nat) (h : a < 2147483648) : (nI a < 0) = False := eq_false (nI_pos h)
theorem ni_mul (a b : Nat) : nI a * nI b = nI (a * b) := (Int32.ofNat_mul a b).symm
theorem ni_sub {a b : Nat} (h : b ≤ a) : nI a - nI b = nI (a - b) := by
  obtain ⟨c, rfl⟩ : ∃ c, a = c + b := ⟨a - b, by omega⟩
  rw [← ni_add, Nat.add_sub_cancel]
  exact Int32.add_sub_cancel _ _
theorem ni_m1 (a : Nat) (h : a < 2147483648) : (nI a = -1) = False := eq_false (fun q => by
  have := congrArg Int32.toInt q
  rw [nI_toInt h] at this
  have e : (-1 : Int32).toInt = -1 := by decide
  omega)
/-! with written numbers -/
theorem na_1 (a : Nat) : nI a + (1 : Int32) = nI (a + 1) := ni_add a 1
theorem nb_1 (a : Nat) : (1 : Int32) + nI a = nI (1 + a) := ni_add 1 a
theorem nm_1 (a : Nat) : (1 : Int32) * nI a = nI (1 * a) := ni_mul 1 a
theorem ns_1 {a : Nat} (h : 1 ≤ a) : nI a - (1 : Int32) = nI (a - 1) := ni_sub h
theorem nr_1 {a : Nat} (h : a ≤ 1) : (1 : Int32) - nI a = nI (1 - a) := ni_sub h
theorem na_2 (a : Nat) : nI a + (2 : Int32) = nI (a + 2) := ni_add a 2
theorem nb_2 (a : Nat) : (2 : Int32) + nI a = nI (2 + a) := ni_add 2 a
theorem nm_2 (a : Nat) : (2 : Int32) * nI a = nI (2 * a) := ni_mul 2 a
theorem ns_2 {a : Nat} (h : 2 ≤ a) : nI a - (2 : Int32) = nI (a - 2) := ni_sub h
theorem nr_2 {a : Nat} (h : a ≤ 2) : (2 : Int32) - nI a = nI (2 - a) := ni_sub h
theorem na_3 (a : Nat) : nI a + (3 : Int32) = nI (a + 3) := ni_add a 3
theorem nb_3 (a : Nat) : (3 : Int32) + nI a = nI (3 + a) := ni_add 3 a
theorem nm_3 (a : Nat) : (3 : Int32) * nI a = nI (3 * a) := ni_mul 3 a
theorem ns_3 {a : Nat} (h : 3 ≤ a) : nI a - (3 : Int32) = nI (a - 3) := ni_sub h
theorem nr_3 {a : Nat} (h : a ≤ 3) : (3 : Int32) - nI a = nI (3 - a) := ni_sub h
theorem na_4 (a : Nat) : nI a + (4 : Int32) = nI (a + 4) := ni_add a 4
theorem nb_4 (a : Nat) : (4 : Int32) + nI a = nI (4 + a) := ni_add 4 a
theorem nm_4 (a : Nat) : (4 : Int32) * nI a = nI (4 * a) := ni_mul 4 a
theorem ns_4 {a : Nat} (h : 4 ≤ a) : nI a - (4 : Int32) = nI (a - 4) := ni_sub h
theorem nr_4 {a : Nat} (h : a ≤ 4) : (4 : Int32) - nI a = nI (4 - a) := ni_sub h
theorem na_5 (a : Nat) : nI a + (5 : Int32) = nI (a + 5) := ni_add a 5
theorem nb_5 (a : Nat) : (5 : Int32) + nI a = nI (5 + a) := ni_add 5 a
theorem nm_5 (a : Nat) : (5 : Int32) * nI a = nI (5 * a) := ni_mul 5 a
theorem ns_5 {a : Nat} (h : 5 ≤ a) : nI a - (5 : Int32) = nI (a - 5) := ni_sub h
theorem nr_5 {a : Nat} (h : a ≤ 5) : (5 : Int32) - nI a = nI (5 - a) := ni_sub h
theorem na_6 (a : Nat) : nI a + (6 : Int32) = nI (a + 6) := ni_add a 6
theorem nb_6 (a : Nat) : (6 : Int32) + nI a = nI (6 + a) := ni_add 6 a
theorem nm_6 (a : Nat) : (6 : Int32) * nI a = nI (6 * a) := ni_mul 6 a
theorem ns_6 {a : Nat} (h : 6 ≤ a) : nI a - (6 : Int32) = nI (a - 6) := ni_sub h
theorem nr_6 {a : Nat} (h : a ≤ 6) : (6 : Int32) - nI a = nI (6 - a) := ni_sub h
theorem na_7 (a : Nat) : nI a + (7 : Int32) = nI (a + 7) := ni_add a 7
theorem nb_7 (a : Nat) : (7 : Int32) + nI a = nI (7 + a) := ni_add 7 a
theorem nm_7 (a : Nat) : (7 : Int32) * nI a = nI (7 * a) := ni_mul 7 a
theorem ns_7 {a : Nat} (h : 7 ≤ a) : nI a - (7 : Int32) = nI (a - 7) := ni_sub h
theorem nr_7 {a : Nat} (h : a ≤ 7) : (7 : Int32) - nI a = nI (7 - a) := ni_sub h
theorem na_8 (a : Nat) : nI a + (8 : Int32) = nI (a + 8) := ni_add a 8
theorem nb_8 (a : Nat) : (8 : Int32) + nI a = nI (8 + a) := ni_add 8 a
theorem nm_8 (a : Nat) : (8 : Int32) * nI a = nI (8 * a) := ni_mul 8 a
theorem ns_8 {a : Nat} (h : 8 ≤ a) : nI a - (8 : Int32) = nI (a - 8) := ni_sub h
theorem nr_8 {a : Nat} (h : a ≤ 8) : (8 : Int32) - nI a = nI (8 - a) := ni_sub h
theorem na_10 (a : Nat) : nI a + (10 : Int32) = nI (a + 10) := ni_add a 10
theorem nb_10 (a : Nat) : (10 : Int32) + nI a = nI (10 + a) := ni_add 10 a
theorem nm_10 (a : Nat) : (10 : Int32) * nI a = nI (10 * a) := ni_mul 10 a
theorem ns_10 {a : Nat} (h : 10 ≤ a) : nI a - (10 : Int32) = nI (a - 10) := ni_sub h
theorem nr_10 {a : Nat} (h : a ≤ 10) : (10 : Int32) - nI a = nI (10 - a) := ni_sub h
theorem na_16 (a : Nat) : nI a + (16 : Int32) = nI (a + 16) := ni_add a 16
theorem nb_16 (a : Nat) : (16 : Int32) + nI a = nI (16 + a) := ni_add 16 a
theorem nm_16 (a : Nat) : (16 : Int32) * nI a = nI (16 * a) := ni_mul 16 a
theorem ns_16 {a : Nat} (h : 16 ≤ a) : nI a - (16 : Int32) = nI (a - 16) := ni_sub h
theorem nr_16 {a : Nat} (h : a ≤ 16) : (16 : Int32) - nI a = nI (16 - a) := ni_sub h
theorem na_31 (a : Nat) : nI a + (31 : Int32) = nI (a + 31) := ni_add a 31
theorem nb_31 (a : Nat) : (31 : Int32) + nI a = nI (31 + a) := ni_add 31 a
theorem nm_31 (a : Nat) : (31 : Int32) * nI a = nI (31 * a) := ni_mul 31 a
theorem ns_31 {a : Nat} (h : 31 ≤ a) : nI a - (31 : Int32) = nI (a - 31) := ni_sub h
theorem nr_31 {a : Nat} (h : a ≤ 31) : (31 : Int32) - nI a = nI (31 - a) := ni_sub h
theorem na_48 (a : Nat) : nI a + (48 : Int32) = nI (a + 48) := ni_add a 48
theorem nb_48 (a : Nat) : (48 : Int32) + nI a = nI (48 + a) := ni_add 48 a
theorem nm_48 (a : Nat) : (48 : Int32) * nI a = nI (48 * a) := ni_mul 48 a
theorem ns_48 {a : Nat} (h : 48 ≤ a) : nI a - (48 : Int32) = nI (a - 48) := ni_sub h
theorem nr_48 {a : Nat} (h : a ≤ 48) : (48 : Int32) - nI a = nI (48 - a) := ni_sub h
theorem na_64 (a : Nat) : nI a + (64 : Int32) = nI (a + 64) := ni_add a 64
theorem nb_64 (a : Nat) : (64 : Int32) + nI a = nI (64 + a) := ni_add 64 a
theorem nm_64 (a : Nat) : (64 : Int32) * nI a = nI (64 * a) := ni_mul 64 a
theorem ns_64 {a : Nat} (h : 64 ≤ a) : nI a - (64 : Int32) = nI (a - 64) := ni_sub h
theorem nr_64 {a : Nat} (h : a ≤ 64) : (64 : Int32) - nI a = nI (64 - a) := ni_sub h
theorem na_97 (a : Nat) : nI a + (97 : Int32) = nI (a + 97) := ni_add a 97
theorem nb_97 (a : Nat) : (97 : Int32) + nI a = nI (97 + a) := ni_add 97 a
theorem nm_97 (a : Nat) : (97 : Int32) * nI a = nI (97 * a) := ni_mul 97 a
theorem ns_97 {a : Nat} (h : 97 ≤ a) : nI a - (97 : Int32) = nI (a - 97) := ni_sub h
theorem nr_97 {a : Nat} (h : a ≤ 97) : (97 : Int32) - nI a = nI (97 - a) := ni_sub h
theorem na_100 (a : Nat) : nI a + (100 : Int32) = nI (a + 100) := ni_add a 100
theorem nb_100 (a : Nat) : (100 : Int32) + nI a = nI (100 + a) := ni_add 100 a
theorem nm_100 (a : Nat) : (100 : Int32) * nI a = nI (100 * a) := ni_mul 100 a
theorem ns_100 {a : Nat} (h : 100 ≤ a) : nI a - (100 : Int32) = nI (a - 100) := ni_sub h
theorem nr_100 {a : Nat} (h : a ≤ 100) : (100 : Int32) - nI a = nI (100 - a) := ni_sub h
theorem na_250 (a : Nat) : nI a + (250 : Int32) = nI (a + 250) := ni_add a 250
theorem nb_250 (a : Nat) : (250 : Int32) + nI a = nI (250 + a) := ni_add 250 a
theorem nm_250 (a : Nat) : (250 : Int32) * nI a = nI (250 * a) := ni_mul 250 a
theorem ns_250 {a : Nat} (h : 250 ≤ a) : nI a - (250 : Int32) = nI (a - 250) := ni_sub h
theorem nr_250 {a : Nat} (h : a ≤ 250) : (250 : Int32) - nI a = nI (250 - a) := ni_sub h
theorem na_255 (a : Nat) : nI a + (255 : Int32) = nI (a + 255) := ni_add a 255
theorem nb_255 (a : Nat) : (255 : Int32) + nI a = nI (255 + a) := ni_add 255 a
theorem nm_255 (a : Nat) : (255 : Int32) * nI a = nI (255 * a) := ni_mul 255 a
theorem ns_255 {a : Nat} (h : 255 ≤ a) : nI a - (255 : Int32) = nI (a - 255) := ni_sub h
theorem nr_255 {a : Nat} (h : a ≤ 255) : (255 : Int32) - nI a = nI (255 - a) := ni_sub h
theorem vp_0 {n : Nat} (h : 0 < n) : vp_in 0 n = True := eq_true (fun q => by rcases q with q | q; exact absurd q (by decide); exact absurd (Nat.lt_of_lt_of_le h q) (by decide))
theorem vp_1 {n : Nat} (h : 1 < n) : vp_in 1 n = True := eq_true (fun q => by rcases q with q | q; exact absurd q (by decide); exact absurd (Nat.lt_of_lt_of_le h q) (by decide))
theorem vp_2 {n : Nat} (h : 2 < n) : vp_in 2 n = True := eq_true (fun q => by rcases q with q | q; exact absurd q (by decide); exact absurd (Nat.lt_of_lt_of_le h q) (by decide))
theorem vp_3 {n : Nat} (h : 3 < n) : vp_in 3 n = True := eq_true (fun q => by rcases q with q | q; exact absurd q (by decide); exact absurd (Nat.lt_of_lt_of_le h q) (by decide))
theorem vp_4 {n : Nat} (h : 4 < n) : vp_in 4 n = True := eq_true (fun q => by rcases q with q | q; exact absurd q (by decide); exact absurd (Nat.lt_of_lt_of_le h q) (by decide))
theorem vp_5 {n : Nat} (h : 5 < n) : vp_in 5 n = True := eq_true (fun q => by rcases q with q | q; exact absurd q (by decide); exact absurd (Nat.lt_of_lt_of_le h q) (by decide))
theorem ni_le1 {a : Nat} (h : a < 2147483648) : (nI a ≤ 1) = (a ≤ 1) := ni_le h (by decide)
theorem ni_le0 {a : Nat} (h : a < 2147483648) : (nI a ≤ 0) = (a ≤ 0) := ni_le h (by decide)
theorem ni_eq0 {a : Nat} (h : a < 2147483648) : (nI a = 0) = (a = 0) := ni_eq h (by decide)
theorem ni_eq1 {a : Nat} (h : a < 2147483648) : (nI a = 1) = (a = 1) := ni_eq h (by decide)
theorem ni_eq2 {a : Nat} (h : a < 2147483648) : (nI a = 2) = (a = 2) := ni_eq h (by decide)
theorem ni_eq8 {a : Nat} (h : a < 2147483648) : (nI a = 8) = (a = 8) := ni_eq h (by decide)
theorem ni_eq9 {a : Nat} (h : a < 2147483648) : (nI a = 9) = (a = 9) := ni_eq h (by decide)
theorem nl_m1 {a : Nat} (h : 1 ≤ a) : nI a + -1 = nI (a - 1) := by
  obtain ⟨b, rfl⟩ : ∃ b, a = b + 1 := ⟨a - 1, by omega⟩
  exact pk_m1 b
theorem ni_ti {a : Nat} (h : a < 2147483648) : (nI a).toInt = (a : Int) := nI_toInt h
theorem i_eq (a b : Int32) : (a = b) = (a.toInt = b.toInt) := propext Int32.toInt_inj.symm
theorem i_le (a b : Int32) : (a ≤ b) = (a.toInt ≤ b.toInt) := propext Int32.le_iff_toInt_le
theorem i_lt (a b : Int32) : (a < b) = (a.toInt < b.toInt) := propext Int32.lt_iff_toInt_lt
theorem ni_ne9 {r : Nat} (h : r < 9) : ¬ nI r = 9 := by rw [ni_lit 9, ni_eq (by omega) (by omega)]; omega
theorem ni_nem {r : Nat} (h : r < 2147483648) : ¬ nI r = -1 := by rw [ni_m1 r h]; exact id
theorem cI_mono {g : Ge} {M : Mi} {av : List Value} {w : Wd} {k n : Nat} {Q K : Int32 → Wd → Nat → Nat → Prop} (h : cI g M av w k n Q) (hq : ∀ x w' k' n', Q x w' k' n' → K x w' k' n') : cI g M av w k n K := cl0_mono (fun _ _ _ _ ⟨x, e, q⟩ => ⟨x, e, hq _ _ _ _ q⟩) h
theorem cL_mono {g : Ge} {M : Mi} {av : List Value} {w : Wd} {k n : Nat} {Q K : Int64 → Wd → Nat → Nat → Prop} (h : cL g M av w k n Q) (hq : ∀ x w' k' n', Q x w' k' n' → K x w' k' n') : cL g M av w k n K := cl0_mono (fun _ _ _ _ ⟨x, e, q⟩ => ⟨x, e, hq _ _ _ _ q⟩) h
theorem cV_mono {g : Ge} {M : Mi} {av : List Value} {w : Wd} {k n : Nat} {Q K : Wd → Nat → Nat → Prop} (h : cV g M av w k n Q) (hq : ∀ w' k' n', Q w' k' n' → K w' k' n') : cV g M av w k n K := cl0_mono (fun _ _ _ _ ⟨e, q⟩ => ⟨e, hq _ _ _ q⟩) h
theorem cR_mono {g : Ge} {M : Mi} {av : List Value} {w : Wd} {k n : Nat} {Q K : Option Nat → Wd → Nat → Nat → Prop} (h : cR g M av w k n Q) (hq : ∀ x w' k' n', Q x w' k' n' → K x w' k' n') : cR g M av w k n K := cl0_mono (fun _ _ _ _ ⟨x, e, q⟩ => ⟨x, e, hq _ _ _ _ q⟩) h
