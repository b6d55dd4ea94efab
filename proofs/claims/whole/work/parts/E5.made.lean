/-! the class: its objects, made one behind another -/
def XB (x : Nat) (w0 w : Wd) (c : Nat) (S : List (Nat × (Nat × Nat))) (P : List (Nat × Nat × Nat)) : Prop :=
  wn w = x + c ∧ (∀ q ∈ S, q.1 < c ∧ wsh w (x + q.1) = q.2) ∧ (∀ q ∈ P, q.1 < c ∧ wP w (x + q.1) q.2.1 = some (x + q.2.2)) ∧ (∀ a, a < x → Same a w0 w) ∧ WF w ∧ (∀ a j, x ≤ a → a < wn w → a ≠ x + 9 → ¬ (a = x ∧ j = 14) → wI w a j = 0 ∧ wL w a j = 0) ∧ ∀ a j, a < wn w → a = x + 1 ∨ a = x + 2 ∨ a = x + 38 ∨ a = x + 39 → wP w a j = none
theorem XB.new {x c : Nat} {w0 w : Wd} {S : List (Nat × (Nat × Nat))} {P : List (Nat × Nat × Nat)} (h : XB x w0 w c S P) (t l : Nat) : XB x w0 (nw w t l) (c + 1) (S ++ [(c, (t, l))]) P := by
  obtain ⟨h1, h2, h3, h4, h5, h6, h7⟩ := h
  refine ⟨by rw [wn_nw, h1]; rfl, fun q hq => ?_, fun q hq => ?_, fun a ha => (h4 a ha).tr (nw_same (by omega)), nw_wf h5 t l, fun a j ha hb hc hd => ?_, fun a j ha hb => ?_⟩
  · rcases List.mem_append.mp hq with z | z
    · obtain ⟨g1, g2⟩ := h2 q z
      exact ⟨by omega, (wsh_nwN (by omega)).trans g2⟩
    · rw [List.mem_singleton.mp z]
      refine ⟨Nat.lt_succ_self c, ?_⟩
      show wsh (nw w t l) (x + c) = (t, l)
      rw [← h1, wsh_nwA]
  · obtain ⟨g1, g2⟩ := h3 q hq
    refine ⟨by omega, ?_⟩
    rw [wP_nwN (by omega)]
    exact g2
  · rw [wn_nw] at hb
    by_cases q : a = wn w
    · rw [q, wI_nwA, wL_nwA]
      exact ⟨rfl, rfl⟩
    · rw [wI_nwN q, wL_nwN q]
      exact h6 a j ha (by omega) hc hd
  · rw [wn_nw] at ha
    by_cases q : a = wn w
    · rw [q, wP_nwA]
    · rw [wP_nwN q]
      exact h7 a j (by omega) hb
theorem XB.any {x c a o f : Nat} {v : Option Nat} {w0 w : Wd} {S : List (Nat × (Nat × Nat))} {P : List (Nat × Nat × Nat)} (h : XB x w0 w c S P) (ha : a = x + o) (hf : ∀ q ∈ P, ¬ (q.1 = o ∧ q.2.1 = f)) (ho : o ≠ 1 ∧ o ≠ 2 ∧ o ≠ 38 ∧ o ≠ 39) : XB x w0 (sP w a f v) c S P := by
  subst ha
  obtain ⟨h1, h2, h3, h4, h5, h6, h7⟩ := h
  refine ⟨h1, h2, fun q hq => ?_, fun a ha => (h4 a ha).tr (sP_same (by omega)), h5, h6, fun a j ha hb => ?_⟩
  · obtain ⟨g1, g2⟩ := h3 q hq
    refine ⟨g1, ?_⟩
    rw [wP_sP]
    unfold up2
    rw [if_neg fun z => hf q hq ⟨by omega, z.2⟩]
    exact g2
  · rw [wP_sP, up2_ne (by omega)]
    exact h7 a j ha hb
theorem XB.ptr {x c a o f d : Nat} {w0 w : Wd} {S : List (Nat × (Nat × Nat))} {P : List (Nat × Nat × Nat)} (h : XB x w0 w c S P) (ha : a = x + o) (hoc : o < c) (hf : ∀ q ∈ P, ¬ (q.1 = o ∧ q.2.1 = f)) (ho : o ≠ 1 ∧ o ≠ 2 ∧ o ≠ 38 ∧ o ≠ 39) : XB x w0 (sP w a f (some (x + d))) c S (P ++ [(o, f, d)]) := by
  obtain ⟨h1, h2, h3, h4, h5, h6, h7⟩ := h.any (v := some (x + d)) ha hf ho
  refine ⟨h1, h2, fun q hq => ?_, h4, h5, h6, h7⟩
  rcases List.mem_append.mp hq with z | z
  · exact h3 q z
  · rw [List.mem_singleton.mp z]
    refine ⟨hoc, ?_⟩
    show wP (sP w a f (some (x + d))) (x + o) f = some (x + d)
    rw [ha, wP_at, if_pos rfl]
theorem XB.arr {x c a o f t l : Nat} {w0 w : Wd} {S : List (Nat × (Nat × Nat))} {P : List (Nat × Nat × Nat)} (h : XB x w0 w c S P) (ha : a = x + o) (hoc : o < c + 1) (hf : ∀ q ∈ P, ¬ (q.1 = o ∧ q.2.1 = f)) (ho : o ≠ 1 ∧ o ≠ 2 ∧ o ≠ 38 ∧ o ≠ 39) : XB x w0 (sP (nw w t l) a f (some (wn w))) (c + 1) (S ++ [(c, (t, l))]) (P ++ [(o, f, c)]) := by
  have := (h.new t l).ptr (d := c) ha hoc hf ho
  rw [← h.1] at this
  exact this
theorem XB.int {x c a o f : Nat} {v : Int32} {w0 w : Wd} {S : List (Nat × (Nat × Nat))} {P : List (Nat × Nat × Nat)} (h : XB x w0 w c S P) (ha : a = x + o) (hv : v = 0 ∨ o = 9 ∨ (o = 0 ∧ f = 14)) : XB x w0 (sI w a f v) c S P := by
  subst ha
  obtain ⟨h1, h2, h3, h4, h5, h6, h7⟩ := h
  refine ⟨h1, h2, h3, fun a ha => (h4 a ha).tr (sI_same (by omega)), h5, fun a j ha hb hc hd => ?_, h7⟩
  rw [wL_sI, wI_sI]
  refine ⟨?_, (h6 a j ha hb hc hd).2⟩
  unfold up2
  split
  next q =>
    rcases hv with z | z | z
    · exact z
    · omega
    · omega
  · exact (h6 a j ha hb hc hd).1
theorem XB.lng {x c a o f : Nat} {w0 w : Wd} {S : List (Nat × (Nat × Nat))} {P : List (Nat × Nat × Nat)} (h : XB x w0 w c S P) (ha : a = x + o) : XB x w0 (sL w a f 0) c S P := by
  subst ha
  obtain ⟨h1, h2, h3, h4, h5, h6, h7⟩ := h
  refine ⟨h1, h2, h3, fun a ha => (h4 a ha).tr (sL_same (by omega)), h5, fun a j ha hb hc hd => ?_, h7⟩
  rw [wI_sL, wL_sL]
  refine ⟨(h6 a j ha hb hc hd).1, ?_⟩
  unfold up2
  split
  · rfl
  · exact (h6 a j ha hb hc hd).2
theorem XB.multi {x c t ti : Nat} {w0 w : Wd} {S : List (Nat × (Nat × Nat))} {P : List (Nat × Nat × Nat)} (h : XB x w0 w c S P) (hf : ∀ q ∈ P, q.1 ≠ c) (ho : c ≠ 1 ∧ c ≠ 2 ∧ c ≠ 38 ∧ c ≠ 39) : XB x w0 (mwr ti (wn w) 8 (nw w t 8)) (c + 9) (S ++ [(c, (t, 8)), (c + 1, (ti, 16)), (c + 2, (ti, 16)), (c + 3, (ti, 16)), (c + 4, (ti, 16)), (c + 5, (ti, 16)), (c + 6, (ti, 16)), (c + 7, (ti, 16)), (c + 8, (ti, 16))]) (P ++ [(c, 0, c + 1), (c, 1, c + 2), (c, 2, c + 3), (c, 3, c + 4), (c, 4, c + 5), (c, 5, c + 6), (c, 6, c + 7), (c, 7, c + 8)]) := by
  have e := h.1
  have hn : ∀ (f : Nat) (P' : List (Nat × Nat × Nat)), (∀ q ∈ P', q.2.1 ≠ f) → ∀ q ∈ P ++ P', ¬ (q.1 = c ∧ q.2.1 = f) := fun f P' h' q hq z => by
    rcases List.mem_append.mp hq with y | y
    · exact hf q y z.1
    · exact h' q y z.2
  have h0 := h.new t 8
  have h1 := h0.arr (t := ti) (l := 16) (f := 0) e (by omega) (fun q hq z => hf q hq z.1) ho
  have h2 := h1.arr (t := ti) (l := 16) (f := 1) e (by omega) (hn 1 _ (by simp)) ho
  simp only [List.append_assoc] at h2
  have h3 := h2.arr (t := ti) (l := 16) (f := 2) e (by omega) (hn 2 _ (by simp)) ho
  simp only [List.append_assoc] at h3
  have h4 := h3.arr (t := ti) (l := 16) (f := 3) e (by omega) (hn 3 _ (by simp)) ho
  simp only [List.append_assoc] at h4
  have h5 := h4.arr (t := ti) (l := 16) (f := 4) e (by omega) (hn 4 _ (by simp)) ho
  simp only [List.append_assoc] at h5
  have h6 := h5.arr (t := ti) (l := 16) (f := 5) e (by omega) (hn 5 _ (by simp)) ho
  simp only [List.append_assoc] at h6
  have h7 := h6.arr (t := ti) (l := 16) (f := 6) e (by omega) (hn 6 _ (by simp)) ho
  simp only [List.append_assoc] at h7
  have h8 := h7.arr (t := ti) (l := 16) (f := 7) e (by omega) (hn 7 _ (by simp)) ho
  simp only [List.append_assoc] at h8
  exact h8
theorem XB.fin {g : Ge} {x : Nat} {w0 w : Wd} (hg : gB g ≤ x) (h : XB x w0 w 41 xoT xpT) : XS g x w := ⟨hg, fun q hq => (h.2.1 q hq).2, fun q hq => (h.2.2.1 q hq).2⟩
