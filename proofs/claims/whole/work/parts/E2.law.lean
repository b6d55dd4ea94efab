/-! the law: what holds between two calls -/
def LI (g : Ge) (x sA N : Nat) (w : Wd) : Prop := CI g x w (mst (x + 41) w) ∧ MS g (x + 41) w ∧ sA < gB g ∧ wsh w sA = (100, N)
theorem lgc_eq {x y : Int64} (h : x = y) : lg_cmp x y = 0 := by
  subst h
  unfold lg_cmp
  simp
theorem ag_xo {g : Ge} {x : Nat} {w w1 : Wd} (hX : Xo g x w w1) : Ag (mst (x + 41) w1) (mst (x + 41) w) := fun o ho => by
  have := hX.2.2.2 (x + 41 + o) (Or.inr ⟨by omega, by omega⟩)
  exact ⟨this.2.1, this.2.2.1⟩
theorem msT39 : ∀ q ∈ msT, q.2.1 ≤ 39 := by decide
theorem MS.sam {g : Ge} {m : Nat} {w w' : Wd} (h : MS g m w) (hs : ∀ o, o ≤ 39 → Same (m + o) w w') : MS g m w' := by
  have h0 := hs 0 (by decide)
  refine ⟨h.1, h0.1.trans h.2.1, fun q hq => ?_⟩
  obtain ⟨h1, h2⟩ := h.2.2 q hq
  exact ⟨by rw [show wP w' m = wP w m from h0.2.2.2]; exact h1, (hs _ (msT39 q hq)).1.trans h2⟩
theorem AbsX.mov {x : Nat} {w w' : Wd} {s : St} (hA : AbsX x w s) (hk : Keep x w w') (hS : ∀ o, o ≤ 40 → Same (x + o) w w') : AbsX x w' s := by
  obtain ⟨ra, rb, h1, h2, h3, h4, h5, h6, h7, h8, h9, h10⟩ := id hA
  have S0 : Same x w w' := hS 0 (by decide)
  refine hA.ints hk (fun a h1 h2 _ => ?_) (fun o _ _ => ⟨rfl, rfl⟩) rfl rfl (fun o _ _ => ⟨rfl, rfl⟩) (fun j _ _ => rfl) (hS 37 (by decide)).2.1 (hS 40 (by decide)).2.1 ?_ ?_ ?_ ?_ ?_ ?_
  · obtain ⟨o, rfl⟩ : ∃ o, a = x + o := ⟨a - x, by omega⟩
    exact (hS o (by omega)).2.2.2
  · rw [S0.2.1, (hS 3 (by decide)).2.1]; exact h3
  · rw [S0.2.1, (hS 4 (by decide)).2.1]; exact h4
  · rw [S0.2.1, S0.2.2.1]; exact h6
  · rw [S0.2.1]; exact h7
  · rw [(hS 36 (by decide)).2.1]; exact h8
  · rw [(hS 5 (by decide)).2.1]; exact h9
theorem LI.mid {g : Ge} {x sA N : Nat} {w w1 : Wd} (hL : LI g x sA N w) (hX : Xo g x w w1) : MS g (x + 41) w1 ∧ Cn g w1 ∧ RW (mst (x + 41) w1) ∧ VW (mst (x + 41) w1) ∧ WW (mst (x + 41) w1) ∧ TW (mst (x + 41) w1) ∧ PW (mst (x + 41) w1) ∧ (∃ u, u ≤ 500 ∧ wI w1 (x + 41) 13 = nI u) ∧ wsh w1 sA = (100, N) ∧ wI w1 sA = wI w sA := by
  obtain ⟨⟨hx, hC, hW, hw, hA⟩, hM, hs, S0⟩ := hL
  have hgx := hx.1
  have ag := ag_xo hX
  have hA1 : AbsX x w (mst (x + 41) w1) := hA.bt hx fun o j hp _ => by
    have := ag o (by unfold pers at hp; omega)
    rw [this.1, this.2]
    exact ⟨rfl, rfl⟩
  have ss := hX.2.2.2 sA (Or.inl (by omega))
  obtain ⟨u, hu, -, e2, e3⟩ := hA1.wire
  obtain ⟨v, hv, -, t2, -⟩ := hA1.tape
  obtain ⟨p, a, hp, p2, -⟩ := hA1.pap
  refine ⟨hM.sam fun o ho => hX.2.2.2 _ (Or.inr ⟨by omega, by omega⟩), hC.kept fun a ha _ => ?_, hA1.RW, hA1.VW, ⟨u, hu, e2, fun i hi => (e3 i hi).2⟩, ⟨v, hv, t2⟩, ⟨p, hp, p2⟩, ⟨u, hu, e2⟩, ss.1.trans S0, ss.2.1⟩
  have := hX.2.2.2 a (Or.inl (by omega))
  exact ⟨this.1, this.2.1, this.2.2.2⟩
theorem LI.step {g : Ge} {x sA N : Nat} {w w1 w2 : Wd} (hL : LI g x sA N w) (hX : Xo g x w w1) (hf : Fr (mS (x + 41)) w1 w2) (hA : AbsX x w1 (mst (x + 41) w2)) : LI g x sA N w2 := by
  obtain ⟨M1, C1, -, -, -, -, -, -, S1, -⟩ := hL.mid hX
  obtain ⟨⟨hx, hC, hW, hw, -⟩, hM, hs, S0⟩ := hL
  have hgx := hx.1
  have sm : ∀ a, (a < x + 41 ∨ x + 81 ≤ a) → Same a w1 w2 := fun a ha => hf.same fun j z => by unfold mS at z; omega
  refine ⟨⟨hX.2.2.1.fr hf, C1.fr hf fun a j ha z => by unfold mS at z; omega, hf.wfk hX.2.1, by rw [hf.n]; exact Nat.le_trans hw hX.1, hA.mov (fun a ha _ => sm a (by omega)) fun o ho => sm _ (by omega)⟩, M1.fr hf, hs, by rw [hf.sh]; exact S1⟩
