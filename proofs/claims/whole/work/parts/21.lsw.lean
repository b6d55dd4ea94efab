def mkls (pc : Nat) : List (Int × Int) → List (Int32 × Nat)
  | [] => []
  | (a, o) :: ps => (Int32.ofInt a, ((pc : Int) + o).toNat) :: mkls pc ps
theorem lsw_ok {x : Int32} {pc d : Nat} {dflt : Int} {F : Nat → Prop} (hd : (pc : Int) + dflt = (d : Int)) (ps : List (Int × Int)) (hp : ∀ q ∈ ps, -2147483648 ≤ q.1 ∧ q.1 < 2147483648 ∧ 0 ≤ (pc : Int) + q.2) : jmp pc (Op.lookupswitch.offset ps dflt x.toInt) F = swi x (mkls pc ps) d F := by
  induction ps with
  | nil => exact jmp_eq hd
  | cons q ps ih =>
    obtain ⟨a, o⟩ := q
    obtain ⟨h1, h2, h3⟩ := hp (a, o) List.mem_cons_self
    have ih := ih (fun q hq => hp q (List.mem_cons_of_mem _ hq))
    have e := eq_ofInt (x := x) h1 h2
    simp only [mkls, swi, e]
    apply propext
    by_cases hx : x.toInt = a
    · have e1 : Op.lookupswitch.offset ((a, o) :: ps) dflt x.toInt = o := by simp [Op.lookupswitch.offset, hx]
      rw [e1, jmp_eq (t := ((pc : Int) + o).toNat) (by omega)]
      exact ⟨fun h => ⟨fun _ => h, fun z => absurd hx z⟩, fun h => h.1 hx⟩
    · have hx2 : ¬ a = x.toInt := fun z => hx z.symm
      have e1 : Op.lookupswitch.offset ((a, o) :: ps) dflt x.toInt = Op.lookupswitch.offset ps dflt x.toInt := by simp [Op.lookupswitch.offset, hx2]
      rw [e1, ih]
      exact ⟨fun h => ⟨fun z => absurd z hx, fun _ => h⟩, fun h => h.2 hx⟩
theorem R_lsw {g : Ge} {M : Mi} {K : Option Value → Wd → Prop} {pc len d : Nat} {dflt : Int} {ps : List (Int × Int)} {cs : List (Int32 × Nat)} (V : List (Option Value)) (st : List Value) (w : Wd) (k n : Nat) (hd : decode (mC M) pc = .ok (.lookupswitch dflt ps.toArray, len)) (hcs : mkls pc ps = cs) (hdf : (pc : Int) + dflt = (d : Int)) (hs : (ps.zip (ps.drop 1)).all (fun (a, next) => a.1 < next.1) = true) (hp : ∀ q ∈ ps, -2147483648 ≤ q.1 ∧ q.1 < 2147483648 ∧ 0 ≤ (pc : Int) + q.2) : R g M K pc V st w k n = pI st fun x st => swi x cs d fun t => R g M K t V st w k n := by
  rw [R_at hd rfl, ← hcs]
  simp only [stp, hs, true_and]
  congr 1
  funext x st
  exact lsw_ok hdf ps hp
theorem vX12_isValue_1 {g : Ge} {K : Option Value → Wd → Prop} (V : List (Option Value)) (st : List Value) (w : Wd) (k n : Nat) : R g mX12_isValue K 1 V st w k n = pI st fun x st => swi x [(6, 28), (7, 57)] 78 fun t => R g mX12_isValue K t V st w k n := R_lsw (ps := [(6, 27), (7, 56)]) V st w k n (by decide +kernel : decode (mC mX12_isValue) 1 = .ok (.lookupswitch 77 #[(6, 27), (7, 56)], 27)) (by decide) (by decide) (by decide) (by decide)
