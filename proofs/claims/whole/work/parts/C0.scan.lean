/-! the class: frame, scan, found -/
set_option maxRecDepth 100000 in
set_option maxHeartbeats 4000000 in
theorem X_found_loop {g : Ge} {x k0 n0 u : Nat} {s : St} {K : Option Value → Wd → Prop} (eu : s.1 0 13 = nI u) (hu : u ≤ 500) : ∀ (d q : Nat) (w : Wd), q + d = u → CI g x w s → wI w x 12 = nI u →
    (∀ w', Sc x w w' → K (some (.int (fndR s u q d))) w') → R g mX11_found K 12 [some (.ref x), some (.int (nI q)), some (.int (nI q))] [] w k0 n0 := by
  sorry
