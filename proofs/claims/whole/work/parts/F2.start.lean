set_option maxHeartbeats 4000000 in
theorem whole_start {p : Program} {e : Env} {s : State} {m : MethodId} {below : List Frame} {meth : Method} {c : Code} (l : Launch) (hflags : l.flags = flags0) {b L : Nat} {xs : Nat → Int32} (hL : L ≤ 3072) (C0 : lw_At p s m meth c b L xs) : W p l e room_1 s m #[Value.ref b] below meth c s.heap [] 0 0 (lw_Z below #[Value.ref b] s) (entryFrame m ([Value.ref b] : List Value).toArray 4) := by
  obtain ⟨hx, hb, hr, hml, hown, hts, hX, hbl, hlocks, hpre⟩ := C0
  obtain ⟨g, w, hB, hwn, hKG, hKS, hR, hC, hW, hsh⟩ := start_world hL hts hpre hX
  have hcx : Cx g mL_law p s m #[Value.ref b] meth c := ⟨hx, hb, hr, hml, hown, gl_hold hts, hlocks, fun h => absurd h (by decide), hKG, hKS⟩
  have hlw := law_ok (K := fun r _ => r = some (.int 1)) hL (by omega) hC hW (by omega) hsh (fun _ => rfl)
  have hl := lv_entry [Value.ref b] (n := 4) (by show 1 ≤ 4; decide)
  have hs : W p l e room_1 s m #[Value.ref b] below meth c s.heap [] 0 0 (MQ below (Qk g (fun r _ => r = some (.int 1))) #[Value.ref b] s 600000 7302250 (fun q => gB g ≤ q)) (entryFrame m ([Value.ref b] : List Value).toArray 4) := by
    rw [lg_entry_eq]
    generalize (lg_sl [Value.ref b] ++ List.replicate (4 - (lg_sl [Value.ref b]).length) Slot.unset).toArray = ls at hl ⊢
    refine R_sound hlw p l e s m #[Value.ref b] below meth c s.heap [] 0 0 ls 600000 7302250 hcx hR va_S.rf ⟨hl.1.trans rfl, hl.2.1, fun i v hi => ?_⟩ rfl (by omega) (by omega)
    match i, hi with
    | 0, hi =>
      cases hi
      exact hl.2.2 (0, Value.ref b) List.mem_cons_self
    | 1, hi => cases hi
    | 2, hi => cases hi
    | 3, hi => cases hi
    | (i + 4), hi => cases hi
  intro T hT X
  obtain ⟨t, st, o, h1, h2, ⟨r, w', rfl, -, h3, -⟩, Ls, ⟨-, hWm, hsame⟩, hLs⟩ := hs T hT X
  subst h3
  exact ⟨t, st, _, h1, h2, rfl, lw_closed (d0 := s.drawn) (Drawn.sameBut.refl s.drawn lw_cs) ⟨_, rfl⟩ hWm (hsame.weaken (fun x hx hlt => absurd hlt (Nat.not_lt.mpr (Nat.le_trans (Nat.le_of_eq hB.symm) (hLs x hx)))) (Nat.le_refl _) (Nat.le_refl _))⟩
