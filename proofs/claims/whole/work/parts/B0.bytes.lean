/-! the class: what is laid down are bytes -/
def bys (L : List Int32) : Prop := ∀ b, b ∈ L → ∃ c, c ≤ 255 ∧ b = nI c
theorem bys.nil : bys [] := fun b h => by cases h
theorem bys.app {A B : List Int32} (h1 : bys A) (h2 : bys B) : bys (A ++ B) := fun b h => by
  rcases List.mem_append.mp h with z | z
  · exact h1 b z
  · exact h2 b z
theorem bys.cons {a : Int32} {B : List Int32} (h1 : ∃ c, c ≤ 255 ∧ a = nI c) (h2 : bys B) : bys (a :: B) := fun b h => by
  rcases List.mem_cons.mp h with z | z
  · rw [z]; exact h1
  · exact h2 b z
theorem bys_bp {f : Nat → Int64} {md w d : Nat} (hb : ∀ v u, bys (byts v u)) : ∀ i, bys (bpL f md w d i)
  | 0 => bys.nil
  | i + 1 => by
    unfold bpL
    refine (bys_bp hb i).app ?_
    split
    · exact hb _ _
    · exact hb _ _
theorem bys_ru {f : Nat → Int64} {w n : Nat} (hn : n ≤ 16) (hb : ∀ v u, bys (byts v u)) : ∀ d b, bys (ruS f w n d b)
  | 0, b => by
    unfold ruS
    exact bys.cons ⟨n - b, by omega, rfl⟩ (hb _ _)
  | d + 1, b => by
    unfold ruS
    split
    · exact bys_ru hn hb d b
    · exact bys.cons ⟨n - (d + 1) - b, by omega, rfl⟩ ((hb _ _).app (bys_ru hn hb d _))
theorem and255 (y : Int32) : ∃ c, c ≤ 255 ∧ y &&& 255 = nI c := by
  have h : ∀ b : BitVec 32, ∃ c, c ≤ 255 ∧ b &&& 255#32 = BitVec.ofNat 32 c := fun b => ⟨(b &&& 255#32).toNat, by rw [BitVec.toNat_and]; exact Nat.and_le_right, by rw [BitVec.ofNat_toNat, BitVec.setWidth_eq]⟩
  obtain ⟨c, h1, h2⟩ := h y.toBitVec
  exact ⟨c, h1, Int32.toBitVec_inj.mp h2⟩
theorem bys_byts (v : Int64) : ∀ u, bys (byts v u)
  | 0 => bys.nil
  | u + 1 => by
    unfold byts
    refine bys.cons ?_ (bys_byts v u)
    rw [← byt_and]
    exact and255 _
