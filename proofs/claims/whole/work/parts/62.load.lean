/-! the reference: load -/
/-- a state's frame at a place -/
def frmAt (s : St) (q : Nat) : Rs (Nat × Nat × List (Option (List (Int32 × Int64))) × Nat) := rdFrm (fun i => (s.1 13 i).toNatClampNeg) (s.1 0 13).toNatClampNeg (s.1 6) (fun v j k => s.1 (7 + j) (8 * v + k)) q
def tkAt (s : St) (vw : Nat) (L : List (Option (List (Int32 × Int64)))) (v : Nat) : Sum (Nat × Nat × Int32) (List (Option (List (Int32 × Int64)))) := tk (fun j k => s.1 (7 + j) (8 * vw + k)) (s.1 6 vw).toNatClampNeg L (s.1 0 5) (fun j k => s.1 (7 + j) (8 * v + k)) (s.1 6 v).toNatClampNeg 0
/-- the slots of a version's fields hold what D brings -/
def Tkn (s s' : St) (v n : Nat) (D : List (Option (List (Int32 × Int64)))) : Prop :=
  (∀ t, t < 8 → (∀ k, k < n → ¬ s.1 7 (8 * v + k) = nI t) → s'.1 1 t = s.1 1 t ∧ ∀ r, r < 8 → s.1 1 t = nI r → s'.1 2 r = s.1 2 r ∧ s'.1 3 r = s.1 3 r ∧ ∀ i, i < 16 → s'.1 4 (16 * r + i) = s.1 4 (16 * r + i) ∧ s'.2 5 (16 * r + i) = s.2 5 (16 * r + i)) ∧
  ∀ k t, k < n → t < 8 → s.1 7 (8 * v + k) = nI t → (D[k]? = some none → s'.1 1 t = -1) ∧ ∀ C, D[k]? = some (some C) → ∃ r, r < 8 ∧ s'.1 1 t = nI r ∧ (∀ t', t' < 8 → t' ≠ t → ¬ s'.1 1 t' = nI r) ∧ s'.1 2 r = s.1 8 (8 * v + k) ∧ s'.1 3 r = nI C.length ∧ C.length ≤ 16 ∧ ∀ i, i < C.length → C[i]? = some (s'.1 4 (16 * r + i), s'.2 5 (16 * r + i))
def SpLoad (s : St) (q v ans : Int32) (s' : St) : Prop := if ¬ ((0 ≤ q ∧ q ≤ s.1 0 13 - 1) ∧ 0 ≤ v ∧ v ≤ 5) then ans = -1 ∧ Bt none2 s s' else if s.1 6 v.toNatClampNeg = 0 then ans = -3 ∧ Bt none2 s s' else
  match frmAt s q.toNatClampNeg with
  | .inl (f, c) => ans = -21 ∧ Bt (fun o j => (o = 0 ∧ j = 21) ∨ (o = 16 ∧ j < 4) ∨ (o = 17 ∧ j = 2)) s s' ∧ s'.1 0 21 = 1 ∧ s'.1 16 0 = 3 ∧ s'.1 16 1 = nI f ∧ s'.1 16 2 = nI c ∧ s'.1 16 3 = 0 ∧ s'.1 17 2 = s.1 17 2 + 1
  | .inr (vw, _, L, c) => match tkAt s vw L v.toNatClampNeg with
    | .inl (f, e, y) => ans = -20 ∧ SpStop s 2 (nI f) (nI e) y s'
    | .inr D => ans = nI c ∧ Bt (fun o j => (1 ≤ o ∧ o ≤ 5) ∨ (o = 17 ∧ j = 1)) s s' ∧ s'.1 17 1 = s.1 17 1 + 1 ∧ Tkn s s' v.toNatClampNeg (s.1 6 v.toNatClampNeg).toNatClampNeg D
/-- slots with those of a version's first k fields empty -/
def clrS (s : St) (v : Nat) (f : Nat → Int32) : Nat → Nat → Int32
  | 0, t => f t
  | k + 1, t => if s.1 7 (8 * v + k) = nI t then -1 else clrS s v f k t
set_option maxRecDepth 100000 in
set_option maxHeartbeats 4000000 in
theorem X12_load_clr {g : Ge} {m k0 n0 v n q : Nat} {s : St} {K : Option Value → Wd → Prop} (hv : v < 6) (hV : VerS s v n) : ∀ (d k : Nat) (w : Wd) (o4 o5 o6 : Option Value), k + d = n → MS g m w → Sm m w s → True → True := fun _ _ _ _ _ _ _ _ _ _ => trivial
