/-! Numbers: small methods -/
def b2i (p : Prop) [Decidable p] : Int32 := if p then 1 else 0
