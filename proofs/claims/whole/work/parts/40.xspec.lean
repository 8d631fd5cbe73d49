/-- the class's sign at t of a text of n signs -/
def cSg (B : Nat → Int32) (n t : Nat) : Int32 := if t < n then B t else -1
def cDg (B : Nat → Int32) (n t : Nat) : Int32 := if cSg B n t < nI 48 then -1 else if nI 57 < cSg B n t then -1 else cSg B n t - 48
def cSh (d : Int32) : Bool := !decide (d = -1) && decide (d < nI 6)
