/-- the vault's rows: where the records are, and should be -/
def VO (P Hm : Nat → Int32) (cn : Nat) : Prop := cn ≤ 16 ∧ ∀ r, r < cn → Ok6 (P r) ∧ Ok6 (Hm r)
def sHas (x : Int32) (cn : Nat) : Bool := decide (0 ≤ x) && decide (x < nI cn)
def sBf (Q : Nat → Int32) (a b : Nat) : Bool := decide (Q a < Q b) || (decide (Q a = Q b) && decide (a < b))
def cWl (Q : Nat → Int32) (j p : Nat) : Nat → Int32
  | 0 => Q j
  | n + 1 => if (!decide (n = j) && !sBf Q p n) = true then cWl Q j p n + Q n else cWl Q j p n
def cWalk (Q P Hm : Nat → Int32) (r : Nat) : Int32 := if sMis P Hm r = true then cWl Q (ix (Hm r)) (ix (P r)) 6 else Q (ix (Hm r))
def cMm (P Hm : Nat → Int32) : Nat → Int32
  | 0 => 0
  | n + 1 => if sMis P Hm n = true then cMm P Hm n + 1 else cMm P Hm n
def fShf (A : Nat → Int32) (r : Nat) : Nat → Nat → Int32
  | 0 => A
  | j + 1 => upd (fShf A r j) (r + j) (fShf A r j (r + j + 1))
def cMnN (N : Nat → Int32) : Nat → Nat → Int32
  | 0 => N
  | i + 1 => upd (cMnN N i) i 0
def cMnO (N O : Nat → Int32) : Nat → Nat → Int32
  | 0 => O
  | i + 1 => upd (cMnO N O i) i (cMnN N i i)
def cBg (N : Nat → Int32) : Nat → Int32
  | 0 => 0
  | i + 1 => cBg N i + cMnN N i i
/-- the records' room on the shelves behind putOn -/
def fPn (F P W : Nat → Int32) (r k : Nat) : Nat → Int32 := upd (upd F (ix (P r)) (F (ix (P r)) - W r)) k (upd F (ix (P r)) (F (ix (P r)) - W r) k + W r)
/-- the best step so far: gain, record, shelf, partner -/
abbrev CS : Type := Int32 × Int32 × Int32 × Int32
def cNt (its a b p : Int32) (q : CS) : CS := if q.1 < its then (its, a, b, p) else q
def cMg (N O Q P : Nat → Int32) (r k : Nat) : Int32 := sHf N O r * (Q (ix (P r)) - Q k)
def cMv (N O Q P W R F : Nat → Int32) (r : Nat) (q : CS) : Nat → CS
  | 0 => q
  | k + 1 => if (!decide (nI k = P r) && decide (W r ≤ R k - F k)) = true then cNt (cMg N O Q P r k) (nI r) (nI k) (-1) (cMv N O Q P W R F r q k) else cMv N O Q P W R F r q k
def cCe (P W R F : Nat → Int32) (r e : Nat) : Bool := !decide (P r = P e) && (decide (W e - W r ≤ R (ix (P r)) - F (ix (P r))) && decide (-(W e - W r) ≤ R (ix (P e)) - F (ix (P e))))
def cEg (N O Q P : Nat → Int32) (r e : Nat) : Int32 := (sHf N O r - sHf N O e) * (Q (ix (P r)) - Q (ix (P e)))
def cEx (N O Q P Hm W R F : Nat → Int32) (r : Nat) (q : CS) : Nat → CS
  | 0 => q
  | j + 1 => if (!sMis P Hm (r + 1 + j) && cCe P W R F r (r + 1 + j)) = true then cNt (cEg N O Q P r (r + 1 + j)) (nI r) (P (r + 1 + j)) (nI (r + 1 + j)) (cEx N O Q P Hm W R F r q j) else cEx N O Q P Hm W R F r q j
def cF1 (N O Q P Hm W R F : Nat → Int32) (q : CS) : Nat → CS
  | 0 => q
  | r + 1 => if sMis P Hm r = true then cF1 N O Q P Hm W R F q r else cMv N O Q P W R F r (cF1 N O Q P Hm W R F q r) 6
def cF2 (N O Q P Hm W R F : Nat → Int32) (cn : Nat) (q : CS) : Nat → CS
  | 0 => q
  | r + 1 => if sMis P Hm r = true then cF2 N O Q P Hm W R F cn q r else cEx N O Q P Hm W R F r (cF2 N O Q P Hm W R F cn q r) (cn - (r + 1))
def cF (N O Q P Hm W R F : Nat → Int32) (cn : Nat) (q : CS) : CS := cF2 N O Q P Hm W R F cn (cF1 N O Q P Hm W R F (0, q.2) cn) cn
