/-- the class number that a value names -/
abbrev ix (v : Int32) : Nat := v.toNatClampNeg
/-- field k of the record r in the row of the check -/
def gW (S : Nat → Int32) (k r : Nat) : Int32 := S (15 + 5 * r + k)
/-- the reaches in the row of the check -/
def gQ (S : Nat → Int32) (k : Nat) : Int32 := S (9 + k)
def gR (S : Nat → Int32) (k : Nat) : Int32 := S (3 + k)
def Ok6 (v : Int32) : Prop := v = nI (ix v) ∧ ix v < 6
def RO (S : Nat → Int32) (c : Nat) : Prop := S 0 = nI c ∧ c ≤ 16 ∧ ∀ r, r < c → Ok6 (gW S 1 r) ∧ Ok6 (gW S 2 r)
def sIn (v lo hi : Int32) : Bool := decide (lo ≤ v) && decide (v ≤ hi)
def sTk (P W : Nat → Int32) (k : Int32) : Nat → Int32
  | 0 => 0
  | n + 1 => sTk P W k n + (if P n = k then W n else 0)
def sHf (N O : Nat → Int32) (r : Nat) : Int32 := 2 * N r + O r
def sMis (P Hm : Nat → Int32) (r : Nat) : Bool := decide (P r ≠ Hm r)
def sCo (N O Hm Q : Nat → Int32) : Nat → Int32
  | 0 => 0
  | n + 1 => sCo N O Hm Q n + sHf N O n * Q (ix (Hm n))
def sNear (Q : Nat → Int32) (a b : Nat) : Bool := decide (Q a - Q b < 0) || (decide (Q a - Q b = 0) && decide (a < b))
/-- the walk: j where it should be, p where it is -/
def sWl (Q : Nat → Int32) (j p : Nat) : Nat → Int32
  | 0 => Q j
  | n + 1 => sWl Q j p n + (if (!decide (n = j) && !sNear Q p n) = true then Q n else 0)
def sWalk (Q P Hm : Nat → Int32) (r : Nat) : Int32 := if sMis P Hm r = true then sWl Q (ix (Hm r)) (ix (P r)) 6 else Q (ix (Hm r))
theorem gW_ne {S : Nat → Int32} {a : Nat} {v : Int32} {k r : Nat} (h : 15 + 5 * r + k ≠ a) : gW (upd S a v) k r = gW S k r := pk_un h
theorem gW_eq {S : Nat → Int32} {a : Nat} {v : Int32} {k r : Nat} (h : 15 + 5 * r + k = a) : gW (upd S a v) k r = v := by rw [← h]; exact pk_us
theorem sh_of {x : Int32} (h : sIn x 0 5 = true) : ∃ k : Nat, k < 6 ∧ x = nI k := by
  simp only [sIn, Bool.and_eq_true, decide_eq_true_eq] at h
  obtain ⟨j, hj, e⟩ := nI_of (x := x) (fun q => absurd (show (0 : Int32) ≤ x from h.1) (by rw [Int32.not_le]; exact q))
  subst e
  have := (nI_leI (b := 5) hj (by decide)).mp h.2
  exact ⟨j, by omega, rfl⟩
theorem rc_of {x : Int32} {c : Nat} (hc : c ≤ 16) (h : sIn x 0 (nI c - 1) = true) : ∃ r : Nat, r < c ∧ x = nI r := by
  simp only [sIn, Bool.and_eq_true, decide_eq_true_eq] at h
  obtain ⟨j, hj, e⟩ := nI_of (x := x) (fun q => absurd (show (0 : Int32) ≤ x from h.1) (by rw [Int32.not_le]; exact q))
  subst e
  cases c with
  | zero => exact absurd (Int32.le_trans (show (0 : Int32) ≤ nI j from h.1) h.2) (by decide)
  | succ n =>
    rw [nI_pred] at h
    have := (nI_leI (b := n) hj (by omega)).mp h.2
    exact ⟨j, by omega, rfl⟩
theorem Ok6_n {v : Int32} (h : Ok6 v) : v = nI (ix v) := h.1
/-- a month that begins: the row of the check behind the first i records -/
def fMon (S : Nat → Int32) : Nat → Nat → Int32
  | 0 => S
  | i + 1 => upd (upd (fMon S i) (15 + 5 * i + 4) (gW (fMon S i) 3 i)) (15 + 5 * i + 3) 0
theorem fMon_lo (S : Nat → Int32) {k : Nat} (hk : k < 15) : ∀ i, fMon S i k = S k
  | 0 => rfl
  | i + 1 => by rw [fMon, pk_un (by omega), pk_un (by omega)]; exact fMon_lo S hk i
def sBg (S : Nat → Int32) : Nat → Int32
  | 0 => 0
  | i + 1 => sBg S i + gW (fMon S i) 3 i
/-- copying: the row V, with the first k places of S laid from b on -/
def fCp (S V : Nat → Int32) (b : Nat) : Nat → Nat → Int32
  | 0 => V
  | k + 1 => upd (fCp S V b k) (b + k) (S k)
def fSh (V : Nat → Int32) : Nat → Nat → Int32
  | 0 => V
  | k + 1 => upd (fSh V k) k (fSh V k (k + 96))
def svV (S V : Nat → Int32) (n : Nat) : Nat → Int32 := if n = 6 then fCp S (fSh V 480) (96 * 5) 96 else fCp S V (96 * n) 96
def svN (n : Nat) : Nat := if n = 6 then 6 else n + 1
def fCalls (S : Nat → Int32) (r : Nat) : Nat → Int32 := upd (upd (upd S (15 + 5 * r + 3) (gW S 3 r + 1)) (15 + 5 * r + 2) (gW S 1 r)) 1 (S 1 + sWalk (gQ S) (gW S 1) (gW S 2) r)
def fAdds (S : Nat → Int32) (c : Nat) (w sh : Int32) : Nat → Int32 := upd (upd (upd (upd S (15 + 5 * c + 0) w) (15 + 5 * c + 1) sh) (15 + 5 * c + 2) sh) 0 (nI (c + 1))
def sMm (P Hm : Nat → Int32) : Nat → Int32
  | 0 => 0
  | n + 1 => sMm P Hm n + (if sMis P Hm n = true then 1 else 0)
def sGm (S : Nat → Int32) (r k : Nat) : Int32 := sHf (gW S 3) (gW S 4) r * (S (9 + ix (gW S 1 r)) - S (9 + k))
def sRm (S : Nat → Int32) (c k : Nat) : Int32 := S (3 + k) - sTk (gW S 1) (gW S 0) (nI k) c
def sCm (S : Nat → Int32) (c r k : Nat) : Bool := !sMis (gW S 1) (gW S 2) r && (!decide (gW S 1 r = nI k) && decide (gW S 0 r ≤ sRm S c k))
def sCe (S : Nat → Int32) (c r e : Nat) : Bool := !sMis (gW S 1) (gW S 2) r && (!sMis (gW S 1) (gW S 2) e && (!decide (ix (gW S 1 r) = ix (gW S 1 e)) && (decide (gW S 0 e ≤ sRm S c (ix (gW S 1 r)) + gW S 0 r) && decide (gW S 0 r ≤ sRm S c (ix (gW S 1 e)) + gW S 0 e))))
