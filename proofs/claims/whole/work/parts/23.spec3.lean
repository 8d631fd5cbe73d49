theorem fWorks_next {cn n most : Nat} {T : Nat → Int32} {q : BS} {Z : Nat × (Nat → Int32) × BS} (h : n < most) (hg : 0 < q.1) (hE : Z = (n + (fWorks cn (most - n) T q).1, (fWorks cn (most - n) T q).2)) :
    Z = (n + 1 + (fWorks cn (most - (n + 1)) (fStep T q) (fF (fStep T q) cn q)).1, (fWorks cn (most - (n + 1)) (fStep T q) (fF (fStep T q) cn q)).2) := by
  rw [hE, show most - n = (most - (n + 1)) + 1 by omega, fWorks, if_pos hg]
  refine Prod.ext ?_ rfl
  show n + (_ + 1) = n + 1 + _
  omega
theorem fWorks_stop {cn n most : Nat} {T : Nat → Int32} {q : BS} {Z : Nat × (Nat → Int32) × BS} (h : most ≤ n ∨ ¬ 0 < q.1) (hn : n ≤ most) (hE : Z = (n + (fWorks cn (most - n) T q).1, (fWorks cn (most - n) T q).2)) : Z = (n, T, q) := by
  rw [hE]
  rcases h with h | h
  · rw [show most - n = 0 by omega]; rfl
  · cases e : most - n with
    | zero => rfl
    | succ k => rw [fWorks, if_neg h]; rfl
def sSf (S : Nat → Int32) (cn : Nat) (w : Int32) : Nat → Int32
  | 0 => -1
  | k + 1 => if (decide (w ≤ sRm S cn k) && (decide (sSf S cn w k = -1) || sNear (gQ S) k (ix (sSf S cn w k)))) = true then nI k else sSf S cn w k
theorem sSf_ok (S : Nat → Int32) (cn : Nat) (w : Int32) : ∀ k, k ≤ 6 → sSf S cn w k = -1 ∨ (sSf S cn w k = nI (ix (sSf S cn w k)) ∧ ix (sSf S cn w k) < 6)
  | 0, _ => Or.inl rfl
  | k + 1, h => by
    unfold sSf
    split
    · exact Or.inr ⟨by rw [ix_nI (by omega)], by rw [ix_nI (by omega)]; omega⟩
    · exact sSf_ok S cn w k (by omega)
def sAl (S : Nat → Int32) (cn : Nat) : Nat → Int32
  | 0 => 0
  | k + 1 => sAl S cn k + sTk (gW S 1) (gW S 0) (nI k) cn
def sRo (S : Nat → Int32) : Nat → Int32
  | 0 => 0
  | k + 1 => sRo S k + S (3 + k)
def rsn (S : Nat → Int32) (cn r k : Nat) : Int32 := if sMis (gW S 1) (gW S 2) r = true then 1 else if gW S 1 r = nI k then 2 else if sRm S cn k < gW S 0 r then 3 else if sGm S r k < nI 1 then 4 else 0
