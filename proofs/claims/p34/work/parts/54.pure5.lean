/-- the law's notes of a vault: two numbers a record -/
def nA (V : VS) (f : Nat → Int32) : Nat → Nat → Int32
  | 0 => f
  | k + 1 => upd (upd (nA V f k) (2 * k) (if sMis (V.2.2.2 4) (V.2.2.2 5) k = true then V.2.2.2 4 k else -1)) (2 * k + 1) (100 * sHf (V.2.2.2 6) (V.2.2.2 7) k + V.2.2.2 3 k)
section PU5
variable {V : VS} {f : Nat → Int32} {n k : Nat}
theorem nA_h (c : ¬ V.2.2.2 4 k = V.2.2.2 5 k) : upd (upd (nA V f k) (2 * k) (V.2.2.2 4 k)) (2 * k + 1) (100 * sHf (V.2.2.2 6) (V.2.2.2 7) k + V.2.2.2 3 k) = nA V f (k + 1) := by
  rw [nA, if_pos (mis_t.mpr c)]
theorem nA_l (c : V.2.2.2 4 k = V.2.2.2 5 k) : upd (upd (nA V f k) (2 * k) (-1)) (2 * k + 1) (100 * sHf (V.2.2.2 6) (V.2.2.2 7) k + V.2.2.2 3 k) = nA V f (k + 1) := by
  rw [nA, if_neg (by rw [mis_f.mpr c]; exact Bool.false_ne_true)]
theorem nA_even : ∀ n, k < n → nA V f n (2 * k) = if sMis (V.2.2.2 4) (V.2.2.2 5) k = true then V.2.2.2 4 k else -1
  | 0, h => absurd h (Nat.not_lt_zero _)
  | n + 1, h => by
    rw [nA, pk_un (by omega)]
    by_cases e : k = n
    · subst e; rw [pk_us]
    · rw [pk_un (by omega)]; exact nA_even n (by omega)
theorem nA_odd (hn : n ≤ 16) (h : k < n) : nA V f n (2 * k + 1) = 100 * sHf (V.2.2.2 6) (V.2.2.2 7) k + V.2.2.2 3 k := by
  clear hn
  induction n with
  | zero => exact absurd h (Nat.not_lt_zero _)
  | succ n ih =>
    rw [nA]
    by_cases e : k = n
    · subst e; rw [pk_us]
    · rw [pk_un (by omega), pk_un (by omega)]; exact ih (by omega)
theorem nA_pos (hn : n ≤ 16) (h : k < n) (ho : Ok6 (V.2.2.2 4 k)) (c : 0 ≤ nA V f n (2 * k)) : sMis (V.2.2.2 4) (V.2.2.2 5) k = true ∧ nA V f n (2 * k) = V.2.2.2 4 k := by
  rw [nA_even n h] at c ⊢
  cases e : sMis (V.2.2.2 4) (V.2.2.2 5) k with
  | true => exact ⟨rfl, if_pos rfl⟩
  | false => rw [e, if_neg Bool.false_ne_true] at c; exact absurd c (by decide)
theorem nA_neg (hn : n ≤ 16) (h : k < n) (ho : Ok6 (V.2.2.2 4 k)) (c : ¬ 0 ≤ nA V f n (2 * k)) : sMis (V.2.2.2 4) (V.2.2.2 5) k = false := by
  rw [nA_even n h] at c
  cases e : sMis (V.2.2.2 4) (V.2.2.2 5) k with
  | false => rfl
  | true =>
    rw [e, if_pos rfl] at c
    have := ok6_nn ho
    exact absurd (i_le.mpr (by rw [show (0 : Int32).toInt = 0 from rfl]; exact this)) c
end PU5
theorem heft_up (N O : Nat → Int32) (r : Nat) : sHf (upd N r (N r + 1)) O r = sHf N O r + 2 := by
  rw [sHf, sHf, pk_us]; grind
theorem lcmp_0 {x y : Int64} (h : x = y) : lg_cmp x y = nI 0 := by
  subst h
  simp [lg_cmp, nI_0]
theorem due_le {c d : Int32} {n : Nat} (h : d.toInt + n ≤ c.toInt) (hd : 0 ≤ d.toInt) (hn : n ≤ 20) : ¬ c - nI n < d := by
  have hc : c.toInt < 2 ^ 31 := c.toInt_lt
  have e : (nI n).toInt = n := nI_toInt (by omega)
  rw [i_lt, i_sub (by rw [e]; omega), e]
  omega
theorem g_zero {x : Int32} (h : 0 ≤ x) (g : x < nI 1) : x = 0 := by
  rw [i_le, show (0 : Int32).toInt = 0 from rfl] at h
  rw [i_lt, i_lit1] at g
  exact Int32.toInt_inj.mp (by rw [show (0 : Int32).toInt = 0 from rfl]; omega)
