theorem gW_same {S : Nat → Int32} {k r : Nat} {v : Int32} : gW (upd S (15 + 5 * r + k) v) k = upd (gW S k) r v := by
  funext q
  by_cases e : q = r
  · subst e; rw [pk_us, gW_eq rfl]
  · rw [pk_un e, gW_ne (by omega)]
theorem gW_other {S : Nat → Int32} {k j r : Nat} {v : Int32} (hk : k < 5) (hj : j < 5) (h : k ≠ j) : gW (upd S (15 + 5 * r + k) v) j = gW S j := by
  funext q
  exact gW_ne (by omega)
theorem gW_low {S : Nat → Int32} {a k : Nat} {v : Int32} (h : a < 15) : gW (upd S a v) k = gW S k := by
  funext q
  exact gW_ne (by omega)
theorem sTk_upd {P W : Nat → Int32} {k v : Int32} {r : Nat} : ∀ n, sTk (upd P r v) W k n = sTk P W k n + (if r < n then ((if v = k then W r else 0) - (if P r = k then W r else 0)) else 0)
  | 0 => by rw [if_neg (by omega)]; exact (Int32.add_zero 0).symm
  | n + 1 => by
    rw [sTk, sTk, sTk_upd n]
    by_cases e : n = r
    · subst e
      rw [pk_us, if_neg (show ¬ n < n by omega), if_pos (show n < n + 1 by omega)]
      grind
    · rw [pk_un e]
      by_cases h : r < n
      · rw [if_pos h, if_pos (show r < n + 1 by omega)]; grind
      · rw [if_neg h, if_neg (show ¬ r < n + 1 by omega)]; grind
