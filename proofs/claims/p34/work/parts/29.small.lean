theorem ix_nI {n : Nat} (h : n < 2147483648) : ix (nI n) = n := nI_clamp h
theorem Ok6_nI {k : Nat} (h : k < 6) : Ok6 (nI k) := ⟨by rw [ix_nI (by omega)], by rw [ix_nI (by omega)]; exact h⟩
