section PURE7
variable {S : Nat → Int32} {cn : Nat} {wk sc : Int32} {R Q F Wd P Hm N O : Nat → Int32}
theorem sSf_lt (S : Nat → Int32) (cn : Nat) (w : Int32) : ∀ k, k ≤ 6 → sSf S cn w k = -1 ∨ ix (sSf S cn w k) < k
  | 0, _ => Or.inl rfl
  | k + 1, h => by
    unfold sSf
    split
    · exact Or.inr (by rw [ix_nI (by omega)]; omega)
    · exact (sSf_lt S cn w k (by omega)).imp id (fun q => by omega)
theorem RV.sf (h : RV S cn wk sc R Q F Wd P Hm N O) (w : Int32) : ∀ k, k ≤ 6 → cSf R F Q w k = sSf S cn w k
  | 0, _ => rfl
  | k + 1, hk => by
    have e := h.sf w k (by omega)
    have h1 := sSf_lt S cn w k (by omega)
    have h2 := sSf_ok S cn w k (by omega)
    rw [cSf, sSf, e, h.free (k := k) (by omega)]
    have e2 : (decide (sSf S cn w k = -1) || decide (Q k < Q (ix (sSf S cn w k)))) = (decide (sSf S cn w k = -1) || sNear (gQ S) k (ix (sSf S cn w k))) := by
      by_cases f : sSf S cn w k = -1
      · rw [f]; rfl
      · have hl := h1.resolve_left f
        rw [decide_eq_false f, Bool.false_or, Bool.false_or, ← h.near (by omega) (show ix (sSf S cn w k) < 6 by omega), sBf, decide_eq_false (show ¬ k < ix (sSf S cn w k) by omega), Bool.and_false, Bool.or_false]
    rw [e2]
theorem RV.al (h : RV S cn wk sc R Q F Wd P Hm N O) : ∀ k, k ≤ 6 → cFl F k = sAl S cn k
  | 0, _ => rfl
  | k + 1, hk => by rw [cFl, sAl, h.al k (by omega), h.hF k (by omega)]
theorem RV.rooms (h : RV S cn wk sc R Q F Wd P Hm N O) : ∀ k, k ≤ 6 → cFl R k = sRo S k
  | 0, _ => rfl
  | k + 1, hk => by rw [cFl, sRo, h.rooms k (by omega), h.hR k (by omega)]; rfl
theorem gW_cg {S T : Nat → Int32} (e : ∀ q, q < 96 → T q = S q) {j r : Nat} (hj : j < 5) (hr : r < 16) : gW T j r = gW S j r := e _ (by omega)
/-- the check's row counts up to 96 -/
theorem RV.cgS {T : Nat → Int32} (h : RV S cn wk sc R Q F Wd P Hm N O) (e : ∀ q, q < 96 → T q = S q) : RV T cn wk sc R Q F Wd P Hm N O := by
  have hc := h.hc
  refine ⟨(e 0 (by omega)).trans h.s0, h.hc, (e 1 (by omega)).trans h.s1, (e 2 (by omega)).trans h.s2, fun i hi => ?_, fun i hi => ?_, fun k hk => ?_, fun i hi => ?_, fun i hi => ?_, fun i hi => ?_, fun i hi => ?_, fun i hi => ?_, fun i hi => ?_, fun i hi => ?_, fun i hi => ?_, fun i hi => ?_, fun i h1 h2 => ?_⟩
  · exact (h.hR i hi).trans (e (3 + i) (by omega)).symm
  · exact (h.hQ i hi).trans (e (9 + i) (by omega)).symm
  · rw [h.hF k hk, sTk_cg (P := gW S 1) (W := gW S 0) cn (fun r hr => ⟨gW_cg e (by omega) (by omega), gW_cg e (by omega) (by omega)⟩)]
  · rw [gW_cg e (by omega) (by omega)]; exact h.hW i hi
  · rw [gW_cg e (by omega) (by omega)]; exact h.hP i hi
  · rw [gW_cg e (by omega) (by omega)]; exact h.hH i hi
  · rw [gW_cg e (by omega) (by omega)]; exact h.hN i hi
  · rw [gW_cg e (by omega) (by omega)]; exact h.hO i hi
  · rw [gW_cg e (by omega) (by omega), gW_cg e (by omega) (by omega)]; exact h.ok i hi
  · rw [gW_cg e (by omega) (by omega)]; exact h.bW i hi
  · rw [show gR T i = gR S i from e (3 + i) (by omega)]; exact h.bR i hi
  · rw [show gQ T i = gQ S i from e (9 + i) (by omega)]; exact h.bQ i hi
  · rw [gW_cg e (by omega) h2, gW_cg e (by omega) h2]; exact h.z i h1 h2
theorem fCq_at (S V : Nat → Int32) : ∀ k q, fCq S V k q = if q < k then S q else V q
  | 0, q => by rw [if_neg (by omega)]; rfl
  | k + 1, q => by
    rw [fCq]
    by_cases e : q = k
    · subst e; rw [pk_us, if_pos (by omega)]
    · rw [pk_un e, fCq_at S V k]
      by_cases f : q < k
      · rw [if_pos f, if_pos (by omega)]
      · rw [if_neg f, if_neg (by omega)]
theorem fCq_back {S A W : Nat → Int32} {q : Nat} (h : q < 96) : fCq (fCq S A 96) W 96 q = S q := by
  rw [fCq_at, if_pos h, fCq_at, if_pos h]
/-- the vault's rows count up to 16 and 6 -/
theorem RV.cgV (h : RV S cn wk sc R Q F Wd P Hm N O) {R2 Q2 F2 W2 P2 H2 N2 O2 : Nat → Int32} (e : ∀ k, k < 6 → R2 k = R k ∧ Q2 k = Q k ∧ F2 k = F k) (f : ∀ r, r < 16 → W2 r = Wd r ∧ P2 r = P r ∧ H2 r = Hm r ∧ N2 r = N r ∧ O2 r = O r) : RV S cn wk sc R2 Q2 F2 W2 P2 H2 N2 O2 := by
  have hc := h.hc
  exact ⟨h.s0, h.hc, h.s1, h.s2, fun i hi => (e i hi).1.trans (h.hR i hi), fun i hi => (e i hi).2.1.trans (h.hQ i hi), fun i hi => (e i hi).2.2.trans (h.hF i hi), fun i hi => (f i (by omega)).1.trans (h.hW i hi), fun i hi => (f i (by omega)).2.1.trans (h.hP i hi), fun i hi => (f i (by omega)).2.2.1.trans (h.hH i hi), fun i hi => (f i (by omega)).2.2.2.1.trans (h.hN i hi), fun i hi => (f i (by omega)).2.2.2.2.trans (h.hO i hi), h.ok, h.bW, h.bR, h.bQ, h.z⟩
theorem cpy_at {f g : Nat → Int32} {n q : Nat} (h : q < n) : va_cpy f g 0 0 n q = f q := by
  rw [va_cpy, if_pos ⟨Nat.zero_le _, by omega⟩]; congr 1; omega
/-- a copy of the vault -/
theorem RV.cpy (h : RV S cn wk sc R Q F Wd P Hm N O) {R2 Q2 F2 W2 P2 H2 N2 O2 : Nat → Int32} : RV S cn wk sc (va_cpy R R2 0 0 6) (va_cpy Q Q2 0 0 6) (va_cpy F F2 0 0 6) (va_cpy Wd W2 0 0 16) (va_cpy P P2 0 0 16) (va_cpy Hm H2 0 0 16) (va_cpy N N2 0 0 16) (va_cpy O O2 0 0 16) :=
  h.cgV (fun _ hk => ⟨cpy_at hk, cpy_at hk, cpy_at hk⟩) (fun _ hr => ⟨cpy_at hr, cpy_at hr, cpy_at hr, cpy_at hr, cpy_at hr⟩)
end PURE7
