section PURE6
variable {S : Nat → Int32} {cn : Nat} {wk sc : Int32} {R Q F Wd P Hm N O : Nat → Int32}
theorem sTk_cg {P W P2 W2 : Nat → Int32} {k : Int32} : ∀ n, (∀ r, r < n → P2 r = P r ∧ W2 r = W r) → sTk P2 W2 k n = sTk P W k n
  | 0, _ => rfl
  | n + 1, h => by
    rw [sTk, sTk, sTk_cg n (fun r hr => h r (by omega)), (h n (by omega)).1, (h n (by omega)).2]
theorem fAdds_gW {w z : Int32} (j : Nat) (hj : j < 5) : gW (fAdds S cn w z) j = if j = 0 then upd (gW S 0) cn w else if j = 1 then upd (gW S 1) cn z else if j = 2 then upd (gW S 2) cn z else gW S j := by
  rw [fAdds, gW_low (by omega)]
  by_cases h0 : j = 0
  · subst h0; rw [if_pos rfl, gW_other (by omega) (by omega) (by omega), gW_other (by omega) (by omega) (by omega), gW_same]
  rw [if_neg h0]
  by_cases h1 : j = 1
  · subst h1; rw [if_pos rfl, gW_other (by omega) (by omega) (by omega), gW_same, gW_other (by omega) (by omega) (by omega)]
  rw [if_neg h1]
  by_cases h2 : j = 2
  · subst h2; rw [if_pos rfl, gW_same, gW_other (by omega) (by omega) (by omega), gW_other (by omega) (by omega) (by omega)]
  rw [if_neg h2, gW_other (by omega) (by omega) (by omega), gW_other (by omega) (by omega) (by omega), gW_other (by omega) (by omega) (by omega)]
theorem RV.adds (h : RV S cn wk sc R Q F Wd P Hm N O) {w z : Int32} (hcn : cn < 16) (hw : sIn w 1 30 = true) (hz : Ok6 z) :
    RV (fAdds S cn w z) (cn + 1) wk sc R Q (upd F (ix z) (F (ix z) + w)) (upd Wd cn w) (upd P cn (nI (ix z))) (upd Hm cn (nI (ix z))) (upd N cn 0) (upd O cn 0) := by
  have g0 : gW (fAdds S cn w z) 0 = upd (gW S 0) cn w := by rw [fAdds_gW 0 (by omega)]; rfl
  have g1 : gW (fAdds S cn w z) 1 = upd (gW S 1) cn z := by rw [fAdds_gW 1 (by omega)]; rfl
  have g2 : gW (fAdds S cn w z) 2 = upd (gW S 2) cn z := by rw [fAdds_gW 2 (by omega)]; rfl
  have g3 : gW (fAdds S cn w z) 3 = gW S 3 := by rw [fAdds_gW 3 (by omega)]; rfl
  have g4 : gW (fAdds S cn w z) 4 = gW S 4 := by rw [fAdds_gW 4 (by omega)]; rfl
  have lo : ∀ a, a ≠ 0 → a < 15 → fAdds S cn w z a = S a := fun a h1 h2 => by
    rw [fAdds, pk_un h1, pk_un (by omega), pk_un (by omega), pk_un (by omega)]
  rw [← hz.1]
  refine ⟨pk_us, by omega, ?_, ?_, fun i hi => ?_, fun i hi => ?_, fun k hk => ?_, fun i hi => ?_, fun i hi => ?_, fun i hi => ?_, fun i hi => ?_, fun i hi => ?_, fun i hi => ?_, fun i hi => ?_, fun i hi => ?_, fun i hi => ?_, fun i h1 h2 => ?_⟩
  · rw [lo 1 (by omega) (by omega)]; exact h.s1
  · rw [lo 2 (by omega) (by omega)]; exact h.s2
  · exact (h.hR i hi).trans (lo (3 + i) (by omega) (by omega)).symm
  · exact (h.hQ i hi).trans (lo (9 + i) (by omega) (by omega)).symm
  · rw [g0, g1, sTk, pk_us, pk_us, sTk_cg (P := gW S 1) (W := gW S 0) cn (fun r hr => ⟨pk_un (by omega), pk_un (by omega)⟩), ← h.hF k hk]
    have e := nI_ix hz hk
    by_cases a : k = ix z
    · rw [if_pos (e.mpr a), ← a, pk_us]
    · rw [if_neg (fun q => a (e.mp q)), pk_un a, Int32.add_zero]
  · rw [g0]
    by_cases e : i = cn
    · rw [e, pk_us, pk_us]
    · rw [pk_un e, pk_un e]; exact h.hW i (by omega)
  · rw [g1]
    by_cases e : i = cn
    · rw [e, pk_us, pk_us]
    · rw [pk_un e, pk_un e]; exact h.hP i (by omega)
  · rw [g2]
    by_cases e : i = cn
    · rw [e, pk_us, pk_us]
    · rw [pk_un e, pk_un e]; exact h.hH i (by omega)
  · rw [g3]
    by_cases e : i = cn
    · rw [e, pk_us]; exact (h.z cn (Nat.le_refl _) hcn).1.symm
    · rw [pk_un e]; exact h.hN i (by omega)
  · rw [g4]
    by_cases e : i = cn
    · rw [e, pk_us]; exact (h.z cn (Nat.le_refl _) hcn).2.symm
    · rw [pk_un e]; exact h.hO i (by omega)
  · rw [g1, g2]
    by_cases e : i = cn
    · rw [e, pk_us, pk_us]; exact ⟨hz, hz⟩
    · rw [pk_un e, pk_un e]; exact h.ok i (by omega)
  · rw [g0]
    by_cases e : i = cn
    · rw [e, pk_us]; exact in_le hw
    · rw [pk_un e]; exact h.bW i (by omega)
  · rw [show gR (fAdds S cn w z) i = gR S i from lo (3 + i) (by omega) (by omega)]; exact h.bR i hi
  · rw [show gQ (fAdds S cn w z) i = gQ S i from lo (9 + i) (by omega) (by omega)]; exact h.bQ i hi
  · rw [g3, g4]; exact h.z i (by omega) h2
theorem fShf_at (A : Nat → Int32) (r : Nat) : ∀ j q, fShf A r j q = if r ≤ q ∧ q < r + j then A (q + 1) else A q
  | 0, q => by rw [if_neg (by omega)]; rfl
  | j + 1, q => by
    rw [fShf]
    by_cases e : q = r + j
    · subst e
      rw [pk_us, fShf_at A r j, if_neg (by omega), if_pos (by omega)]
    · rw [pk_un e, fShf_at A r j]
      by_cases f : r ≤ q ∧ q < r + j
      · rw [if_pos f, if_pos (by omega)]
      · rw [if_neg f, if_neg (by omega)]
theorem fDel_at (S : Nat → Int32) (b : Nat) : ∀ j q, fDel S b j q = if 15 + b ≤ q ∧ q < 15 + b + j then S (q + 5) else S q
  | 0, q => by rw [if_neg (by omega)]; rfl
  | j + 1, q => by
    rw [fDel]
    by_cases e : q = 15 + (b + j)
    · subst e
      rw [pk_us, fDel_at S b j, if_neg (by omega), if_pos (by omega)]
    · rw [pk_un e, fDel_at S b j]
      by_cases f : 15 + b ≤ q ∧ q < 15 + b + j
      · rw [if_pos f, if_pos (by omega)]
      · rw [if_neg f, if_neg (by omega)]
theorem fClr_at (S : Nat → Int32) (n : Nat) : ∀ j q, fClr S n j q = if 15 + 5 * n ≤ q ∧ q < 15 + 5 * n + j then 0 else S q
  | 0, q => by rw [if_neg (by omega)]; rfl
  | j + 1, q => by
    rw [fClr]
    by_cases e : q = 15 + 5 * n + j
    · subst e
      rw [pk_us, if_pos (by omega)]
    · rw [pk_un e, fClr_at S n j]
      by_cases f : 15 + 5 * n ≤ q ∧ q < 15 + 5 * n + j
      · rw [if_pos f, if_pos (by omega)]
      · rw [if_neg f, if_neg (by omega)]
theorem fRem_lo {r a : Nat} (h0 : a ≠ 0) (h : a < 15) : fRem S cn r a = S a := by
  rw [fRem, fClr_lo _ _ h, fDel_lo _ _ h, pk_un h0]
theorem fRem_gW {r j q : Nat} (hr : r < cn) (hj : j < 5) (hq : q < cn - 1) : gW (fRem S cn r) j q = if r ≤ q then gW S j (q + 1) else gW S j q := by
  show fRem S cn r (15 + 5 * q + j) = _
  rw [fRem, fClr_at, if_neg (by omega), fDel_at]
  by_cases e : r ≤ q
  · rw [if_pos (by omega), if_pos e, pk_un (by omega)]
    show S _ = S _
    congr 1; omega
  · rw [if_neg (by omega), if_neg e, pk_un (by omega)]; rfl
theorem fRem_hi {r j q : Nat} (hr : r < cn) (hj : j < 5) (hq : cn - 1 ≤ q) : gW (fRem S cn r) j q = if q = cn - 1 then 0 else gW S j q := by
  show fRem S cn r (15 + 5 * q + j) = _
  rw [fRem, fClr_at]
  by_cases e : q = cn - 1
  · rw [if_pos (by omega), if_pos e]
  · rw [if_neg (by omega), if_neg e, fDel_at, if_neg (by omega), pk_un (by omega)]; rfl
theorem sTk_rem {P W P2 W2 : Nat → Int32} {k : Int32} {r : Nat} : ∀ n, r ≤ n → (∀ q, q < n → P2 q = (if r ≤ q then P (q + 1) else P q) ∧ W2 q = (if r ≤ q then W (q + 1) else W q)) → sTk P2 W2 k n = sTk P W k (n + 1) - (if P r = k then W r else 0)
  | n, hn, h => by
    by_cases e : n = r
    · subst e
      rw [sTk_cg (P := P) (W := W) n (fun q hq => by have := h q hq; rw [if_neg (by omega), if_neg (by omega)] at this; exact this)]
      rw [sTk]
      grind
    · match n, hn, h, e with
      | 0, hn, _, e => omega
      | n + 1, hn, h, e =>
        have h1 := h n (by omega)
        rw [if_pos (by omega), if_pos (by omega)] at h1
        rw [sTk, sTk_rem n (by omega) (fun q hq => h q (by omega)), h1.1, h1.2, show sTk P W k (n + 1 + 1) = sTk P W k (n + 1) + (if P (n + 1) = k then W (n + 1) else 0) from rfl]
        grind
theorem RV.rem (h : RV S cn wk sc R Q F Wd P Hm N O) {r : Nat} (hr : r < cn) :
    RV (fRem S cn r) (cn - 1) wk sc R Q (upd F (ix (P r)) (F (ix (P r)) - Wd r)) (fShf Wd r (cn - 1 - r)) (fShf P r (cn - 1 - r)) (fShf Hm r (cn - 1 - r)) (fShf N r (cn - 1 - r)) (fShf O r (cn - 1 - r)) := by
  have hc := h.hc
  have sh : ∀ (A : Nat → Int32) (j q : Nat), j < 5 → (∀ i, i < cn → A i = gW S j i) → q < cn - 1 → fShf A r (cn - 1 - r) q = gW (fRem S cn r) j q := fun A j q hj hA hq => by
    rw [fShf_at, fRem_gW hr hj hq]
    by_cases e : r ≤ q
    · rw [if_pos (by omega), if_pos e]; exact hA _ (by omega)
    · rw [if_neg (by omega), if_neg e]; exact hA _ (by omega)
  refine ⟨?_, by omega, ?_, ?_, fun i hi => ?_, fun i hi => ?_, fun k hk => ?_, fun i hi => sh _ 0 i (by omega) h.hW hi, fun i hi => sh _ 1 i (by omega) h.hP hi, fun i hi => sh _ 2 i (by omega) h.hH hi, fun i hi => sh _ 3 i (by omega) h.hN hi, fun i hi => sh _ 4 i (by omega) h.hO hi, fun i hi => ?_, fun i hi => ?_, fun i hi => ?_, fun i hi => ?_, fun i h1 h2 => ?_⟩
  · rw [fRem, fClr_lo _ _ (by omega), fDel_lo _ _ (by omega), pk_us]
  · rw [fRem_lo (by omega) (by omega)]; exact h.s1
  · rw [fRem_lo (by omega) (by omega)]; exact h.s2
  · exact (h.hR i hi).trans (fRem_lo (a := 3 + i) (by omega) (by omega)).symm
  · exact (h.hQ i hi).trans (fRem_lo (a := 9 + i) (by omega) (by omega)).symm
  · have e := sTk_rem (P := gW S 1) (W := gW S 0) (P2 := gW (fRem S cn r) 1) (W2 := gW (fRem S cn r) 0) (k := nI k) (r := r) (cn - 1) (by omega) (fun q hq => ⟨fRem_gW hr (by omega) hq, fRem_gW hr (by omega) hq⟩)
    rw [e, show cn - 1 + 1 = cn by omega, ← h.hF k hk, h.hP r hr, h.hW r hr]
    have e2 := nI_ix (h.ok r hr).1 hk
    by_cases a : k = ix (gW S 1 r)
    · rw [if_pos (e2.mpr a), ← a, pk_us]
    · rw [if_neg (fun q => a (e2.mp q)), pk_un a, Int32.sub_zero]
  · rw [fRem_gW hr (by omega) hi, fRem_gW hr (by omega) hi]
    by_cases e : r ≤ i
    · rw [if_pos e, if_pos e]; exact h.ok _ (by omega)
    · rw [if_neg e, if_neg e]; exact h.ok _ (by omega)
  · rw [fRem_gW hr (by omega) hi]
    by_cases e : r ≤ i
    · rw [if_pos e]; exact h.bW _ (by omega)
    · rw [if_neg e]; exact h.bW _ (by omega)
  · rw [show gR (fRem S cn r) i = gR S i from fRem_lo (a := 3 + i) (by omega) (by omega)]; exact h.bR i hi
  · rw [show gQ (fRem S cn r) i = gQ S i from fRem_lo (a := 9 + i) (by omega) (by omega)]; exact h.bQ i hi
  · rw [fRem_hi hr (by omega) h1, fRem_hi hr (by omega) h1]
    by_cases e : i = cn - 1
    · rw [if_pos e, if_pos e]; exact ⟨rfl, rfl⟩
    · rw [if_neg e, if_neg e]; exact h.z i (by omega) h2
end PURE6
