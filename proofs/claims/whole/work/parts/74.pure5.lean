section PURE5
variable {S : Nat → Int32} {cn : Nat} {wk sc : Int32} {R Q F Wd P Hm N O : Nat → Int32}
theorem RV.cgF (h : RV S cn wk sc R Q F Wd P Hm N O) {F2 : Nat → Int32} (e : ∀ k, k < 6 → F2 k = F k) : RV S cn wk sc R Q F2 Wd P Hm N O :=
  ⟨h.s0, h.hc, h.s1, h.s2, h.hR, h.hQ, fun k hk => (e k hk).trans (h.hF k hk), h.hW, h.hP, h.hH, h.hN, h.hO, h.ok, h.bW, h.bR, h.bQ, h.z⟩
theorem nI_ix {v : Int32} (h : Ok6 v) {k : Nat} (hk : k < 6) : (v = nI k) ↔ k = ix v := by
  constructor
  · intro e; rw [e, ix_nI (by omega)]
  · intro e; rw [e]; exact h.1
/-- a record put on a shelf -/
theorem RV.put (h : RV S cn wk sc R Q F Wd P Hm N O) {r k : Nat} (hr : r < cn) (hk : k < 6) :
    RV (upd S (15 + 5 * r + 1) (nI k)) cn wk sc R Q (fPn F P Wd r k) Wd (upd P r (nI k)) Hm N O := by
  refine (h.setP hr (Ok6_nI hk)).cgF (fun i hi => ?_)
  have hp := (h.ok r hr).1
  rw [fPn, h.hP r hr, h.hW r hr]
  have e1 : (nI k = nI i) ↔ i = k := by rw [nI_ix (Ok6_nI hk) hi, ix_nI (by omega)]
  have e2 : (gW S 1 r = nI i) ↔ i = ix (gW S 1 r) := nI_ix hp hi
  by_cases a : i = k
  · subst a
    rw [pk_us, if_pos rfl]
    by_cases b : i = ix (gW S 1 r)
    · rw [if_pos (e2.mpr b), ← b, pk_us]; grind
    · rw [if_neg (fun q => b (e2.mp q)), pk_un b]; grind
  · rw [pk_un a, if_neg (fun q => a (e1.mp q))]
    by_cases b : i = ix (gW S 1 r)
    · rw [if_pos (e2.mpr b), ← b, pk_us]; grind
    · rw [if_neg (fun q => b (e2.mp q)), pk_un b]; grind
theorem RV.mp (h : RV S cn wk sc R Q F Wd P Hm N O) {y z : Int32} (hr : ix y < cn) (hz : Ok6 z) :
    RV (upd S (15 + 5 * (ix y) + 1) z) cn wk sc R Q (fPn F P Wd (ix y) (ix z)) Wd (upd P (ix y) (nI (ix z))) Hm N O := by
  have := h.put hr hz.2
  rw [← hz.1] at this ⊢
  exact this
theorem RV.calls (h : RV S cn wk sc R Q F Wd P Hm N O) {r : Nat} (hr : r < cn) :
    RV (fCalls S r) cn (wk + cWalk Q P Hm r) sc R Q F Wd P (upd Hm r (P r)) (upd N r (N r + 1)) O := by
  have h1 := (h.setN (v := gW S 3 r + 1) hr).setH (v := gW S 1 r) hr (h.ok r hr).1
  have h2 := h1.setWk (v := S 1 + sWalk (gQ S) (gW S 1) (gW S 2) r)
  rw [h.s1, ← h.walk hr, ← h.hN r hr, ← h.hP r hr] at h2
  have e : fCalls S r = upd (upd (upd S (15 + 5 * r + 3) (N r + 1)) (15 + 5 * r + 2) (P r)) 1 (wk + cWalk Q P Hm r) := by
    rw [fCalls, h.s1, ← h.walk hr, ← h.hN r hr, ← h.hP r hr]
  rw [e]
  exact h2
theorem RV.mon (h : RV S cn wk sc R Q F Wd P Hm N O) : ∀ i, i ≤ cn → RV (fMon S i) cn wk sc R Q F Wd P Hm (cMnN N i) (cMnO N O i)
  | 0, _ => h
  | i + 1, hi => by
    have h1 := h.mon i (by omega)
    have h2 := (h1.setO (r := i) (v := gW (fMon S i) 3 i) (by omega)).setN (r := i) (v := 0) (by omega)
    rw [fMon, cMnN, cMnO, h1.hN i (by omega)]
    exact h2
theorem RV.bg (h : RV S cn wk sc R Q F Wd P Hm N O) : ∀ i, i ≤ cn → cBg N i = sBg S i
  | 0, _ => rfl
  | i + 1, hi => by rw [cBg, sBg, h.bg i (by omega), (h.mon i (by omega)).hN i (by omega)]
end PURE5
