/-- the vault's rows and the check's row tell the same -/
def RV (S : Nat → Int32) (cn : Nat) (wk sc : Int32) (R Q F Wd P Hm N O : Nat → Int32) : Prop := (S 0 = nI cn) ∧ (cn ≤ 16) ∧ (S 1 = wk) ∧ (S 2 = sc) ∧ (∀ k, k < 6 → R k = gR S k) ∧ (∀ k, k < 6 → Q k = gQ S k) ∧ (∀ k, k < 6 → F k = sTk (gW S 1) (gW S 0) (nI k) cn) ∧ (∀ r, r < cn → Wd r = gW S 0 r) ∧ (∀ r, r < cn → P r = gW S 1 r) ∧ (∀ r, r < cn → Hm r = gW S 2 r) ∧ (∀ r, r < cn → N r = gW S 3 r) ∧ (∀ r, r < cn → O r = gW S 4 r) ∧ (∀ r, r < cn → Ok6 (gW S 1 r) ∧ Ok6 (gW S 2 r)) ∧ (∀ r, r < cn → 1 ≤ gW S 0 r ∧ gW S 0 r ≤ 30) ∧ (∀ k, k < 6 → 10 ≤ gR S k ∧ gR S k ≤ 99) ∧ (∀ k, k < 6 → 1 ≤ gQ S k ∧ gQ S k ≤ 99) ∧ (∀ r, cn ≤ r → r < 16 → gW S 3 r = 0 ∧ gW S 4 r = 0)
section PURE1
variable {S : Nat → Int32} {cn : Nat} {wk sc : Int32} {R Q F Wd P Hm N O : Nat → Int32}
theorem RV.s0 (h : RV S cn wk sc R Q F Wd P Hm N O) : S 0 = nI cn := h.1
theorem RV.hc (h : RV S cn wk sc R Q F Wd P Hm N O) : cn ≤ 16 := h.2.1
theorem RV.s1 (h : RV S cn wk sc R Q F Wd P Hm N O) : S 1 = wk := h.2.2.1
theorem RV.s2 (h : RV S cn wk sc R Q F Wd P Hm N O) : S 2 = sc := h.2.2.2.1
theorem RV.hR (h : RV S cn wk sc R Q F Wd P Hm N O) : ∀ k, k < 6 → R k = gR S k := h.2.2.2.2.1
theorem RV.hQ (h : RV S cn wk sc R Q F Wd P Hm N O) : ∀ k, k < 6 → Q k = gQ S k := h.2.2.2.2.2.1
theorem RV.hF (h : RV S cn wk sc R Q F Wd P Hm N O) : ∀ k, k < 6 → F k = sTk (gW S 1) (gW S 0) (nI k) cn := h.2.2.2.2.2.2.1
theorem RV.hW (h : RV S cn wk sc R Q F Wd P Hm N O) : ∀ r, r < cn → Wd r = gW S 0 r := h.2.2.2.2.2.2.2.1
theorem RV.hP (h : RV S cn wk sc R Q F Wd P Hm N O) : ∀ r, r < cn → P r = gW S 1 r := h.2.2.2.2.2.2.2.2.1
theorem RV.hH (h : RV S cn wk sc R Q F Wd P Hm N O) : ∀ r, r < cn → Hm r = gW S 2 r := h.2.2.2.2.2.2.2.2.2.1
theorem RV.hN (h : RV S cn wk sc R Q F Wd P Hm N O) : ∀ r, r < cn → N r = gW S 3 r := h.2.2.2.2.2.2.2.2.2.2.1
theorem RV.hO (h : RV S cn wk sc R Q F Wd P Hm N O) : ∀ r, r < cn → O r = gW S 4 r := h.2.2.2.2.2.2.2.2.2.2.2.1
theorem RV.ok (h : RV S cn wk sc R Q F Wd P Hm N O) : ∀ r, r < cn → Ok6 (gW S 1 r) ∧ Ok6 (gW S 2 r) := h.2.2.2.2.2.2.2.2.2.2.2.2.1
theorem RV.bW (h : RV S cn wk sc R Q F Wd P Hm N O) : ∀ r, r < cn → 1 ≤ gW S 0 r ∧ gW S 0 r ≤ 30 := h.2.2.2.2.2.2.2.2.2.2.2.2.2.1
theorem RV.bR (h : RV S cn wk sc R Q F Wd P Hm N O) : ∀ k, k < 6 → 10 ≤ gR S k ∧ gR S k ≤ 99 := h.2.2.2.2.2.2.2.2.2.2.2.2.2.2.1
theorem RV.bQ (h : RV S cn wk sc R Q F Wd P Hm N O) : ∀ k, k < 6 → 1 ≤ gQ S k ∧ gQ S k ≤ 99 := h.2.2.2.2.2.2.2.2.2.2.2.2.2.2.2.1
theorem RV.z (h : RV S cn wk sc R Q F Wd P Hm N O) : ∀ r, cn ≤ r → r < 16 → gW S 3 r = 0 ∧ gW S 4 r = 0 := h.2.2.2.2.2.2.2.2.2.2.2.2.2.2.2.2
theorem RV.ro (h : RV S cn wk sc R Q F Wd P Hm N O) : RO S cn := ⟨h.s0, h.hc, h.ok⟩
theorem RV.vo (h : RV S cn wk sc R Q F Wd P Hm N O) : VO P Hm cn := ⟨h.hc, fun r hr => by rw [h.hP r hr, h.hH r hr]; exact h.ok r hr⟩
theorem RV.free (h : RV S cn wk sc R Q F Wd P Hm N O) {k : Nat} (hk : k < 6) : R k - F k = sRm S cn k := by
  rw [h.hR k hk, h.hF k hk]; rfl
theorem RV.heft (h : RV S cn wk sc R Q F Wd P Hm N O) {r : Nat} (hr : r < cn) : sHf N O r = sHf (gW S 3) (gW S 4) r := by
  rw [sHf, sHf, h.hN r hr, h.hO r hr]
theorem RV.mis (h : RV S cn wk sc R Q F Wd P Hm N O) {r : Nat} (hr : r < cn) : sMis P Hm r = sMis (gW S 1) (gW S 2) r := by
  rw [sMis, sMis, h.hP r hr, h.hH r hr]
theorem RV.cost (h : RV S cn wk sc R Q F Wd P Hm N O) : ∀ n, n ≤ cn → sCo N O Hm Q n = sCo (gW S 3) (gW S 4) (gW S 2) (gQ S) n
  | 0, _ => rfl
  | n + 1, hn => by
    rw [sCo, sCo, h.cost n (by omega), h.heft (r := n) (by omega), h.hH n (by omega), h.hQ _ (h.ok n (by omega)).2.2]
theorem RV.many (h : RV S cn wk sc R Q F Wd P Hm N O) : ∀ n, n ≤ cn → cMm P Hm n = sMm (gW S 1) (gW S 2) n
  | 0, _ => rfl
  | n + 1, hn => by
    rw [cMm, sMm, h.many n (by omega), h.mis (r := n) (by omega)]
    by_cases e : sMis (gW S 1) (gW S 2) n = true
    · rw [if_pos e, if_pos e]
    · rw [if_neg e, if_neg e, Int32.add_zero]
/-- small numbers: their differences are what they are -/
theorem sm_lt {a b : Int32} (ha : 1 ≤ a ∧ a ≤ 99) (hb : 1 ≤ b ∧ b ≤ 99) : (a - b < 0) ↔ a < b := by
  obtain ⟨i, hi, rfl⟩ := nI_of (x := a) (Int32.not_lt.mpr (Int32.le_trans (show (0 : Int32) ≤ 1 by decide) ha.1))
  obtain ⟨j, hj, rfl⟩ := nI_of (x := b) (Int32.not_lt.mpr (Int32.le_trans (show (0 : Int32) ≤ 1 by decide) hb.1))
  have h1 := (nI_leI (b := 99) hi (by decide)).mp ha.2
  have h2 := (nI_leI (b := 99) hj (by decide)).mp hb.2
  have key : ∀ i, i < 100 → ∀ j, j < 100 → ((nI i - nI j < 0) ↔ nI i < nI j) := by decide +kernel
  exact key i (by omega) j (by omega)
theorem sm_eq {a b : Int32} : (a - b = 0) ↔ a = b := ⟨fun h => by rw [← Int32.sub_add_cancel a b, h, Int32.zero_add], fun h => by rw [h, Int32.sub_self]⟩
theorem RV.near (h : RV S cn wk sc R Q F Wd P Hm N O) {a b : Nat} (ha : a < 6) (hb : b < 6) : sBf Q a b = sNear (gQ S) a b := by
  rw [sBf, sNear, h.hQ a ha, h.hQ b hb]
  congr 1
  · exact decide_eq_decide.mpr (sm_lt (h.bQ a ha) (h.bQ b hb)).symm
  · congr 1
    exact decide_eq_decide.mpr sm_eq.symm
theorem RV.wl (h : RV S cn wk sc R Q F Wd P Hm N O) {j p : Nat} (hj : j < 6) (hp : p < 6) : ∀ n, n ≤ 6 → cWl Q j p n = sWl (gQ S) j p n
  | 0, _ => h.hQ j hj
  | n + 1, hn => by
    rw [cWl, sWl, h.wl hj hp n (by omega), h.near hp (b := n) (by omega), h.hQ n (by omega)]
    by_cases e : (!decide (n = j) && !sNear (gQ S) p n) = true
    · rw [if_pos e, if_pos e]
    · rw [if_neg e, if_neg e, Int32.add_zero]
theorem RV.walk (h : RV S cn wk sc R Q F Wd P Hm N O) {r : Nat} (hr : r < cn) : cWalk Q P Hm r = sWalk (gQ S) (gW S 1) (gW S 2) r := by
  rw [cWalk, sWalk, h.mis hr, h.hH r hr, h.hP r hr, h.wl (h.ok r hr).2.2 (h.ok r hr).1.2 6 (by omega), h.hQ _ (h.ok r hr).2.2]
theorem RV.gm (h : RV S cn wk sc R Q F Wd P Hm N O) {r k : Nat} (hr : r < cn) (hk : k < 6) : cMg N O Q P r k = sGm S r k := by
  rw [cMg, sGm, h.heft hr, h.hP r hr, h.hQ k hk, h.hQ _ (h.ok r hr).1.2]; rfl
theorem RV.reason (h : RV S cn wk sc R Q F Wd P Hm N O) {r k : Nat} (hr : r < cn) (hk : k < 6) : cRsn N O Q P Hm R F Wd r k = rsn S cn r k := by
  rw [cRsn, rsn, h.mis hr, h.hP r hr, h.free hk, h.hW r hr, h.gm hr hk]
end PURE1
