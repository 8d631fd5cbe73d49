/-! what the law does to the class, as a function of the vault -/
def lowN (v : Int32) (n : Nat) : Nat := ix (v &&& 2147483647) % n
theorem lowN_lt {v : Int32} {n : Nat} (h : 0 < n) : lowN v n < n := Nat.mod_lt _ h
theorem msk31 (v : Int32) : v &&& 2147483647 = nI (ix (v &&& 2147483647)) ∧ ix (v &&& 2147483647) < 2147483648 := by
  have h := Jvm.Kit.i32_mask v 2147483647 (k := 31) (by decide) (by decide)
  obtain ⟨j, hj, e⟩ := nI_of (x := v &&& 2147483647) (by rw [i_lt, h, show (0 : Int32).toInt = 0 from rfl]; omega)
  rw [e, ix_nI (by omega)]
  exact ⟨rfl, by omega⟩
theorem msk4 (v : Int32) : ∃ j, j < 16 ∧ v &&& nI 15 = nI j := by
  have h := Jvm.Kit.i32_mask v (nI 15) (k := 4) (by decide) (by decide)
  obtain ⟨j, hj, e⟩ := nI_of (x := v &&& nI 15) (by rw [i_lt, h, show (0 : Int32).toInt = 0 from rfl]; omega)
  rw [e, nI_toInt (by omega)] at h
  exact ⟨j, by omega, e⟩
def aK (y : Int32) (cn : Nat) : Nat := if cn = 0 then 0 else lowN (y >>> (nI 4 &&& 31)) cn
def aS (z : Int32) : Nat := lowN z 6
def aW (z : Int32) : Nat := 1 + lowN (z >>> (nI 4 &&& 31)) (if (z >>> (nI 20 &&& 31)) &&& nI 1 = 0 then 9 else 30)
def aU (z : Int32) : Nat := 1 + lowN (z >>> (nI 4 &&& 31)) 99
def aM (z : Int32) : Nat := 1 + lowN z 20
theorem aS_lt (z : Int32) : aS z < 6 := lowN_lt (by decide)
theorem aW_le (z : Int32) : 1 ≤ aW z ∧ aW z ≤ 30 := by
  unfold aW
  split
  · have := lowN_lt (v := z >>> (nI 4 &&& 31)) (n := 9) (by decide); omega
  · have := lowN_lt (v := z >>> (nI 4 &&& 31)) (n := 30) (by decide); omega
theorem aU_le (z : Int32) : 1 ≤ aU z ∧ aU z ≤ 99 := by
  unfold aU
  have := lowN_lt (v := z >>> (nI 4 &&& 31)) (n := 99) (by decide); omega
theorem aM_le (z : Int32) : 1 ≤ aM z ∧ aM z ≤ 20 := by
  unfold aM
  have := lowN_lt (v := z) (n := 20) (by decide); omega
theorem aK_lt {y : Int32} {cn : Nat} (h : cn ≠ 0) : aK y cn < cn := by
  unfold aK
  rw [if_neg h]; exact lowN_lt (by omega)
abbrev b0 : CS := (0, 0, 0, 0)
def eAdd (w k : Nat) (V : VS) : VS := (V.1 + 1, V.2.1, V.2.2.1, mk8 (V.2.2.2 0) (V.2.2.2 1) (upd (V.2.2.2 2) k (V.2.2.2 2 k + nI w)) (upd (V.2.2.2 3) V.1 (nI w)) (upd (V.2.2.2 4) V.1 (nI k)) (upd (V.2.2.2 5) V.1 (nI k)) (upd (V.2.2.2 6) V.1 0) (upd (V.2.2.2 7) V.1 0))
def eSet (k u : Nat) (V : VS) : VS := (V.1, V.2.1, V.2.2.1, mk8 (upd (V.2.2.2 0) k (nI 99)) (upd (V.2.2.2 1) k (nI u)) (V.2.2.2 2) (V.2.2.2 3) (V.2.2.2 4) (V.2.2.2 5) (V.2.2.2 6) (V.2.2.2 7))
def eRem (r : Nat) (V : VS) : VS := (V.1 - 1, V.2.1, V.2.2.1, mk8 (V.2.2.2 0) (V.2.2.2 1) (upd (V.2.2.2 2) (ix (V.2.2.2 4 r)) (V.2.2.2 2 (ix (V.2.2.2 4 r)) - V.2.2.2 3 r)) (fShf (V.2.2.2 3) r (V.1 - 1 - r)) (fShf (V.2.2.2 4) r (V.1 - 1 - r)) (fShf (V.2.2.2 5) r (V.1 - 1 - r)) (fShf (V.2.2.2 6) r (V.1 - 1 - r)) (fShf (V.2.2.2 7) r (V.1 - 1 - r)))
def eMis (r k : Nat) (V : VS) : VS := (V.1, V.2.1, V.2.2.1, mk8 (V.2.2.2 0) (V.2.2.2 1) (fPn (V.2.2.2 2) (V.2.2.2 4) (V.2.2.2 3) r k) (V.2.2.2 3) (upd (V.2.2.2 4) r (nI k)) (V.2.2.2 5) (V.2.2.2 6) (V.2.2.2 7))
def eMon (V : VS) : VS := (V.1, V.2.1, V.2.2.1, mk8 (V.2.2.2 0) (V.2.2.2 1) (V.2.2.2 2) (V.2.2.2 3) (V.2.2.2 4) (V.2.2.2 5) (cMnN (V.2.2.2 6) V.1) (cMnO (V.2.2.2 6) (V.2.2.2 7) V.1))
def eCal (r : Nat) (V : VS) : VS := (V.1, V.2.1 + cWalk (V.2.2.2 1) (V.2.2.2 4) (V.2.2.2 5) r, V.2.2.1, mk8 (V.2.2.2 0) (V.2.2.2 1) (V.2.2.2 2) (V.2.2.2 3) (V.2.2.2 4) (upd (V.2.2.2 5) r (V.2.2.2 4 r)) (upd (V.2.2.2 6) r (V.2.2.2 6 r + 1)) (V.2.2.2 7))
/-- a night's work from a vault -/
def wN (m : Nat) (V : VS) (b : CS) : Nat × NS := cW1 (V.2.2.2 6) (V.2.2.2 7) (V.2.2.2 1) (V.2.2.2 3) (V.2.2.2 0) V.1 m ((V.2.2.2 2, V.2.2.2 4, V.2.2.2 5, V.2.2.1), b)
def eNi (x : (Nat → Int32) × (Nat → Int32) × (Nat → Int32) × Int32) (V : VS) : VS := (V.1, V.2.1, x.2.2.2, mk8 (V.2.2.2 0) (V.2.2.2 1) x.1 (V.2.2.2 3) x.2.1 x.2.2.1 (V.2.2.2 6) (V.2.2.2 7))
def oAdd (z : Int32) (V : VS) : Option (Int32 × VS) := if V.1 = 16 ∨ V.2.2.2 0 (aS z) - V.2.2.2 2 (aS z) < nI (aW z) then none else some (nI V.1, eAdd (aW z) (aS z) V)
def oSet (z : Int32) (V : VS) : Option (Int32 × VS) := some (upd (V.2.2.2 0) (aS z) (nI 99) (aS z) - V.2.2.2 2 (aS z), eSet (aS z) (aU z) V)
def oRem (y : Int32) (V : VS) : Option (Int32 × VS) := if V.1 = 0 then none else some (V.2.2.2 4 (aK y V.1), eRem (aK y V.1) V)
def oMis (y z : Int32) (V : VS) : Option (Int32 × VS) := if V.1 = 0 ∨ (V.2.2.2 4 (aK y V.1) ≠ nI (aS z) ∧ V.2.2.2 0 (aS z) - V.2.2.2 2 (aS z) < V.2.2.2 3 (aK y V.1)) then none else some (V.2.2.2 4 (aK y V.1), eMis (aK y V.1) (aS z) V)
def oMon (V : VS) : Option (Int32 × VS) := some (cBg (V.2.2.2 6) V.1, eMon V)
def oNi (z : Int32) (V : VS) : Option (Int32 × VS) := some (nI (wN (aM z) V b0).1, eNi (wN (aM z) V b0).2.1 V)
def oCal (y : Int32) (V : VS) : Option (Int32 × VS) := if V.1 = 0 then none else some (cWalk (V.2.2.2 1) (V.2.2.2 4) (V.2.2.2 5) (aK y V.1), eCal (aK y V.1) V)
def aO (j : Nat) (y z : Int32) (V : VS) : Option (Int32 × VS) := match j with
  | 0 => oAdd z V
  | 1 => oAdd z V
  | 2 => oAdd z V
  | 3 => oAdd z V
  | 4 => oSet z V
  | 5 => oRem y V
  | 6 => oMis y z V
  | 7 => oMis y z V
  | 8 => oMon V
  | 9 => oNi z V
  | 10 => oNi z V
  | _ => oCal y V
/-- the law's act: nothing, or an answer and the vault behind it -/
def actO (y z : Int32) (V : VS) : Option (Int32 × VS) := aO (ix (y &&& nI 15)) y z V
section PU4
variable {B : Nat} {V V' : VS} {y z x : Int32}
theorem INV.up (h : INV B V) {B2 : Nat} (h1 : B ≤ B2) (h2 : B2 ≤ 1000) : INV B2 V := IV.up h h1 h2
theorem wN_eq (m : Nat) (V : VS) (b b' : CS) : (wN m V b).1 = (wN m V b').1 ∧ (wN m V b).2.1 = (wN m V b').2.1 := W1_eq b b' m _
theorem oAdd_ok (h : INV B V) (e : oAdd z V = some (x, V')) : 0 ≤ x.toInt ∧ INV B V' := by
  unfold oAdd at e
  by_cases c : V.1 = 16 ∨ V.2.2.2 0 (aS z) - V.2.2.2 2 (aS z) < nI (aW z)
  · rw [if_pos c] at e; cases e
  · rw [if_neg c] at e; cases e
    have hc := IV.hc h
    refine ⟨by rw [nI_toInt (by omega)]; omega, IV.add h (by omega) (aS_lt z) (aW_le z) (Int32.not_lt.mp (fun q => c (Or.inr q)))⟩
theorem oSet_ok (h : INV B V) (e : oSet z V = some (x, V')) : 0 ≤ x.toInt ∧ INV B V' := by
  unfold oSet at e
  cases e
  have h2 := IV.fb h (aS_lt z)
  have e99 : (nI 99).toInt = 99 := rfl
  refine ⟨by rw [pk_us, i_sub (by rw [e99]; omega), e99]; omega, IV.setS h (aS_lt z) (aU_le z)⟩
theorem ok6_nn {v : Int32} (h : Ok6 v) : 0 ≤ v.toInt := by
  rw [h.1, nI_toInt (by have := h.2; omega)]; omega
theorem oRem_ok (h : INV B V) (e : oRem y V = some (x, V')) : 0 ≤ x.toInt ∧ INV B V' := by
  unfold oRem at e
  by_cases c : V.1 = 0
  · rw [if_pos c] at e; cases e
  · rw [if_neg c] at e; cases e
    have hk := aK_lt (y := y) c
    exact ⟨ok6_nn (h.1.2 _ hk).1, IV.rem h hk⟩
theorem oMis_ok (h : INV B V) (e : oMis y z V = some (x, V')) : 0 ≤ x.toInt ∧ INV B V' := by
  unfold oMis at e
  by_cases c : V.1 = 0 ∨ (V.2.2.2 4 (aK y V.1) ≠ nI (aS z) ∧ V.2.2.2 0 (aS z) - V.2.2.2 2 (aS z) < V.2.2.2 3 (aK y V.1))
  · rw [if_pos c] at e; cases e
  · rw [if_neg c] at e; cases e
    have c0 : V.1 ≠ 0 := fun q => c (Or.inl q)
    have hk := aK_lt (y := y) c0
    refine ⟨ok6_nn (h.1.2 _ hk).1, IV.put h hk (aS_lt z) ?_⟩
    by_cases f : V.2.2.2 4 (aK y V.1) = nI (aS z)
    · exact Or.inl f
    · exact Or.inr (Int32.not_lt.mp (fun q => c (Or.inr ⟨f, q⟩)))
theorem oMon_ok (h : INV B V) (e : oMon V = some (x, V')) : 0 ≤ x.toInt ∧ INV B V' := by
  unfold oMon at e
  cases e
  exact ⟨(IV.bg h V.1 (Nat.le_refl _)).1, IV.mon h⟩
theorem oNi_ok (h : INV B V) (e : oNi z V = some (x, V')) : 0 ≤ x.toInt ∧ INV B V' := by
  unfold oNi at e
  cases e
  have hn := IV.night (N := V.2.2.2 6) (O := V.2.2.2 7) (Q := V.2.2.2 1) (Wd := V.2.2.2 3) (R := V.2.2.2 0) (cn := V.1) (B := B) (aM z) ((V.2.2.2 2, V.2.2.2 4, V.2.2.2 5, V.2.2.1), b0) h
  have hm := aM_le z
  have h1 : (wN (aM z) V b0).1 ≤ aM z := hn.1
  exact ⟨by rw [nI_toInt (by omega)]; omega, hn.2.1⟩
theorem oCal_ok (h : INV B V) (hB : B + 1 ≤ 1000) (e : oCal y V = some (x, V')) : 0 ≤ x.toInt ∧ INV (B + 1) V' := by
  unfold oCal at e
  by_cases c : V.1 = 0
  · rw [if_pos c] at e; cases e
  · rw [if_neg c] at e; cases e
    have hk := aK_lt (y := y) c
    exact ⟨IV.wk_pos h hk, IV.call h hk hB⟩
theorem actO_ok (h : INV B V) (hB : B + 1 ≤ 1000) (e : actO y z V = some (x, V')) : 0 ≤ x.toInt ∧ INV (B + 1) V' := by
  unfold actO aO at e
  have up : (0 ≤ x.toInt ∧ INV B V') → 0 ≤ x.toInt ∧ INV (B + 1) V' := fun q => ⟨q.1, q.2.up (by omega) hB⟩
  split at e
  · exact up (oAdd_ok h e)
  · exact up (oAdd_ok h e)
  · exact up (oAdd_ok h e)
  · exact up (oAdd_ok h e)
  · exact up (oSet_ok h e)
  · exact up (oRem_ok h e)
  · exact up (oMis_ok h e)
  · exact up (oMis_ok h e)
  · exact up (oMon_ok h e)
  · exact up (oNi_ok h e)
  · exact up (oNi_ok h e)
  · exact oCal_ok h hB e
theorem actO_m9 (h : INV B V) (hB : B + 1 ≤ 1000) (e : actO y z V = some (x, V')) : x ≠ -9 := fun q => by
  have := (actO_ok h hB e).1
  rw [q] at this
  exact absurd this (by decide)
end PU4
/-- the digest of a vault -/
def dgV (V : VS) (b : CS) : Int64 := cDr (V.2.2.2 6) (V.2.2.2 7) (V.2.2.2 1) (V.2.2.2 4) (V.2.2.2 5) (V.2.2.2 3) (cDs (V.2.2.2 0) (V.2.2.2 2) (V.2.2.2 1) (dh (dh (dh (dh (dh (dh 4424 (nI V.1)) (cMm (V.2.2.2 4) (V.2.2.2 5) V.1)) V.2.1) (sCo (V.2.2.2 6) (V.2.2.2 7) (V.2.2.2 5) (V.2.2.2 1) V.1)) V.2.2.1) (cF (V.2.2.2 6) (V.2.2.2 7) (V.2.2.2 1) (V.2.2.2 4) (V.2.2.2 5) (V.2.2.2 3) (V.2.2.2 0) (V.2.2.2 2) V.1 b).1) 6) V.1
theorem dgV_eq (V : VS) (b b' : CS) : dgV V b = dgV V b' := by
  unfold dgV
  rw [f_eq1 b b']
