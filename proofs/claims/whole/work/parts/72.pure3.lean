section PURE3
variable {S : Nat → Int32} {cn : Nat} {wk sc : Int32} {R Q F Wd P Hm N O : Nat → Int32}
theorem cxSet_eq (h : RV S cn wk sc R Q F Wd P Hm N O) {y z u : Int32} : cxSet F y z u = cdSet S cn y z u := by
  rw [cxSet, cdSet]
  by_cases e : sIn y 0 5 = true
  · have hk := sh_ok e
    have h1 : F (ix y) = sTk (gW S 1) (gW S 0) y cn := by rw [h.hF _ hk.2, ← hk.1]
    rw [if_pos e, if_pos e, h1]
  · rw [if_neg e, if_neg e]
theorem fSet_gW {k j : Nat} {z u : Int32} (hk : k < 6) : gW (fSet S k z u) j = gW S j := by
  rw [fSet, gW_low (by omega), gW_low (by omega)]
theorem fSet_gR {k : Nat} {z u : Int32} (hk : k < 6) {i : Nat} (hi : i < 6) : gR (fSet S k z u) i = upd (gR S) k z i := by
  show upd (upd S (3 + k) z) (9 + k) u (3 + i) = _
  rw [pk_un (by omega)]
  by_cases e : i = k
  · subst e; rw [pk_us, pk_us]
  · rw [pk_un (by omega), pk_un e]; rfl
theorem fSet_gQ {k : Nat} {z u : Int32} (hk : k < 6) {i : Nat} (hi : i < 6) : gQ (fSet S k z u) i = upd (gQ S) k u i := by
  show upd (upd S (3 + k) z) (9 + k) u (9 + i) = _
  by_cases e : i = k
  · subst e; rw [pk_us, pk_us]
  · rw [pk_un (by omega), pk_un (by omega), pk_un e]; rfl
theorem fSet_lo {k a : Nat} {z u : Int32} (ha : a < 3) : fSet S k z u a = S a := by
  rw [fSet, pk_un (by omega), pk_un (by omega)]
theorem in_le {v lo hi : Int32} (h : sIn v lo hi = true) : lo ≤ v ∧ v ≤ hi := by
  simpa [sIn] using h
theorem RV.set (h : RV S cn wk sc R Q F Wd P Hm N O) {k : Nat} {z u : Int32} (hk : k < 6) (hz : sIn z 10 99 = true) (hu : sIn u 1 99 = true) : RV (fSet S k z u) cn wk sc (upd R k z) (upd Q k u) F Wd P Hm N O := by
  refine ⟨?_, h.hc, ?_, ?_, fun i hi => ?_, fun i hi => ?_, ?_, ?_, ?_, ?_, ?_, ?_, ?_, ?_, fun i hi => ?_, fun i hi => ?_, ?_⟩
  · rw [fSet_lo (by omega)]; exact h.s0
  · rw [fSet_lo (by omega)]; exact h.s1
  · rw [fSet_lo (by omega)]; exact h.s2
  · rw [fSet_gR hk hi]
    by_cases e : i = k
    · subst e; rw [pk_us, pk_us]
    · rw [pk_un e, pk_un e]; exact h.hR i hi
  · rw [fSet_gQ hk hi]
    by_cases e : i = k
    · subst e; rw [pk_us, pk_us]
    · rw [pk_un e, pk_un e]; exact h.hQ i hi
  · rw [fSet_gW hk, fSet_gW hk]; exact h.hF
  · rw [fSet_gW hk]; exact h.hW
  · rw [fSet_gW hk]; exact h.hP
  · rw [fSet_gW hk]; exact h.hH
  · rw [fSet_gW hk]; exact h.hN
  · rw [fSet_gW hk]; exact h.hO
  · rw [fSet_gW hk, fSet_gW hk]; exact h.ok
  · rw [fSet_gW hk]; exact h.bW
  · rw [fSet_gR hk hi]
    by_cases e : i = k
    · subst e; rw [pk_us]; exact in_le hz
    · rw [pk_un e]; exact h.bR i hi
  · rw [fSet_gQ hk hi]
    by_cases e : i = k
    · subst e; rw [pk_us]; exact in_le hu
    · rw [pk_un e]; exact h.bQ i hi
  · rw [fSet_gW hk, fSet_gW hk]; exact h.z
theorem cxAdd_eq (h : RV S cn wk sc R Q F Wd P Hm N O) {y z : Int32} : cxAdd R F cn y z = cdAdd S cn y z := by
  rw [cxAdd, cdAdd]
  by_cases e : sIn z 0 5 = true
  · have hk := sh_ok e
    rw [if_pos e, if_pos e, h.free hk.2]
    by_cases e2 : sIn y 1 30 = true
    · rw [if_pos e2, if_pos e2]
      have hc := h.hc
      by_cases e3 : cn = 16 ∨ sRm S cn (ix z) < y
      · rw [if_pos e3, if_neg]
        intro q
        rw [Bool.and_eq_true, decide_eq_true_eq, decide_eq_true_eq] at q
        rcases e3 with e3 | e3
        · omega
        · exact Int32.not_lt.mpr q.2 e3
      · rw [if_neg e3, if_pos]
        rw [Bool.and_eq_true, decide_eq_true_eq, decide_eq_true_eq]
        exact ⟨by omega, Int32.not_lt.mp (fun q => e3 (Or.inr q))⟩
    · rw [if_neg e2, if_neg e2]
  · rw [if_neg e, if_neg e]
theorem has_in (h : RO S cn) {y : Int32} : sHas y cn = sIn y 0 (S 0 - 1) := by
  have hc := h.2.1
  rw [h.1]
  by_cases e : sIn y 0 (nI cn - 1) = true
  · obtain ⟨r, hr, rfl⟩ := rc_of hc e
    rw [e, sHas, decide_eq_true (show (0 : Int32) ≤ nI r from (nI_leI (a := 0) (b := r) (by decide) (by omega)).mpr (Nat.zero_le _)), decide_eq_true ((nI_ltI (by omega) (by omega)).mpr hr)]; rfl
  · rw [Bool.not_eq_true] at e
    rw [e]
    by_cases f : sHas y cn = true
    · obtain ⟨r, hr, rfl⟩ := has_of hc f
      cases cn with
      | zero => omega
      | succ n =>
        rw [nI_pred] at e
        rw [sIn, decide_eq_true (show (0 : Int32) ≤ nI r from (nI_leI (a := 0) (b := r) (by decide) (by omega)).mpr (Nat.zero_le _)), decide_eq_true ((nI_leI (by omega) (by omega)).mpr (show r ≤ n by omega))] at e
        exact absurd e (by decide)
    · exact Bool.not_eq_true _ ▸ f
theorem cxMp_eq (h : RV S cn wk sc R Q F Wd P Hm N O) {y z : Int32} : cxMp P R F Wd cn y z = cdMp S cn y z := by
  rw [cxMp, cdMp, has_in h.ro]
  by_cases e : sIn y 0 (S 0 - 1) = true ∧ sIn z 0 5 = true
  · rw [if_pos e, if_pos e]
    have hk := sh_ok e.2
    have hr := has_ok h.hc ((has_in h.ro).trans e.1)
    rw [h.hP _ hr.2, h.hW _ hr.2, h.free hk.2, ← hk.1]
    by_cases e3 : ¬ gW S 1 (ix y) = z ∧ sRm S cn (ix z) < gW S 0 (ix y)
    · rw [if_pos e3, if_neg]
      intro q
      rw [Bool.or_eq_true, decide_eq_true_eq, decide_eq_true_eq] at q
      rcases q with q | q
      · exact e3.1 q
      · exact Int32.not_lt.mpr q e3.2
    · rw [if_neg e3, if_pos]
      rw [Bool.or_eq_true, decide_eq_true_eq, decide_eq_true_eq]
      by_cases f : gW S 1 (ix y) = z
      · exact Or.inl f
      · exact Or.inr (Int32.not_lt.mp (fun q => e3 ⟨f, q⟩))
  · rw [if_neg e, if_neg e]
end PURE3
