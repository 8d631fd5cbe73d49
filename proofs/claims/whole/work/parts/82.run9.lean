section RUN9
variable {S : Nat → Int32} {cn : Nat} {wk sc : Int32} {R Q F Wd P Hm N O : Nat → Int32}
theorem ok6_in {v : Int32} (h : Ok6 v) : sIn v 0 5 = true := by
  rw [h.1, show (0 : Int32) = nI 0 from rfl, show (5 : Int32) = nI 5 from rfl, sIn_d (by have := h.2; omega) (by omega) (by omega), decide_eq_true (Nat.zero_le _), decide_eq_true (by have := h.2; omega)]; rfl
theorem xe_0 (h : RV S cn wk sc R Q F Wd P Hm N O) {y z : Int32} (hy : sIn y 1 30 = true) (hz : Ok6 z) : decide (cdAdd S cn y z = 0) = xbA R F cn y (ix z) := by
  rw [← cxAdd_eq h, cxAdd, if_pos (ok6_in hz), if_pos hy]
  unfold xbA
  by_cases e : (decide (cn < 16) && decide (y ≤ R (ix z) - F (ix z))) = true
  · rw [if_pos e, e]; rfl
  · rw [if_neg e]; rw [Bool.not_eq_true] at e; rw [e]; rfl
theorem xe_2 (h : RV S cn wk sc R Q F Wd P Hm N O) {y z : Int32} (hz : Ok6 z) : decide (cdMp S cn y z = 0) = xbL P R F Wd cn y (ix z) := by
  rw [← cxMp_eq h, cxMp]
  by_cases a : sHas y cn = true
  · rw [if_pos ⟨a, ok6_in hz⟩]
    have e2 : xbL P R F Wd cn y (ix z) = (decide (P (ix y) = nI (ix z)) || decide (Wd (ix y) ≤ R (ix z) - F (ix z))) := by rw [xbL, a, Bool.true_and]
    rw [e2]
    by_cases e : (decide (P (ix y) = nI (ix z)) || decide (Wd (ix y) ≤ R (ix z) - F (ix z))) = true
    · rw [if_pos e, e]; rfl
    · rw [if_neg e]; rw [Bool.not_eq_true] at e; rw [e]; rfl
  · rw [if_neg (fun q => a q.1)]
    rw [Bool.not_eq_true] at a
    rw [xbL, a]; rfl
def RVT (R Q : Nat → Int32) (q : VT) (s : GS) : Prop := q.2.2.1 = s.2.1 ∧ RV s.1 q.2.2.1 q.2.2.2.1 q.1.2.2.2 R Q q.1.1 q.2.1.1 q.1.2.1 q.1.2.2.1 q.2.1.2.1 q.2.1.2.2
/-- one order, by both -/
theorem xe_eq {ad : Nat → Nat} {R' : Nat → Int32} {z : (Nat → Option Nat) × (Nat → Int32) × (Nat → Int32)} {i : Nat} {q : VT} {s : GS} (hO : OEq ad R' z i) (hT : RVT R Q q s) :
    (xE R Q (ix (R' (3 * i)) - 1) (z.2.1 i) (z.2.2 i) q).1 = dCan s.1 s.2.1 R' (3 * i) (ix (R' (3 * i))) ∧
    (dCan s.1 s.2.1 R' (3 * i) (ix (R' (3 * i))) = true → RVT R Q (xE R Q (ix (R' (3 * i)) - 1) (z.2.1 i) (z.2.2 i) q).2 (dT R' i s)) ∧
    (dCan s.1 s.2.1 R' (3 * i) (ix (R' (3 * i))) = false → RVT R Q (xE R Q (ix (R' (3 * i)) - 1) (z.2.1 i) (z.2.2 i) q).2 s) := by
  obtain ⟨w, hw, -, h3, h4, h5, h6, h7⟩ := hO
  have k : ix (R' (3 * i)) = w + 1 := by rw [h3, ix_nI (by omega)]
  have eT : dT R' i s = (dS s.1 s.2.1 s.2.2 R' (3 * i) (w + 1), dC s.1 s.2.1 R' (3 * i) (w + 1), dQ s.1 s.2.1 s.2.2 R' (3 * i) (w + 1)) := by rw [dT, k]
  rw [eT, k, Nat.add_sub_cancel]
  generalize z.2.1 i = y at h4 h6 h7 ⊢
  generalize z.2.2 i = zz at h5 ⊢
  obtain ⟨⟨F, P, Hm, sc⟩, ⟨Wd, N, O⟩, cn, wk, c⟩ := q
  obtain ⟨S, cn2, b⟩ := s
  obtain ⟨hc, h⟩ := hT
  have hc : cn = cn2 := hc
  subst hc
  have h : RV S cn wk sc R Q F Wd P Hm N O := h
  match w, hw with
  | 0, _ =>
    have a := h4 (by decide)
    have bz := h5 (Or.inl rfl)
    have e := xe_0 h (h7 rfl) bz.2
    have eC : dCan S cn R' (3 * i) 1 = decide (cdAdd S cn y zz = 0) := by
      show decide (cdAdd S cn (R' (3 * i + 1)) (R' (3 * i + 2)) = 0) = _
      rw [a, bz.1]
    show xbA R F cn y (ix zz) = dCan S cn R' (3 * i) 1 ∧ (dCan S cn R' (3 * i) 1 = true → RVT R Q (xE R Q 0 y zz ((F, P, Hm, sc), (Wd, N, O), cn, wk, c)).2 (dS S cn b R' (3 * i) 1, dC S cn R' (3 * i) 1, dQ S cn b R' (3 * i) 1)) ∧ (dCan S cn R' (3 * i) 1 = false → RVT R Q (xE R Q 0 y zz ((F, P, Hm, sc), (Wd, N, O), cn, wk, c)).2 (S, cn, b))
    rw [eC, e]
    refine ⟨rfl, fun hb => ?_, fun hb => ?_⟩
    · rw [hb] at e
      have e0 : cdAdd S cn y zz = 0 := of_decide_eq_true e
      have eD : dS S cn b R' (3 * i) 1 = fAdds S cn y zz := by
        show (if cdAdd S cn (R' (3 * i + 1)) (R' (3 * i + 2)) = 0 then fAdds S cn (R' (3 * i + 1)) (R' (3 * i + 2)) else S) = _
        rw [a, bz.1, if_pos e0]
      have eN : dC S cn R' (3 * i) 1 = cn + 1 := by
        show (if cdAdd S cn (R' (3 * i + 1)) (R' (3 * i + 2)) = 0 then cn + 1 else cn) = _
        rw [a, bz.1, if_pos e0]
      have eX : (xE R Q 0 y zz ((F, P, Hm, sc), (Wd, N, O), cn, wk, c)).2 = ((upd F (ix zz) (F (ix zz) + y), upd P cn (nI (ix zz)), upd Hm cn (nI (ix zz)), sc), (upd Wd cn y, upd N cn 0, upd O cn 0), cn + 1, wk, c) := by
        simp only [xE, hb, if_true]
      rw [eX, eD, eN]
      exact ⟨rfl, h.adds (and_1 hb) (h7 rfl) bz.2⟩
    · have eX : (xE R Q 0 y zz ((F, P, Hm, sc), (Wd, N, O), cn, wk, c)).2 = ((F, P, Hm, sc), (Wd, N, O), cn, wk, c) := by
        simp only [xE, hb, Bool.false_eq_true, if_false]
      rw [eX]
      exact ⟨rfl, h⟩
  | 1, _ =>
    have a := h4 (by decide)
    have eC : dCan S cn R' (3 * i) 2 = sHas y cn := by
      show sIn (R' (3 * i + 1)) 0 (S 0 - 1) = _
      rw [a, has_in h.ro]
    show sHas y cn = dCan S cn R' (3 * i) 2 ∧ (dCan S cn R' (3 * i) 2 = true → RVT R Q (xE R Q 1 y zz ((F, P, Hm, sc), (Wd, N, O), cn, wk, c)).2 (dS S cn b R' (3 * i) 2, cn, b)) ∧ (dCan S cn R' (3 * i) 2 = false → RVT R Q (xE R Q 1 y zz ((F, P, Hm, sc), (Wd, N, O), cn, wk, c)).2 (S, cn, b))
    rw [eC]
    refine ⟨rfl, fun hb => ?_, fun hb => ?_⟩
    · have eD : dS S cn b R' (3 * i) 2 = fCalls S (ix y) := by
        show (if sIn (R' (3 * i + 1)) 0 (S 0 - 1) = true then fCalls S (ix (R' (3 * i + 1))) else S) = _
        rw [a, ← has_in h.ro, if_pos hb]
      have eX : (xE R Q 1 y zz ((F, P, Hm, sc), (Wd, N, O), cn, wk, c)).2 = ((F, P, upd Hm (ix y) (P (ix y)), sc), (Wd, upd N (ix y) (N (ix y) + 1), O), cn, wk + cWalk Q P Hm (ix y), c) := by
        simp only [xE, hb, if_true]
      rw [eX, eD]
      exact ⟨rfl, h.calls (has_ok h.hc hb).2⟩
    · have eX : (xE R Q 1 y zz ((F, P, Hm, sc), (Wd, N, O), cn, wk, c)).2 = ((F, P, Hm, sc), (Wd, N, O), cn, wk, c) := by
        simp only [xE, hb, Bool.false_eq_true, if_false]
      rw [eX]
      exact ⟨rfl, h⟩
  | 2, _ =>
    have a := h4 (by decide)
    have bz := h5 (Or.inr rfl)
    have e := xe_2 h (y := y) bz.2
    have eC : dCan S cn R' (3 * i) 3 = decide (cdMp S cn y zz = 0) := by
      show decide (cdMp S cn (R' (3 * i + 1)) (R' (3 * i + 2)) = 0) = _
      rw [a, bz.1]
    show xbL P R F Wd cn y (ix zz) = dCan S cn R' (3 * i) 3 ∧ (dCan S cn R' (3 * i) 3 = true → RVT R Q (xE R Q 2 y zz ((F, P, Hm, sc), (Wd, N, O), cn, wk, c)).2 (dS S cn b R' (3 * i) 3, cn, b)) ∧ (dCan S cn R' (3 * i) 3 = false → RVT R Q (xE R Q 2 y zz ((F, P, Hm, sc), (Wd, N, O), cn, wk, c)).2 (S, cn, b))
    rw [eC, e]
    refine ⟨rfl, fun hb => ?_, fun hb => ?_⟩
    · rw [hb] at e
      have e0 : cdMp S cn y zz = 0 := of_decide_eq_true e
      have eD : dS S cn b R' (3 * i) 3 = upd S (15 + 5 * (ix y) + 1) zz := by
        show (if cdMp S cn (R' (3 * i + 1)) (R' (3 * i + 2)) = 0 then upd S (15 + 5 * (ix (R' (3 * i + 1))) + 1) (R' (3 * i + 2)) else S) = _
        rw [a, bz.1, if_pos e0]
      have eX : (xE R Q 2 y zz ((F, P, Hm, sc), (Wd, N, O), cn, wk, c)).2 = ((fPn F P Wd (ix y) (ix zz), upd P (ix y) (nI (ix zz)), Hm, sc), (Wd, N, O), cn, wk, c) := by
        simp only [xE, hb, if_true]
      rw [eX, eD]
      exact ⟨rfl, h.mp (ix_rc h.ro (cdMp_0 e0).1) bz.2⟩
    · have eX : (xE R Q 2 y zz ((F, P, Hm, sc), (Wd, N, O), cn, wk, c)).2 = ((F, P, Hm, sc), (Wd, N, O), cn, wk, c) := by
        simp only [xE, hb, Bool.false_eq_true, if_false]
      rw [eX]
      exact ⟨rfl, h⟩
  | 3, _ => exact ⟨rfl, fun _ => ⟨rfl, h.mon cn (Nat.le_refl _)⟩, fun q => absurd (show true = false from q) (by decide)⟩
  | 4, _ =>
    have a := h4 (by decide)
    refine ⟨rfl, fun _ => ⟨rfl, ?_⟩, fun q => absurd (show true = false from q) (by decide)⟩
    have hN := (h.night (ix y) c b).2
    rw [← a] at hN
    rw [← a]
    exact hN
theorem rn_eq {ad : Nat → Nat} {R' : Nat → Int32} {z : (Nat → Option Nat) × (Nat → Int32) × (Nat → Int32)} : ∀ (f i : Nat) (q : VT) (s : GS), (∀ j, i ≤ j → j < i + f → OEq ad R' z j) → RVT R Q q s →
    (cRn R Q (fun j => ix (R' (3 * j)) - 1) z.2.1 z.2.2 f i q).1 = (rGo R' f i s).1 ∧ RVT R Q (cRn R Q (fun j => ix (R' (3 * j)) - 1) z.2.1 z.2.2 f i q).2 (rGo R' f i s).2
  | 0, i, q, s, _, hT => ⟨rfl, hT⟩
  | f + 1, i, q, s, hO, hT => by
    obtain ⟨h1, h2, h3⟩ := xe_eq (hO i (Nat.le_refl _) (by omega)) hT
    rw [cRn, rGo]
    by_cases e : dCan s.1 s.2.1 R' (3 * i) (ix (R' (3 * i))) = true
    · rw [if_pos (h1.trans e), if_pos e]
      exact rn_eq f (i + 1) _ _ (fun j a b => hO j (by omega) (by omega)) (h2 e)
    · rw [if_neg (fun q => e (h1.symm.trans q)), if_neg e]
      exact ⟨rfl, h3 (by rw [Bool.not_eq_true] at e; exact e)⟩
theorem OEq.w {ad : Nat → Nat} {R' : Nat → Int32} {q : OS} {i : Nat} (h : OEq ad R' q.2 i) : OrW ad (fun j => ix (R' (3 * j)) - 1) q i := by
  obtain ⟨w, h1, h2, h3, h4, h5, h6, h7⟩ := h
  have k : ix (R' (3 * i)) - 1 = w := by rw [h3, ix_nI (by omega)]; omega
  refine ⟨?_, ?_, ?_, ?_⟩
  · show q.2.1 i = some (ad (ix (R' (3 * i)) - 1)); rw [k]; exact h2
  · show ix (R' (3 * i)) - 1 < 5; rw [k]; exact h1
  · show ix (R' (3 * i)) - 1 = 0 ∨ ix (R' (3 * i)) - 1 = 2 → _; rw [k]; exact fun q => (h5 q).2
  · show ix (R' (3 * i)) - 1 = 4 → _; rw [k]; exact h6
end RUN9
