section PURE8
variable {S : Nat → Int32} {cn : Nat} {wk sc : Int32} {R Q F Wd P Hm N O : Nat → Int32}
theorem i_sub {a b : Int32} (ha : -100000 ≤ a.toInt ∧ a.toInt ≤ 100000) (hb : -100000 ≤ b.toInt ∧ b.toInt ≤ 100000) : (a - b).toInt = a.toInt - b.toInt := by
  rw [Int32.toInt_sub]
  exact Int.bmod_eq_of_le (by omega) (by omega)
theorem i_add {a b : Int32} (ha : -100000 ≤ a.toInt ∧ a.toInt ≤ 100000) (hb : -100000 ≤ b.toInt ∧ b.toInt ≤ 100000) : (a + b).toInt = a.toInt + b.toInt := by
  rw [Int32.toInt_add]
  exact Int.bmod_eq_of_le (by omega) (by omega)
theorem i_le {a b : Int32} : a ≤ b ↔ a.toInt ≤ b.toInt := Int32.le_iff_toInt_le
theorem i_lt {a b : Int32} : a < b ↔ a.toInt < b.toInt := Int32.lt_iff_toInt_lt
theorem RV.tk (h : RV S cn wk sc R Q F Wd P Hm N O) (k : Int32) : ∀ n, n ≤ cn → 0 ≤ (sTk (gW S 1) (gW S 0) k n).toInt ∧ (sTk (gW S 1) (gW S 0) k n).toInt ≤ 30 * n
  | 0, _ => ⟨show (0 : Int) ≤ (0 : Int32).toInt by decide, show (0 : Int32).toInt ≤ 30 * ((0 : Nat) : Int) by decide⟩
  | n + 1, hn => by
    have hc := h.hc
    have h1 := h.tk k n (by omega)
    have hw := h.bW n (by omega)
    rw [i_le, i_le] at hw
    rw [show (1 : Int32).toInt = 1 from rfl, show (30 : Int32).toInt = 30 from rfl] at hw
    rw [sTk]
    by_cases e : gW S 1 n = k
    · rw [if_pos e, i_add (by omega) (by omega)]; omega
    · rw [if_neg e, Int32.add_zero]; omega
theorem RV.rmb (h : RV S cn wk sc R Q F Wd P Hm N O) {k : Nat} (hk : k < 6) : -480 ≤ (sRm S cn k).toInt ∧ (sRm S cn k).toInt ≤ 99 := by
  have hc := h.hc
  have h1 := h.tk (nI k) cn (Nat.le_refl _)
  have h2 := h.bR k hk
  rw [i_le, i_le, show (10 : Int32).toInt = 10 from rfl, show (99 : Int32).toInt = 99 from rfl] at h2
  have h3 : (S (3 + k)).toInt = (gR S k).toInt := rfl
  rw [sRm, i_sub (by omega) (by omega)]
  omega
theorem i_neg {a : Int32} (ha : -100000 ≤ a.toInt ∧ a.toInt ≤ 100000) : (-a).toInt = -a.toInt := by
  rw [Int32.toInt_neg]
  exact Int.bmod_eq_of_le (by omega) (by omega)
theorem Ok6_inj {a b : Int32} (ha : Ok6 a) (hb : Ok6 b) : (a = b) ↔ (ix a = ix b) := ⟨fun e => by rw [e], fun e => by rw [ha.1, hb.1, e]⟩
theorem RV.ce (h : RV S cn wk sc R Q F Wd P Hm N O) {r e : Nat} (hr : r < cn) (he : e < cn) (hm : sMis (gW S 1) (gW S 2) r = false) : (!sMis P Hm e && cCe P Wd R F r e) = sCe S cn r e := by
  have o1 := (h.ok r hr).1
  have o2 := (h.ok e he).1
  have w1 := h.bW r hr
  have w2 := h.bW e he
  have b1 := h.rmb o1.2
  have b2 := h.rmb o2.2
  rw [i_le, i_le, show (1 : Int32).toInt = 1 from rfl, show (30 : Int32).toInt = 30 from rfl] at w1 w2
  rw [sCe, hm, h.mis he, cCe, h.hP r hr, h.hP e he, h.free o1.2, h.free o2.2, h.hW r hr, h.hW e he]
  have e1 : decide (gW S 1 r = gW S 1 e) = decide (ix (gW S 1 r) = ix (gW S 1 e)) := decide_eq_decide.mpr (Ok6_inj o1 o2)
  have e2 : decide (gW S 0 e - gW S 0 r ≤ sRm S cn (ix (gW S 1 r))) = decide (gW S 0 e ≤ sRm S cn (ix (gW S 1 r)) + gW S 0 r) := decide_eq_decide.mpr (by
    rw [i_le, i_le, i_sub (by omega) (by omega), i_add (by omega) (by omega)]; omega)
  have e3 : decide (-(gW S 0 e - gW S 0 r) ≤ sRm S cn (ix (gW S 1 e))) = decide (gW S 0 r ≤ sRm S cn (ix (gW S 1 e)) + gW S 0 e) := decide_eq_decide.mpr (by
    have q : (gW S 0 e - gW S 0 r).toInt = (gW S 0 e).toInt - (gW S 0 r).toInt := i_sub (by omega) (by omega)
    rw [i_le, i_le, i_neg (by omega), q, i_add (by omega) (by omega)]; omega)
  rw [e1, e2, e3]
  rfl
theorem RV.eg (h : RV S cn wk sc R Q F Wd P Hm N O) {r e : Nat} (hr : r < cn) (he : e < cn) : cEg N O Q P r e = sGe S r e := by
  rw [cEg, sGe, h.heft hr, h.heft he, h.hP r hr, h.hP e he, h.hQ _ (h.ok r hr).1.2, h.hQ _ (h.ok e he).1.2]; rfl
/-- the class's best step and the check's -/
def QR (cn : Nat) (P : Nat → Int32) (c : CS) (b : BS) : Prop := c.1 = b.1 ∧ (0 < c.1 → c.2.1 = b.2.1 ∧ (if b.2.2.2 = true then ∃ e, e < cn ∧ b.2.2.1 = nI e ∧ c.2.2.2 = nI e ∧ c.2.2.1 = P e else c.2.2.2 = -1 ∧ c.2.2.1 = b.2.2.1))
theorem QR.nt {c : CS} {b : BS} {its a sh p w : Int32} {x : Bool} (hq : QR cn P c b) (h : if x = true then ∃ e, e < cn ∧ w = nI e ∧ p = nI e ∧ sh = P e else p = -1 ∧ sh = w) : QR cn P (cNt its a sh p c) (nt its a w x b) := by
  rw [cNt, Jvm.Pilot.CVaultShelvesLaw_law_r4972_97fbe4.nt, hq.1]
  by_cases e : b.1 < its
  · rw [if_pos e, if_pos e]; exact ⟨rfl, fun _ => ⟨rfl, h⟩⟩
  · rw [if_neg e, if_neg e]; exact hq
theorem RV.mv (h : RV S cn wk sc R Q F Wd P Hm N O) {c : CS} {b : BS} {r : Nat} (hr : r < cn) (hq : QR cn P c (fF1 S cn b (6 * r))) : ∀ i, i ≤ 6 → QR cn P (if sMis P Hm r = true then c else cMv N O Q P Wd R F r c i) (fF1 S cn b (6 * r + i))
  | 0, _ => by
    have : (if sMis P Hm r = true then c else cMv N O Q P Wd R F r c 0) = c := by split <;> rfl
    rw [this]; exact hq
  | i + 1, hi => by
    have h1 := h.mv hr hq i (by omega)
    have d1 : (6 * r + i) / 6 = r := by omega
    have d2 : (6 * r + i) % 6 = i := by omega
    rw [show 6 * r + (i + 1) = (6 * r + i) + 1 by omega, fF1, d1, d2, decide_eq_true hr, Bool.true_and, sCm, ← h.mis hr]
    by_cases m : sMis P Hm r = true
    · rw [if_pos m] at h1 ⊢
      rw [m, if_neg (by rw [Bool.not_true, Bool.false_and]; exact Bool.false_ne_true)]
      exact h1
    · rw [if_neg m] at h1 ⊢
      rw [Bool.not_eq_true] at m
      rw [m, cMv, h.free (k := i) (by omega), h.hP r hr, h.hW r hr, h.gm hr (show i < 6 by omega)]
      have e : (decide (nI i = gW S 1 r)) = decide (gW S 1 r = nI i) := decide_eq_decide.mpr eq_comm
      rw [e, show (!false && (!decide (gW S 1 r = nI i) && decide (gW S 0 r ≤ sRm S cn i))) = (!decide (gW S 1 r = nI i) && decide (gW S 0 r ≤ sRm S cn i)) from rfl]
      by_cases f : (!decide (gW S 1 r = nI i) && decide (gW S 0 r ≤ sRm S cn i)) = true
      · rw [if_pos f, if_pos f]
        exact h1.nt (by rw [if_neg (by decide)]; exact ⟨rfl, rfl⟩)
      · rw [if_neg f, if_neg f]; exact h1
end PURE8
