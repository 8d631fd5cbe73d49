section PURE9
variable {S : Nat → Int32} {cn : Nat} {wk sc : Int32} {R Q F Wd P Hm N O : Nat → Int32}
theorem RV.f1 (h : RV S cn wk sc R Q F Wd P Hm N O) {c : CS} {b : BS} (hq : QR cn P c b) : ∀ r, r ≤ cn → QR cn P (cF1 N O Q P Hm Wd R F c r) (fF1 S cn b (6 * r))
  | 0, _ => hq
  | r + 1, hr => by
    have := h.mv (r := r) (by omega) (h.f1 hq r (by omega)) 6 (Nat.le_refl _)
    rw [cF1, show 6 * (r + 1) = 6 * r + 6 by omega]
    exact this
theorem fF1_hi {b : BS} {k : Nat} (hk : 6 * cn ≤ k) : ∀ j, fF1 S cn b (k + j) = fF1 S cn b k
  | 0 => rfl
  | j + 1 => by
    rw [show k + (j + 1) = (k + j) + 1 from rfl, fF1, if_neg (by rw [decide_eq_false (by omega), Bool.false_and]; exact Bool.false_ne_true)]
    exact fF1_hi hk j
theorem RV.ex (h : RV S cn wk sc R Q F Wd P Hm N O) {c : CS} {b : BS} {r : Nat} (hr : r < cn) (hq : QR cn P c b) : ∀ j, j ≤ cn - (r + 1) → QR cn P (if sMis P Hm r = true then c else cEx N O Q P Hm Wd R F r c j) (fF2i S cn r b j)
  | 0, _ => by
    have : (if sMis P Hm r = true then c else cEx N O Q P Hm Wd R F r c 0) = c := by split <;> rfl
    rw [this]; exact hq
  | j + 1, hj => by
    have h1 := h.ex hr hq j (by omega)
    rw [fF2i]
    by_cases m : sMis P Hm r = true
    · rw [if_pos m] at h1 ⊢
      have e : sCe S cn r (r + 1 + j) = false := by rw [sCe, ← h.mis hr, m]; rfl
      rw [e, if_neg Bool.false_ne_true]
      exact h1
    · rw [if_neg m] at h1 ⊢
      rw [Bool.not_eq_true] at m
      have he : r + 1 + j < cn := by omega
      rw [cEx, h.ce hr he (by rw [← h.mis hr]; exact m), h.eg hr he]
      by_cases f : sCe S cn r (r + 1 + j) = true
      · rw [if_pos f, if_pos f]
        exact h1.nt (by rw [if_pos rfl]; exact ⟨r + 1 + j, he, rfl, rfl, rfl⟩)
      · rw [if_neg f, if_neg f]; exact h1
theorem RV.f2 (h : RV S cn wk sc R Q F Wd P Hm N O) {c : CS} {b : BS} (hq : QR cn P c b) : ∀ r, r ≤ cn → QR cn P (cF2 N O Q P Hm Wd R F cn c r) (fF2 S cn b r)
  | 0, _ => hq
  | r + 1, hr => by
    have := h.ex (r := r) (by omega) (h.f2 hq r (by omega)) (cn - (r + 1)) (Nat.le_refl _)
    rw [cF2, fF2]
    exact this
/-- the best steps of both tell the same -/
theorem RV.f (h : RV S cn wk sc R Q F Wd P Hm N O) (c : CS) (b : BS) : QR cn P (cF N O Q P Hm Wd R F cn c) (fF S cn b) := by
  have hc := h.hc
  have h0 : QR cn P ((0 : Int32), c.2) ((0 : Int32), b.2) := ⟨rfl, fun q => absurd (show (0 : Int32) < 0 from q) (by decide)⟩
  have h1 := h.f1 h0 cn (Nat.le_refl _)
  have e := fF1_hi (S := S) (cn := cn) (b := ((0 : Int32), b.2)) (k := 6 * cn) (Nat.le_refl _) (96 - 6 * cn)
  rw [show 6 * cn + (96 - 6 * cn) = 96 by omega] at e
  rw [← e] at h1
  exact h.f2 h1 cn (Nat.le_refl _)
theorem nI_m1 {e : Nat} (h : e < 16) : ¬ nI e = -1 := fun q => nI_pos (n := e) (by omega) (by rw [q]; decide)
theorem RV.putH (h : RV S cn wk sc R Q F Wd P Hm N O) {r k : Nat} (hr : r < cn) (hk : k < 6) : RV (fPut S r (nI k)) cn wk sc R Q (fPn F P Wd r k) Wd (upd P r (nI k)) (upd Hm r (nI k)) N O :=
  (h.put hr hk).setH hr (Ok6_nI hk)
theorem RV.step (h : RV S cn wk sc R Q F Wd P Hm N O) {c : CS} {b : BS} (hq : QR cn P c b) (hb : BOK cn b) (g : 0 < b.1) :
    RV (fStep S b) cn wk sc R Q (cSt F P Hm Wd (ix c.2.1) (ix c.2.2.1) c.2.2.2).1 Wd (cSt F P Hm Wd (ix c.2.1) (ix c.2.2.1) c.2.2.2).2.1 (cSt F P Hm Wd (ix c.2.1) (ix c.2.2.1) c.2.2.2).2.2 N O := by
  have hc := h.hc
  obtain ⟨⟨r, hr, er⟩, hb2⟩ := hb g
  obtain ⟨e1, e2⟩ := hq.2 (by rw [hq.1]; exact g)
  have ir : ix b.2.1 = r := by rw [er, ix_nI (by omega)]
  rw [e1, ir]
  unfold fStep
  by_cases x : b.2.2.2 = true
  · rw [if_pos x] at e2
    obtain ⟨e, he, w1, w2, w3⟩ := e2
    have o1 := (h.ok r hr).1
    have o2 := (h.ok e he).1
    have ie : ix b.2.2.1 = e := by rw [w1, ix_nI (by omega)]
    have ik : ix c.2.2.1 = ix (gW S 1 e) := by rw [w3, h.hP e he]
    have ip : ix (nI e) = e := ix_nI (by omega)
    rw [if_pos x, ir, ie, ik, w2, cSt, if_neg (nI_m1 (by omega)), ip, h.hP r hr]
    have a1 := (h.putH hr o2.2).putH he o1.2
    rw [← o1.1, ← o2.1] at a1
    rw [← o1.1, ← o2.1]
    exact a1
  · rw [if_neg x] at e2 hb2
    obtain ⟨k, hk, ek⟩ := hb2
    have ik : ix c.2.2.1 = k := by rw [e2.2, ek, ix_nI (by omega)]
    rw [if_neg x, ir, ik, ek, e2.1, cSt, if_pos rfl]
    exact h.putH hr hk
theorem lt_one {x : Int32} : x < nI 1 ↔ ¬ 0 < x := by
  rw [i_lt, i_lt, show (nI 1).toInt = 1 from rfl, show (0 : Int32).toInt = 0 from rfl]
  omega
/-- the night's work of both -/
theorem RV.works {sc0 : Int32} : ∀ (m : Nat) (S : Nat → Int32) (b : BS) (s : NS), RV S cn wk sc0 R Q s.1.1 Wd s.1.2.1 s.1.2.2.1 N O →
    (cW1 N O Q Wd R cn m s).1 = (fWorks cn m S (fF S cn b)).1 ∧
    RV (fWorks cn m S (fF S cn b)).2.1 cn wk sc0 R Q (cW1 N O Q Wd R cn m s).2.1.1 Wd (cW1 N O Q Wd R cn m s).2.1.2.1 (cW1 N O Q Wd R cn m s).2.1.2.2.1 N O ∧
    (cW1 N O Q Wd R cn m s).2.1.2.2.2 = s.1.2.2.2 + nI (cW1 N O Q Wd R cn m s).1
  | 0, S, b, s, h => ⟨rfl, h, (Int32.add_zero _).symm⟩
  | m + 1, S, b, s, h => by
    have hQ : QR cn s.1.2.1 (cQ N O Q Wd R cn s) (fF S cn b) := h.f s.2 b
    by_cases g : 0 < (fF S cn b).1
    · have g2 : ¬ (cQ N O Q Wd R cn s).1 < nI 1 := by rw [hQ.1]; exact fun q => lt_one.mp q g
      have hT : RV (fStep S (fF S cn b)) cn wk sc0 R Q (cT N O Q Wd R cn s).1.1 Wd (cT N O Q Wd R cn s).1.2.1 (cT N O Q Wd R cn s).1.2.2.1 N O := h.step hQ (fF_ok S cn b) g
      obtain ⟨a1, a2, a3⟩ := RV.works m (fStep S (fF S cn b)) (fF S cn b) (cT N O Q Wd R cn s) hT
      rw [cW1, if_neg g2, fWorks, if_pos g]
      refine ⟨congrArg (· + 1) a1, a2, ?_⟩
      show (cW1 N O Q Wd R cn m (cT N O Q Wd R cn s)).2.1.2.2.2 = s.1.2.2.2 + nI ((cW1 N O Q Wd R cn m (cT N O Q Wd R cn s)).1 + 1)
      rw [a3, ← nI_add, show (cT N O Q Wd R cn s).1.2.2.2 = s.1.2.2.2 + 1 from rfl, show nI 1 = 1 from rfl, Int32.add_assoc, Int32.add_comm 1]
    · have g2 : (cQ N O Q Wd R cn s).1 < nI 1 := by rw [hQ.1]; exact lt_one.mpr g
      rw [cW1, if_pos g2, fWorks, if_neg g]
      exact ⟨rfl, h, (Int32.add_zero _).symm⟩
theorem RV.night (h : RV S cn wk sc R Q F Wd P Hm N O) (m : Nat) (c : CS) (b : BS) :
    (cW1 N O Q Wd R cn m ((F, P, Hm, sc), c)).1 = (fWk S cn m b).1 ∧
    RV (fWkS S cn m b) cn wk (cW1 N O Q Wd R cn m ((F, P, Hm, sc), c)).2.1.2.2.2 R Q (cW1 N O Q Wd R cn m ((F, P, Hm, sc), c)).2.1.1 Wd (cW1 N O Q Wd R cn m ((F, P, Hm, sc), c)).2.1.2.1 (cW1 N O Q Wd R cn m ((F, P, Hm, sc), c)).2.1.2.2.1 N O := by
  obtain ⟨a1, a2, a3⟩ := RV.works m S b ((F, P, Hm, sc), c) h
  refine ⟨a1, ?_⟩
  have e : (cW1 N O Q Wd R cn m ((F, P, Hm, sc), c)).2.1.2.2.2 = (fWk S cn m b).2.1 2 + nI (fWk S cn m b).1 := by
    rw [a3, a1]
    show sc + _ = (fWorks cn m S (fF S cn b)).2.1 2 + _
    rw [a2.s2]; rfl
  rw [e]
  exact a2.setSc
end PURE9
