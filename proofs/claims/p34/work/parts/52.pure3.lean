section PU3
variable {B cn : Nat} {R Q F Wd P Hm N O : Nat → Int32}
theorem nI_m1 {e : Nat} (h : e < 16) : ¬ nI e = -1 := fun q => nI_pos (n := e) (by omega) (by rw [q]; decide)
/-- a best step, made: what stands, what it saves, who moves -/
theorem IV.step (h : IV B cn R Q F Wd P Hm N O) {q : CS} (hq : LG N O Q P Hm Wd R F cn q) (g : 0 < q.1) :
    IV B cn R Q (cSt F P Hm Wd (ix q.2.1) (ix q.2.2.1) q.2.2.2).1 Wd (cSt F P Hm Wd (ix q.2.1) (ix q.2.2.1) q.2.2.2).2.1 (cSt F P Hm Wd (ix q.2.1) (ix q.2.2.1) q.2.2.2).2.2 N O ∧
    sCo N O (cSt F P Hm Wd (ix q.2.1) (ix q.2.2.1) q.2.2.2).2.2 Q cn = sCo N O Hm Q cn - q.1 ∧
    ∀ r, r < cn → sMis (cSt F P Hm Wd (ix q.2.1) (ix q.2.2.1) q.2.2.2).2.1 (cSt F P Hm Wd (ix q.2.1) (ix q.2.2.1) q.2.2.2).2.2 r = sMis P Hm r ∧ (sMis P Hm r = true → (cSt F P Hm Wd (ix q.2.1) (ix q.2.2.1) q.2.2.2).2.1 r = P r) := by
  have hc := h.hc
  rcases hq g with ⟨r, k, hr, hk, hm, hw, e⟩ | ⟨r, e, hre, he, hm, hm2, hcc, eq⟩
  · have o := (h.1.2 r hr).1
    have e1 : ix q.2.1 = r := by rw [e]; exact ix_nI (by omega)
    have e2 : ix q.2.2.1 = k := by rw [e]; exact ix_nI (by omega)
    have e3 : q.2.2.2 = -1 := by rw [e]
    have e4 : q.1 = cMg N O Q P r k := by rw [e]
    rw [e1, e2, e3, cSt, if_pos rfl]
    refine ⟨(h.put hr hk (Or.inr hw)).setH (Ok6_nI hk), ?_, fun a ha => ?_⟩
    · rw [e4]
      show sCo N O (upd Hm r (nI k)) Q cn = _
      rw [sCo_upd, if_pos hr, ix_nI (by omega), cMg, ← mis_f.mp hm]
      grind
    · show sMis (upd P r (nI k)) (upd Hm r (nI k)) a = _ ∧ (_ → upd P r (nI k) a = _)
      by_cases f : a = r
      · subst f
        rw [hm]
        exact ⟨mis_f.mpr (by rw [pk_us, pk_us]), fun x => absurd x Bool.false_ne_true⟩
      · rw [sMis, pk_un f, pk_un f]
        exact ⟨rfl, fun _ => rfl⟩
  · have o1 := (h.1.2 r (by omega)).1
    have o2 := (h.1.2 e he).1
    have hne : e ≠ r := by omega
    have e1 : ix q.2.1 = r := by rw [eq]; exact ix_nI (by omega)
    have e2 : ix q.2.2.1 = ix (P e) := by rw [eq]
    have e3 : q.2.2.2 = nI e := by rw [eq]
    have e4 : q.1 = cEg N O Q P r e := by rw [eq]
    have e5 : ix (nI e) = e := ix_nI (by omega)
    rw [e1, e2, e3, cSt, if_neg (nI_m1 (by omega)), e5]
    refine ⟨((h.swap hre he hcc).setH (Ok6_nI o2.2)).setH (Ok6_nI o1.2), ?_, fun a ha => ?_⟩
    · rw [e4]
      show sCo N O (upd (upd Hm r (nI (ix (P e)))) e (nI (ix (P r)))) Q cn = _
      rw [sCo_upd, if_pos he, sCo_upd, if_pos (show r < cn by omega), pk_un hne, ix_nI (show ix (P e) < 2147483648 by have := o2.2; omega), ix_nI (show ix (P r) < 2147483648 by have := o1.2; omega), cEg, ← mis_f.mp hm, ← mis_f.mp hm2]
      grind
    · show sMis (upd (upd P r (nI (ix (P e)))) e (nI (ix (P r)))) (upd (upd Hm r (nI (ix (P e)))) e (nI (ix (P r)))) a = _ ∧ (_ → upd (upd P r (nI (ix (P e)))) e (nI (ix (P r))) a = _)
      by_cases f : a = e
      · subst f
        rw [hm2]
        exact ⟨mis_f.mpr (by rw [pk_us, pk_us]), fun x => absurd x Bool.false_ne_true⟩
      · by_cases f2 : a = r
        · subst f2
          rw [hm]
          exact ⟨mis_f.mpr (by rw [pk_un f, pk_un f, pk_us, pk_us]), fun x => absurd x Bool.false_ne_true⟩
        · rw [sMis, pk_un f, pk_un f, pk_un f2, pk_un f2]
          exact ⟨rfl, fun _ => rfl⟩
/-- a whole night's work -/
theorem IV.night : ∀ (m : Nat) (s : NS), IV B cn R Q s.1.1 Wd s.1.2.1 s.1.2.2.1 N O →
    (cW1 N O Q Wd R cn m s).1 ≤ m ∧
    IV B cn R Q (cW1 N O Q Wd R cn m s).2.1.1 Wd (cW1 N O Q Wd R cn m s).2.1.2.1 (cW1 N O Q Wd R cn m s).2.1.2.2.1 N O ∧
    (sCo N O (cW1 N O Q Wd R cn m s).2.1.2.2.1 Q cn).toInt + (cW1 N O Q Wd R cn m s).1 ≤ (sCo N O s.1.2.2.1 Q cn).toInt ∧
    (cW1 N O Q Wd R cn m s).2.1.2.2.2 = s.1.2.2.2 + nI (cW1 N O Q Wd R cn m s).1 ∧
    ((cW1 N O Q Wd R cn m s).1 = m ∨ (cQ N O Q Wd R cn (cW1 N O Q Wd R cn m s).2).1 < nI 1) ∧
    ∀ r, r < cn → sMis (cW1 N O Q Wd R cn m s).2.1.2.1 (cW1 N O Q Wd R cn m s).2.1.2.2.1 r = sMis s.1.2.1 s.1.2.2.1 r ∧ (sMis s.1.2.1 s.1.2.2.1 r = true → (cW1 N O Q Wd R cn m s).2.1.2.1 r = s.1.2.1 r)
  | 0, s, h => ⟨Nat.le_refl _, h, by show _ + ((0 : Nat) : Int) ≤ _; rw [show ((0 : Nat) : Int) = 0 from rfl, Int.add_zero]; exact Int.le_refl _, (Int32.add_zero _).symm, Or.inl rfl, fun _ _ => ⟨rfl, fun _ => rfl⟩⟩
  | m + 1, s, h => by
    have hc := h.hc
    have hB := h.2.2.2
    rw [cW1]
    by_cases g : (cQ N O Q Wd R cn s).1 < nI 1
    · rw [if_pos g]
      refine ⟨Nat.zero_le _, h, by show _ + ((0 : Nat) : Int) ≤ _; rw [show ((0 : Nat) : Int) = 0 from rfl, Int.add_zero]; exact Int.le_refl _, (Int32.add_zero _).symm, Or.inr ?_, fun _ _ => ⟨rfl, fun _ => rfl⟩⟩
      show (cF N O Q s.1.2.1 s.1.2.2.1 Wd R s.1.1 cn (cQ N O Q Wd R cn s)).1 < nI 1
      rw [f_eq1 _ s.2]
      exact g
    · rw [if_neg g]
      have hl : LG N O Q s.1.2.1 s.1.2.2.1 Wd R s.1.1 cn (cQ N O Q Wd R cn s) := LG_f s.2
      obtain ⟨a1, a2, a3⟩ := h.step hl (pos_1 (Int32.not_lt.mp g))
      have a1' : IV B cn R Q (cT N O Q Wd R cn s).1.1 Wd (cT N O Q Wd R cn s).1.2.1 (cT N O Q Wd R cn s).1.2.2.1 N O := a1
      obtain ⟨b1, b2, b3, b4, b5, b6⟩ := IV.night m (cT N O Q Wd R cn s) a1'
      refine ⟨by show _ + 1 ≤ m + 1; omega, b2, ?_, ?_, ?_, fun r hr => ?_⟩
      · have c0 := h.co cn (Nat.le_refl _)
        have c1 := a1'.co cn (Nat.le_refl _)
        have hn2 : 297 * (B : Int) * cn ≤ 297 * B * 16 := Int.mul_le_mul_of_nonneg_left (by omega) (by omega)
        have a2' : sCo N O (cT N O Q Wd R cn s).1.2.2.1 Q cn = sCo N O s.1.2.2.1 Q cn - (cQ N O Q Wd R cn s).1 := a2
        have eg : (cQ N O Q Wd R cn s).1 = sCo N O s.1.2.2.1 Q cn - sCo N O (cT N O Q Wd R cn s).1.2.2.1 Q cn := by rw [a2']; grind
        have g2 := Int32.not_lt.mp g
        rw [i_le, i_lit1, eg, i_sub (by omega)] at g2
        show (sCo N O (cW1 N O Q Wd R cn m (cT N O Q Wd R cn s)).2.1.2.2.1 Q cn).toInt + (((cW1 N O Q Wd R cn m (cT N O Q Wd R cn s)).1 + 1 : Nat) : Int) ≤ (sCo N O s.1.2.2.1 Q cn).toInt
        omega
      · show (cW1 N O Q Wd R cn m (cT N O Q Wd R cn s)).2.1.2.2.2 = s.1.2.2.2 + nI ((cW1 N O Q Wd R cn m (cT N O Q Wd R cn s)).1 + 1)
        rw [b4, ← nI_add, show (cT N O Q Wd R cn s).1.2.2.2 = s.1.2.2.2 + 1 from rfl, show nI 1 = 1 from rfl, Int32.add_assoc, Int32.add_comm 1]
      · rcases b5 with b5 | b5
        · exact Or.inl (congrArg (· + 1) b5)
        · exact Or.inr b5
      · have a4 := a3 r hr
        have b7 := b6 r hr
        exact ⟨b7.1.trans a4.1, fun x => (b7.2 (a4.1.trans x)).trans (a4.2 x)⟩
/-- the night's work doesn't ask what stood in the best step -/
theorem W1_eq (b b' : CS) : ∀ (m : Nat) (x : (Nat → Int32) × (Nat → Int32) × (Nat → Int32) × Int32), (cW1 N O Q Wd R cn m (x, b)).1 = (cW1 N O Q Wd R cn m (x, b')).1 ∧ (cW1 N O Q Wd R cn m (x, b)).2.1 = (cW1 N O Q Wd R cn m (x, b')).2.1
  | 0, _ => ⟨rfl, rfl⟩
  | m + 1, x => by
    rw [cW1, cW1]
    have e1 : (cQ N O Q Wd R cn (x, b)).1 = (cQ N O Q Wd R cn (x, b')).1 := f_eq1 b b'
    by_cases g : (cQ N O Q Wd R cn (x, b)).1 < nI 1
    · rw [if_pos g, if_pos (by rw [← e1]; exact g)]
      exact ⟨rfl, rfl⟩
    · rw [if_neg g, if_neg (by rw [← e1]; exact g)]
      have hg : 0 < (cQ N O Q Wd R cn (x, b)).1 := pos_1 (Int32.not_lt.mp g)
      have e2 : cQ N O Q Wd R cn (x, b) = cQ N O Q Wd R cn (x, b') := by
        rcases (SB_f b b' : SB (cQ N O Q Wd R cn (x, b)) (cQ N O Q Wd R cn (x, b'))) with h | ⟨h1, -⟩
        · exact h
        · rw [show (cQ N O Q Wd R cn (x, b)).1 = 0 from h1] at hg; exact absurd hg (by decide)
      have e3 : cT N O Q Wd R cn (x, b) = cT N O Q Wd R cn (x, b') := by
        show ((_, _, _, _), cQ N O Q Wd R cn (x, b)) = ((_, _, _, _), cQ N O Q Wd R cn (x, b'))
        rw [e2]
      rw [e3]
      exact ⟨rfl, rfl⟩
/-! the other changes -/
theorem IV.setS (h : IV B cn R Q F Wd P Hm N O) {k u : Nat} (hk : k < 6) (hu : 1 ≤ u ∧ u ≤ 99) : IV B cn (upd R k (nI 99)) (upd Q k (nI u)) F Wd P Hm N O := by
  refine ⟨h.1, h.2.1, fun j hj => ?_, h.2.2.2⟩
  have h1 := h.2.2.1 j hj
  have h2 := h.fb hj
  by_cases e : j = k
  · subst e
    rw [pk_us, pk_us, nI_toInt (by omega), show (nI 99).toInt = 99 from rfl]
    exact ⟨by omega, by omega, h1.2.2.1, by omega⟩
  · rw [pk_un e, pk_un e]; exact h1
theorem IV.add (h : IV B cn R Q F Wd P Hm N O) {w k : Nat} (hc : cn < 16) (hk : k < 6) (hw : 1 ≤ w ∧ w ≤ 30) (hcan : nI w ≤ R k - F k) : IV B (cn + 1) R Q (upd F k (F k + nI w)) (upd Wd cn (nI w)) (upd P cn (nI k)) (upd Hm cn (nI k)) (upd N cn 0) (upd O cn 0) := by
  have ew : (nI w).toInt = w := nI_toInt (by omega)
  refine ⟨⟨by omega, fun r hr => ?_⟩, fun r hr => ?_, fun j hj => ?_, h.2.2.2⟩
  · by_cases e : r = cn
    · subst e; rw [pk_us, pk_us]; exact ⟨Ok6_nI hk, Ok6_nI hk⟩
    · rw [pk_un e, pk_un e]; exact h.1.2 r (by omega)
  · by_cases e : r = cn
    · subst e; rw [pk_us, pk_us, pk_us, ew, show (0 : Int32).toInt = 0 from rfl]; omega
    · rw [pk_un e, pk_un e, pk_un e]; exact h.2.1 r (by omega)
  · have h1 := h.2.2.1 j hj
    have h2 := h.fb hj
    have es : sTk (upd P cn (nI k)) (upd Wd cn (nI w)) (nI j) cn = sTk P Wd (nI j) cn := sTk_cg cn (fun r hr => ⟨pk_un (by omega), pk_un (by omega)⟩)
    refine ⟨h1.1, h1.2.1, ?_, ?_⟩
    · rw [sTk, es, pk_us, pk_us, ← h1.2.2.1]
      by_cases e : j = k
      · subst e; rw [pk_us, if_pos rfl]
      · rw [pk_un e, if_neg (fun q => e ((nI_eq (by omega) (by omega)).mp q).symm), Int32.add_zero]
    · by_cases e : j = k
      · subst e
        rw [i_le, ew, h.fr hj] at hcan
        rw [pk_us, i_add (by rw [ew]; omega), ew]; omega
      · rw [pk_un e]; exact h1.2.2.2
theorem IV.rem (h : IV B cn R Q F Wd P Hm N O) {r : Nat} (hr : r < cn) : IV B (cn - 1) R Q (upd F (ix (P r)) (F (ix (P r)) - Wd r)) (fShf Wd r (cn - 1 - r)) (fShf P r (cn - 1 - r)) (fShf Hm r (cn - 1 - r)) (fShf N r (cn - 1 - r)) (fShf O r (cn - 1 - r)) := by
  have hc := h.hc
  have o := (h.1.2 r hr).1
  have hw := (h.2.1 r hr).1
  have sh : ∀ (A : Nat → Int32) (q : Nat), q < cn - 1 → fShf A r (cn - 1 - r) q = if r ≤ q then A (q + 1) else A q := fun A q hq => by
    rw [fShf_at]
    by_cases e : r ≤ q
    · rw [if_pos (by omega), if_pos e]
    · rw [if_neg (by omega), if_neg e]
  refine ⟨⟨by omega, fun q hq => ?_⟩, fun q hq => ?_, fun j hj => ?_, h.2.2.2⟩
  · rw [sh _ q hq, sh _ q hq]
    by_cases e : r ≤ q
    · rw [if_pos e, if_pos e]; exact h.1.2 (q + 1) (by omega)
    · rw [if_neg e, if_neg e]; exact h.1.2 q (by omega)
  · rw [sh _ q hq, sh _ q hq, sh _ q hq]
    by_cases e : r ≤ q
    · rw [if_pos e, if_pos e, if_pos e]; exact h.2.1 (q + 1) (by omega)
    · rw [if_neg e, if_neg e, if_neg e]; exact h.2.1 q (by omega)
  · have h1 := h.2.2.1 j hj
    have h2 := h.fb hj
    have es := sTk_rem (P := P) (W := Wd) (P2 := fShf P r (cn - 1 - r)) (W2 := fShf Wd r (cn - 1 - r)) (k := nI j) (r := r) (cn - 1) (by omega) (fun q hq => ⟨sh _ q hq, sh _ q hq⟩)
    rw [show cn - 1 + 1 = cn by omega, ← h1.2.2.1] at es
    have e2 := p_nI o hj
    refine ⟨h1.1, h1.2.1, ?_, ?_⟩
    · rw [es]
      by_cases e : j = ix (P r)
      · rw [if_pos (e2.mpr e), ← e, pk_us]
      · rw [if_neg (fun q => e (e2.mp q)), pk_un e, Int32.sub_zero]
    · by_cases e : j = ix (P r)
      · rw [← e, pk_us, i_sub (by omega)]; omega
      · rw [pk_un e]; exact h1.2.2.2
theorem mnN_at (N : Nat → Int32) : ∀ n r, cMnN N n r = if r < n then 0 else N r
  | 0, r => by rw [if_neg (by omega)]; rfl
  | n + 1, r => by
    rw [cMnN]
    by_cases e : r = n
    · subst e; rw [pk_us, if_pos (by omega)]
    · rw [pk_un e, mnN_at N n r]
      by_cases f : r < n
      · rw [if_pos f, if_pos (by omega)]
      · rw [if_neg f, if_neg (by omega)]
theorem mnO_at (N O : Nat → Int32) : ∀ n r, cMnO N O n r = if r < n then N r else O r
  | 0, r => by rw [if_neg (by omega)]; rfl
  | n + 1, r => by
    rw [cMnO]
    by_cases e : r = n
    · subst e; rw [pk_us, if_pos (by omega), mnN_at, if_neg (by omega)]
    · rw [pk_un e, mnO_at N O n r]
      by_cases f : r < n
      · rw [if_pos f, if_pos (by omega)]
      · rw [if_neg f, if_neg (by omega)]
theorem IV.mon (h : IV B cn R Q F Wd P Hm N O) : IV B cn R Q F Wd P Hm (cMnN N cn) (cMnO N O cn) := by
  refine ⟨h.1, fun r hr => ?_, h.2.2.1, h.2.2.2⟩
  have h1 := h.2.1 r hr
  rw [mnN_at, if_pos hr, mnO_at, if_pos hr, show (0 : Int32).toInt = 0 from rfl]
  omega
theorem IV.bg (h : IV B cn R Q F Wd P Hm N O) : ∀ n, n ≤ cn → 0 ≤ (cBg N n).toInt ∧ (cBg N n).toInt ≤ 1000 * n
  | 0, _ => ⟨show (0 : Int) ≤ (0 : Int32).toInt by decide, show (0 : Int32).toInt ≤ 1000 * ((0 : Nat) : Int) by decide⟩
  | n + 1, hn => by
    have hc := h.hc
    have hB := h.2.2.2
    have h1 := h.bg n (by omega)
    have h2 := h.2.1 n (by omega)
    rw [cBg, mnN_at, if_neg (by omega), i_add (by omega)]
    omega
theorem IV.call (h : IV B cn R Q F Wd P Hm N O) {r : Nat} (hr : r < cn) (hB : B + 1 ≤ 1000) : IV (B + 1) cn R Q F Wd P (upd Hm r (P r)) (upd N r (N r + 1)) O := by
  refine ⟨VO_h h.1 (h.1.2 r hr).1, fun q hq => ?_, h.2.2.1, hB⟩
  have h1 := h.2.1 q hq
  by_cases e : q = r
  · subst e
    rw [pk_us, i_add (by rw [show (1 : Int32).toInt = 1 from rfl]; omega), show (1 : Int32).toInt = 1 from rfl]; omega
  · rw [pk_un e]; omega
end PU3
