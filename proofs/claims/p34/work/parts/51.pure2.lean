section PU2
variable {B cn : Nat} {R Q F Wd P Hm N O : Nat → Int32}
theorem sTk_upd {P W : Nat → Int32} {k v : Int32} {r : Nat} : ∀ n, sTk (upd P r v) W k n = sTk P W k n + (if r < n then ((if v = k then W r else 0) - (if P r = k then W r else 0)) else 0)
  | 0 => by rw [if_neg (by omega)]; exact (Int32.add_zero 0).symm
  | n + 1 => by
    rw [sTk, sTk, sTk_upd n]
    by_cases e : n = r
    · subst e
      rw [pk_us, if_neg (show ¬ n < n by omega), if_pos (show n < n + 1 by omega)]
      grind
    · rw [pk_un e]
      by_cases h : r < n
      · rw [if_pos h, if_pos (show r < n + 1 by omega)]; grind
      · rw [if_neg h, if_neg (show ¬ r < n + 1 by omega)]; grind
theorem sTk_cg {P W P2 W2 : Nat → Int32} {k : Int32} : ∀ n, (∀ r, r < n → P2 r = P r ∧ W2 r = W r) → sTk P2 W2 k n = sTk P W k n
  | 0, _ => rfl
  | n + 1, h => by
    rw [sTk, sTk, sTk_cg n (fun r hr => h r (by omega)), (h n (by omega)).1, (h n (by omega)).2]
theorem sTk_rem {P W P2 W2 : Nat → Int32} {k : Int32} {r : Nat} : ∀ n, r ≤ n → (∀ q, q < n → P2 q = (if r ≤ q then P (q + 1) else P q) ∧ W2 q = (if r ≤ q then W (q + 1) else W q)) → sTk P2 W2 k n = sTk P W k (n + 1) - (if P r = k then W r else 0)
  | n, hn, h => by
    by_cases e : n = r
    · subst e
      rw [sTk_cg (P := P) (W := W) n (fun q hq => by have := h q hq; rw [if_neg (by omega), if_neg (by omega)] at this; exact this)]
      rw [sTk]
      grind
    · match n, hn, h, e with
      | 0, hn, _, e => omega
      | n + 1, hn, h, e =>
        have h1 := h n (by omega)
        rw [if_pos (by omega), if_pos (by omega)] at h1
        rw [sTk, sTk_rem n (by omega) (fun q hq => h q (by omega)), h1.1, h1.2, show sTk P W k (n + 1 + 1) = sTk P W k (n + 1) + (if P (n + 1) = k then W (n + 1) else 0) from rfl]
        grind
theorem fShf_at (A : Nat → Int32) (r : Nat) : ∀ j q, fShf A r j q = if r ≤ q ∧ q < r + j then A (q + 1) else A q
  | 0, q => by rw [if_neg (by omega)]; rfl
  | j + 1, q => by
    rw [fShf]
    by_cases e : q = r + j
    · subst e
      rw [pk_us, fShf_at A r j, if_neg (by omega), if_pos (by omega)]
    · rw [pk_un e, fShf_at A r j]
      by_cases f : r ≤ q ∧ q < r + j
      · rw [if_pos f, if_pos (by omega)]
      · rw [if_neg f, if_neg (by omega)]
theorem p_nI {v : Int32} {j : Nat} (ho : Ok6 v) (hj : j < 6) : (v = nI j) ↔ j = ix v :=
  ⟨fun h => by rw [h, ix_nI (by omega)], fun h => by rw [ho.1, ← h]⟩
/-- what is filled behind putOn -/
theorem fPn_at {r k j : Nat} (ho : Ok6 (P r)) (hk : k < 6) (hj : j < 6) : fPn F P Wd r k j = F j + ((if nI k = nI j then Wd r else 0) - (if P r = nI j then Wd r else 0)) := by
  have e1 : (nI k = nI j) ↔ j = k := by rw [nI_eq (by omega) (by omega)]; exact eq_comm
  have e2 := p_nI ho hj
  unfold fPn
  by_cases a : j = k
  · rw [if_pos (e1.mpr a)]
    subst a
    rw [pk_us]
    by_cases b : j = ix (P r)
    · rw [if_pos (e2.mpr b), ← b, pk_us]; grind
    · rw [if_neg (fun q => b (e2.mp q)), pk_un b]; grind
  · rw [if_neg (fun q => a (e1.mp q)), pk_un a]
    by_cases b : j = ix (P r)
    · rw [if_pos (e2.mpr b), ← b, pk_us]; grind
    · rw [if_neg (fun q => b (e2.mp q)), pk_un b]; grind
/-- one record onto another shelf -/
theorem IV.put (h : IV B cn R Q F Wd P Hm N O) {r k : Nat} (hr : r < cn) (hk : k < 6) (hfit : P r = nI k ∨ Wd r ≤ R k - F k) : IV B cn R Q (fPn F P Wd r k) Wd (upd P r (nI k)) Hm N O := by
  have o := (h.1.2 r hr).1
  have hw := (h.2.1 r hr).1
  refine ⟨VO_p h.1 (Ok6_nI hk), h.2.1, fun j hj => ?_, h.2.2.2⟩
  have h1 := h.2.2.1 j hj
  have h2 := h.fb hj
  refine ⟨h1.1, h1.2.1, ?_, ?_⟩
  · rw [fPn_at o hk hj, sTk_upd, if_pos hr, ← h1.2.2.1]
  · rw [fPn_at o hk hj]
    by_cases e1 : nI k = nI j
    · have ek : k = j := (nI_eq (by omega) (by omega)).mp e1
      subst ek
      rw [if_pos rfl]
      by_cases e2 : P r = nI k
      · rw [if_pos e2, show F k + (Wd r - Wd r) = F k by grind]; omega
      · have h3 := hfit.resolve_left e2
        rw [i_le, h.fr hk] at h3
        rw [if_neg e2, show F k + (Wd r - 0) = F k + Wd r by grind, i_add (by omega)]
        omega
    · rw [if_neg e1]
      by_cases e2 : P r = nI j
      · rw [if_pos e2, show F j + (0 - Wd r) = F j - Wd r by grind, i_sub (by omega)]; omega
      · rw [if_neg e2, show F j + ((0 : Int32) - 0) = F j by grind]; omega
theorem IV.setH (h : IV B cn R Q F Wd P Hm N O) {r : Nat} {v : Int32} (hv : Ok6 v) : IV B cn R Q F Wd P (upd Hm r v) N O := ⟨VO_h h.1 hv, h.2.1, h.2.2.1, h.2.2.2⟩
/-- two records change their shelves -/
theorem IV.swap (h : IV B cn R Q F Wd P Hm N O) {r e : Nat} (hr : r < e) (he : e < cn) (hc : cCe P Wd R F r e = true) : IV B cn R Q (fPn (fPn F P Wd r (ix (P e))) (upd P r (nI (ix (P e)))) Wd e (ix (P r))) Wd (upd (upd P r (nI (ix (P e)))) e (nI (ix (P r)))) Hm N O := by
  have o1 := (h.1.2 r (by omega)).1
  have o2 := (h.1.2 e he).1
  have w1 := (h.2.1 r (by omega)).1
  have w2 := (h.2.1 e he).1
  have hne : e ≠ r := by omega
  have hpe : upd P r (nI (ix (P e))) e = P e := pk_un hne
  refine ⟨VO_p (VO_p h.1 (Ok6_nI o2.2)) (Ok6_nI o1.2), h.2.1, fun j hj => ?_, h.2.2.2⟩
  have h1 := h.2.2.1 j hj
  have h2 := h.fb hj
  have f1 := fPn_at (F := F) (Wd := Wd) o1 o2.2 hj
  have f2 := fPn_at (F := fPn F P Wd r (ix (P e))) (P := upd P r (nI (ix (P e)))) (Wd := Wd) (r := e) (k := ix (P r)) (j := j) (by rw [hpe]; exact o2) o1.2 hj
  rw [hpe, f1, ← o1.1, ← o2.1] at f2
  rw [← o1.1, ← o2.1]
  refine ⟨h1.1, h1.2.1, ?_, ?_⟩
  · rw [f2, sTk_upd, if_pos he, sTk_upd, if_pos (show r < cn by omega), pk_un hne, ← h1.2.2.1]
  · rw [f2]
    simp only [cCe, Bool.and_eq_true, Bool.not_eq_true', decide_eq_false_iff_not, decide_eq_true_eq] at hc
    obtain ⟨c1, c2, c3⟩ := hc
    have hs : (Wd e - Wd r).toInt = (Wd e).toInt - (Wd r).toInt := i_sub (by omega)
    rw [i_le, hs, h.fr o1.2] at c2
    rw [i_le, i_neg (by omega), hs, h.fr o2.2] at c3
    by_cases a : P e = nI j
    · have ej := (p_nI o2 hj).mp a
      have b : P r ≠ nI j := fun q => c1 (q.trans a.symm)
      simp only [if_pos a, if_neg b]
      rw [show F j + (Wd r - 0) + (0 - Wd e) = F j - (Wd e - Wd r) by grind, i_sub (by rw [hs]; omega), hs]
      rw [← ej] at c3
      omega
    · by_cases b : P r = nI j
      · have ej := (p_nI o1 hj).mp b
        simp only [if_neg a, if_pos b]
        rw [show F j + (0 - Wd r) + (Wd e - 0) = F j + (Wd e - Wd r) by grind, i_add (by rw [hs]; omega), hs]
        rw [← ej] at c2
        omega
      · simp only [if_neg a, if_neg b]
        rw [show F j + ((0 : Int32) - 0) + ((0 : Int32) - 0) = F j by grind]; omega
/-- the cost with another home -/
theorem sCo_upd {r : Nat} {v : Int32} : ∀ n, sCo N O (upd Hm r v) Q n = sCo N O Hm Q n + (if r < n then sHf N O r * (Q (ix v) - Q (ix (Hm r))) else 0)
  | 0 => by rw [if_neg (by omega)]; exact (Int32.add_zero 0).symm
  | n + 1 => by
    rw [sCo, sCo, sCo_upd n]
    by_cases e : n = r
    · subst e
      rw [pk_us, if_neg (show ¬ n < n by omega), if_pos (show n < n + 1 by omega)]
      grind
    · rw [pk_un e]
      by_cases h : r < n
      · rw [if_pos h, if_pos (show r < n + 1 by omega)]; grind
      · rw [if_neg h, if_neg (show ¬ r < n + 1 by omega)]; grind
/-- a step that the document allows, with its gain -/
def LG (N O Q P Hm Wd R F : Nat → Int32) (cn : Nat) (q : CS) : Prop := 0 < q.1 →
  (∃ r k, r < cn ∧ k < 6 ∧ sMis P Hm r = false ∧ Wd r ≤ R k - F k ∧ q = (cMg N O Q P r k, nI r, nI k, -1)) ∨
  (∃ r e, r < e ∧ e < cn ∧ sMis P Hm r = false ∧ sMis P Hm e = false ∧ cCe P Wd R F r e = true ∧ q = (cEg N O Q P r e, nI r, P e, nI e))
theorem LG_nt {its a b p : Int32} {q : CS} (hq : LG N O Q P Hm Wd R F cn q) (h : LG N O Q P Hm Wd R F cn (its, a, b, p)) : LG N O Q P Hm Wd R F cn (cNt its a b p q) := by
  unfold cNt
  split
  · exact h
  · exact hq
theorem LG_mv {r : Nat} {q : CS} (hr : r < cn) (hm : sMis P Hm r = false) (hq : LG N O Q P Hm Wd R F cn q) : ∀ k, k ≤ 6 → LG N O Q P Hm Wd R F cn (cMv N O Q P Wd R F r q k)
  | 0, _ => hq
  | k + 1, h => by
    rw [cMv]
    split
    · rename_i hb
      rw [Bool.and_eq_true, decide_eq_true_eq] at hb
      exact LG_nt (LG_mv hr hm hq k (by omega)) (fun _ => Or.inl ⟨r, k, hr, by omega, hm, hb.2, rfl⟩)
    · exact LG_mv hr hm hq k (by omega)
theorem LG_ex {r : Nat} {q : CS} (hm : sMis P Hm r = false) (hq : LG N O Q P Hm Wd R F cn q) : ∀ j, j ≤ cn - (r + 1) → LG N O Q P Hm Wd R F cn (cEx N O Q P Hm Wd R F r q j)
  | 0, _ => hq
  | j + 1, h => by
    rw [cEx]
    split
    · rename_i hb
      rw [Bool.and_eq_true, Bool.not_eq_true'] at hb
      exact LG_nt (LG_ex hm hq j (by omega)) (fun _ => Or.inr ⟨r, r + 1 + j, by omega, by omega, hm, hb.1, hb.2, rfl⟩)
    · exact LG_ex hm hq j (by omega)
theorem LG_f1 {q : CS} (hq : LG N O Q P Hm Wd R F cn q) : ∀ r, r ≤ cn → LG N O Q P Hm Wd R F cn (cF1 N O Q P Hm Wd R F q r)
  | 0, _ => hq
  | r + 1, h => by
    rw [cF1]
    split
    · exact LG_f1 hq r (by omega)
    · rename_i hm
      exact LG_mv (by omega) (by rw [Bool.not_eq_true] at hm; exact hm) (LG_f1 hq r (by omega)) 6 (Nat.le_refl _)
theorem LG_f2 {q : CS} (hq : LG N O Q P Hm Wd R F cn q) : ∀ r, r ≤ cn → LG N O Q P Hm Wd R F cn (cF2 N O Q P Hm Wd R F cn q r)
  | 0, _ => hq
  | r + 1, h => by
    rw [cF2]
    split
    · exact LG_f2 hq r (by omega)
    · rename_i hm
      exact LG_ex (by rw [Bool.not_eq_true] at hm; exact hm) (LG_f2 hq r (by omega)) _ (Nat.le_refl _)
theorem LG_f (q : CS) : LG N O Q P Hm Wd R F cn (cF N O Q P Hm Wd R F cn q) :=
  LG_f2 (LG_f1 (fun h => absurd (show (0 : Int32) < 0 from h) (by decide)) cn (Nat.le_refl _)) cn (Nat.le_refl _)
/-! the best step's gain: no less than any other's, and never below 0 -/
theorem nt_ge {its a b p : Int32} {q : CS} : q.1 ≤ (cNt its a b p q).1 ∧ its ≤ (cNt its a b p q).1 := by
  unfold cNt
  split
  · rename_i h; exact ⟨Int32.le_of_lt h, Int32.le_refl _⟩
  · rename_i h; exact ⟨Int32.le_refl _, Int32.not_lt.mp h⟩
theorem mv_ge {r : Nat} {q : CS} : ∀ k, q.1 ≤ (cMv N O Q P Wd R F r q k).1 ∧ ∀ j, j < k → P r ≠ nI j → Wd r ≤ R j - F j → cMg N O Q P r j ≤ (cMv N O Q P Wd R F r q k).1
  | 0 => ⟨Int32.le_refl _, fun _ h => absurd h (Nat.not_lt_zero _)⟩
  | k + 1 => by
    have ih := mv_ge (r := r) (q := q) k
    rw [cMv]
    by_cases e : (!decide (nI k = P r) && decide (Wd r ≤ R k - F k)) = true
    · rw [if_pos e]
      have hn := nt_ge (its := cMg N O Q P r k) (a := nI r) (b := nI k) (p := -1) (q := cMv N O Q P Wd R F r q k)
      refine ⟨Int32.le_trans ih.1 hn.1, fun j hj h1 h2 => ?_⟩
      by_cases f : j = k
      · subst f; exact hn.2
      · exact Int32.le_trans (ih.2 j (by omega) h1 h2) hn.1
    · rw [if_neg e]
      refine ⟨ih.1, fun j hj h1 h2 => ?_⟩
      by_cases f : j = k
      · subst f
        exact absurd (by rw [Bool.and_eq_true, Bool.not_eq_true', decide_eq_false_iff_not, decide_eq_true_eq]; exact ⟨fun q => h1 q.symm, h2⟩) e
      · exact ih.2 j (by omega) h1 h2
theorem ex_ge {r : Nat} {q : CS} : ∀ j, q.1 ≤ (cEx N O Q P Hm Wd R F r q j).1
  | 0 => Int32.le_refl _
  | j + 1 => by
    rw [cEx]
    split
    · exact Int32.le_trans (ex_ge j) nt_ge.1
    · exact ex_ge j
theorem f1_ge {q : CS} : ∀ n, q.1 ≤ (cF1 N O Q P Hm Wd R F q n).1 ∧ ∀ r j, r < n → j < 6 → sMis P Hm r = false → P r ≠ nI j → Wd r ≤ R j - F j → cMg N O Q P r j ≤ (cF1 N O Q P Hm Wd R F q n).1
  | 0 => ⟨Int32.le_refl _, fun _ _ h => absurd h (Nat.not_lt_zero _)⟩
  | n + 1 => by
    have ih := f1_ge (q := q) n
    rw [cF1]
    by_cases e : sMis P Hm n = true
    · rw [if_pos e]
      refine ⟨ih.1, fun r j hr hj h1 h2 h3 => ?_⟩
      by_cases f : r = n
      · subst f; rw [h1] at e; cases e
      · exact ih.2 r j (by omega) hj h1 h2 h3
    · rw [if_neg e]
      have hm := mv_ge (N := N) (O := O) (Q := Q) (P := P) (Wd := Wd) (R := R) (F := F) (r := n) (q := cF1 N O Q P Hm Wd R F q n) 6
      refine ⟨Int32.le_trans ih.1 hm.1, fun r j hr hj h1 h2 h3 => ?_⟩
      by_cases f : r = n
      · subst f; exact hm.2 j hj h2 h3
      · exact Int32.le_trans (ih.2 r j (by omega) hj h1 h2 h3) hm.1
theorem f2_ge {q : CS} : ∀ n, q.1 ≤ (cF2 N O Q P Hm Wd R F cn q n).1
  | 0 => Int32.le_refl _
  | n + 1 => by
    rw [cF2]
    split
    · exact f2_ge n
    · exact Int32.le_trans (f2_ge n) (ex_ge _)
theorem f_nn (q : CS) : 0 ≤ (cF N O Q P Hm Wd R F cn q).1 := Int32.le_trans (f1_ge (q := ((0 : Int32), q.2)) cn).1 (f2_ge cn)
theorem f_pos (q : CS) {r k : Nat} (hr : r < cn) (hk : k < 6) (e : cRsn N O Q P Hm R F Wd r k = 0) : 0 < (cF N O Q P Hm Wd R F cn q).1 := by
  obtain ⟨e1, e2, e3, e4⟩ := rs0 e
  have h1 : cMg N O Q P r k ≤ (cF N O Q P Hm Wd R F cn q).1 := Int32.le_trans ((f1_ge (N := N) (O := O) (Q := Q) (Hm := Hm) (q := ((0 : Int32), q.2)) cn).2 r k hr hk e1 e2 (Int32.not_lt.mp e3)) (f2_ge (cn := cn) cn)
  exact pos_1 (Int32.le_trans (Int32.not_lt.mp e4) h1)
/-! what stood in the best step before doesn't matter -/
def SB (q q' : CS) : Prop := q = q' ∨ (q.1 = 0 ∧ q'.1 = 0)
theorem SB_nt {its a b p : Int32} {q q' : CS} (h : SB q q') : SB (cNt its a b p q) (cNt its a b p q') := by
  rcases h with rfl | ⟨h1, h2⟩
  · exact Or.inl rfl
  · unfold cNt
    rw [h1, h2]
    by_cases e : 0 < its
    · rw [if_pos e, if_pos e]; exact Or.inl rfl
    · rw [if_neg e, if_neg e]; exact Or.inr ⟨h1, h2⟩
theorem SB_mv {r : Nat} {q q' : CS} (h : SB q q') : ∀ k, SB (cMv N O Q P Wd R F r q k) (cMv N O Q P Wd R F r q' k)
  | 0 => h
  | k + 1 => by
    rw [cMv, cMv]
    by_cases e : (!decide (nI k = P r) && decide (Wd r ≤ R k - F k)) = true
    · rw [if_pos e, if_pos e]; exact SB_nt (SB_mv h k)
    · rw [if_neg e, if_neg e]; exact SB_mv h k
theorem SB_ex {r : Nat} {q q' : CS} (h : SB q q') : ∀ j, SB (cEx N O Q P Hm Wd R F r q j) (cEx N O Q P Hm Wd R F r q' j)
  | 0 => h
  | j + 1 => by
    rw [cEx, cEx]
    by_cases e : (!sMis P Hm (r + 1 + j) && cCe P Wd R F r (r + 1 + j)) = true
    · rw [if_pos e, if_pos e]; exact SB_nt (SB_ex h j)
    · rw [if_neg e, if_neg e]; exact SB_ex h j
theorem SB_f1 {q q' : CS} (h : SB q q') : ∀ n, SB (cF1 N O Q P Hm Wd R F q n) (cF1 N O Q P Hm Wd R F q' n)
  | 0 => h
  | n + 1 => by
    rw [cF1, cF1]
    by_cases e : sMis P Hm n = true
    · rw [if_pos e, if_pos e]; exact SB_f1 h n
    · rw [if_neg e, if_neg e]; exact SB_mv (SB_f1 h n) 6
theorem SB_f2 {q q' : CS} (h : SB q q') : ∀ n, SB (cF2 N O Q P Hm Wd R F cn q n) (cF2 N O Q P Hm Wd R F cn q' n)
  | 0 => h
  | n + 1 => by
    rw [cF2, cF2]
    by_cases e : sMis P Hm n = true
    · rw [if_pos e, if_pos e]; exact SB_f2 h n
    · rw [if_neg e, if_neg e]; exact SB_ex (SB_f2 h n) _
theorem SB_f (q q' : CS) : SB (cF N O Q P Hm Wd R F cn q) (cF N O Q P Hm Wd R F cn q') :=
  SB_f2 (SB_f1 (Or.inr ⟨rfl, rfl⟩) cn) cn
theorem f_eq1 (q q' : CS) : (cF N O Q P Hm Wd R F cn q).1 = (cF N O Q P Hm Wd R F cn q').1 := by
  rcases SB_f (N := N) (O := O) (Q := Q) (P := P) (Hm := Hm) (Wd := Wd) (R := R) (F := F) (cn := cn) q q' with h | ⟨h1, h2⟩
  · rw [h]
  · rw [h1, h2]
end PU2
