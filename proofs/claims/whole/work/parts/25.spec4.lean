/-- the check's sign at t in a text of n signs -/
def sSg (B : Nat → Int32) (n t : Nat) : Int32 := if t < n then B t else 0
abbrev PS : Type := Bool × Nat
def wW (B : Nat → Int32) (n : Nat) (x : Int32) (q : PS) : PS := (q.1 && decide (sSg B n q.2 = x), if (q.1 && decide (sSg B n q.2 = x)) = true then q.2 + 1 else q.2)
theorem sSg_lt {B : Nat → Int32} {n t : Nat} (h : ¬ sSg B n t = 0) : t < n := by
  unfold sSg at h
  split at h
  · assumption
  · exact absurd rfl h
theorem wW_le {B : Nat → Int32} {n : Nat} {x : Int32} {q : PS} (hx : ¬ x = 0) (h : q.2 ≤ n) : (wW B n x q).2 ≤ n := by
  show (if _ then _ else _) ≤ n
  split
  · rename_i h1
    simp only [Bool.and_eq_true, decide_eq_true_eq] at h1
    have := sSg_lt (B := B) (n := n) (t := q.2) (by rw [h1.2]; exact hx)
    exact Nat.succ_le_of_lt this
  · exact h
theorem wW_ge {B : Nat → Int32} {n : Nat} {x : Int32} {q : PS} : q.2 ≤ (wW B n x q).2 ∧ ((wW B n x q).1 = true → q.1 = true ∧ (wW B n x q).2 = q.2 + 1) := by
  refine ⟨?_, fun h => ?_⟩
  · show q.2 ≤ (if _ then _ else _)
    split
    · exact Nat.le_succ _
    · exact Nat.le_refl _
  · have h1 : (q.1 && decide (sSg B n q.2 = x)) = true := h
    refine ⟨(Bool.and_eq_true_iff.mp h1).1, ?_⟩
    show (if _ then _ else _) = _
    rw [if_pos h1]
def nCn (B : Nat → Int32) (n most : Nat) (w : Bool) (v : Int32) (t : Nat) : Bool := w && (decide (0 < v) && (sIn (sSg B n t) 48 57 && decide (10 * v + sSg B n t - 48 ≤ nI most)))
def nLp (B : Nat → Int32) (n most : Nat) (w : Bool) : Nat → Int32 → Nat → Int32 × Nat
  | 0, v, t => (v, t)
  | f + 1, v, t => if nCn B n most w v t = true then nLp B n most w f (10 * v + sSg B n t - 48) (t + 1) else (v, t)
theorem nCn_lt {B : Nat → Int32} {n most : Nat} {w : Bool} {v : Int32} {t : Nat} (h : nCn B n most w v t = true) : t < n := by
  simp only [nCn, sIn, Bool.and_eq_true, decide_eq_true_eq] at h
  refine sSg_lt (B := B) (fun e => ?_)
  rw [e] at h
  exact absurd h.2.2.1.1 (by decide)
theorem nLp_stop {B : Nat → Int32} {n most f t : Nat} {w : Bool} {v : Int32} (h : nCn B n most w v t = false) : nLp B n most w f v t = (v, t) := by
  cases f with
  | zero => rfl
  | succ f => rw [nLp, if_neg (by rw [h]; decide)]
theorem nLp_step {B : Nat → Int32} {n most t : Nat} {w : Bool} {v : Int32} (h : nCn B n most w v t = true) : nLp B n most w (n - t) v t = nLp B n most w (n - (t + 1)) (10 * v + sSg B n t - 48) (t + 1) := by
  have := nCn_lt h
  rw [show n - t = n - (t + 1) + 1 by omega, nLp, if_pos h]
theorem nLp_le {B : Nat → Int32} {n most : Nat} {w : Bool} : ∀ (f : Nat) (v : Int32) (t : Nat), t ≤ n → t ≤ (nLp B n most w f v t).2 ∧ (nLp B n most w f v t).2 ≤ n
  | 0, v, t, h => ⟨Nat.le_refl _, h⟩
  | f + 1, v, t, h => by
    unfold nLp
    split
    · rename_i h1
      have := nLp_le (B := B) (n := n) (most := most) (w := w) f (10 * v + sSg B n t - 48) (t + 1) (nCn_lt h1)
      omega
    · exact ⟨Nat.le_refl _, h⟩
def nIn (B : Nat → Int32) (n least most : Nat) (q : PS) : Bool := q.1 && sIn (sSg B n q.2) (nI (48 + least)) (nI (48 + (if most < 9 then most else 9)))
def nT1 (B : Nat → Int32) (n least most : Nat) (q : PS) : Nat := if nIn B n least most q = true then q.2 + 1 else q.2
/-- a number read: its value, whether well, the place behind it -/
def nNum (B : Nat → Int32) (n least most : Nat) (q : PS) : Int32 × PS :=
  ((nLp B n most (nIn B n least most q) (n - nT1 B n least most q) (sSg B n q.2 - 48) (nT1 B n least most q)).1, (nIn B n least most q, (nLp B n most (nIn B n least most q) (n - nT1 B n least most q) (sSg B n q.2 - 48) (nT1 B n least most q)).2))
theorem nT1_le {B : Nat → Int32} {n least most : Nat} {q : PS} (hl : least ≤ 9) (h : q.2 ≤ n) : q.2 ≤ nT1 B n least most q ∧ nT1 B n least most q ≤ n ∧ (nIn B n least most q = true → nT1 B n least most q = q.2 + 1) := by
  unfold nT1
  split
  · rename_i h1
    have h1 := h1
    simp only [nIn, sIn, Bool.and_eq_true, decide_eq_true_eq] at h1
    have : q.2 < n := sSg_lt (B := B) (fun e => by
      rw [e] at h1
      have := (nI_leI (a := 48 + least) (b := 0) (by omega) (by decide)).mp h1.2.1
      omega)
    omega
  · rename_i h1
    exact ⟨Nat.le_refl _, h, fun q => absurd q h1⟩
theorem nNum_le {B : Nat → Int32} {n least most : Nat} {q : PS} (hl : least ≤ 9) (h : q.2 ≤ n) : q.2 ≤ (nNum B n least most q).2.2 ∧ (nNum B n least most q).2.2 ≤ n ∧ ((nNum B n least most q).2.1 = true → q.1 = true ∧ q.2 + 1 ≤ (nNum B n least most q).2.2) := by
  have h1 := nT1_le (B := B) (most := most) hl h
  have h2 := nLp_le (B := B) (n := n) (most := most) (w := nIn B n least most q) (n - nT1 B n least most q) (sSg B n q.2 - 48) (nT1 B n least most q) h1.2.1
  refine ⟨Nat.le_trans h1.1 h2.1, h2.2, fun hw => ⟨?_, ?_⟩⟩
  · have hw : nIn B n least most q = true := hw
    simp only [nIn, Bool.and_eq_true] at hw
    exact hw.1
  · rw [← h1.2.2 hw]; exact h2.1
def wR (B : Nat → Int32) (n : Nat) (a b c d : Int32) (q : PS) : PS :=
  if d = 0 then (if c = 0 then wW B n b (wW B n a q) else wW B n c (wW B n b (wW B n a q))) else wW B n d (if c = 0 then wW B n b (wW B n a q) else wW B n c (wW B n b (wW B n a q)))
/-- the kind of the word at t, whether it is there, and the place behind it -/
def wWd (B : Nat → Int32) (n t : Nat) : Nat × PS :=
  if sSg B n t = nI 97 then (1, wR B n 100 100 0 0 (true, t + 1)) else if sSg B n t = nI 99 then (2, wR B n 97 108 108 0 (true, t + 1)) else if sSg B n t = nI 108 then (3, wR B n 111 115 101 0 (true, t + 1)) else if sSg B n t = nI 109 then (4, wR B n 111 110 116 104 (true, t + 1)) else if sSg B n t = nI 110 then (5, wR B n 105 103 104 116 (true, t + 1)) else (0, (false, t))
theorem nNum_t {B : Nat → Int32} {n least most tn t : Nat} {w : Bool} {v : Int32} (hin : nIn B n least most (w, tn) = true) (hZ : nLp B n most true (n - (tn + 1)) (sSg B n tn - 48) (tn + 1) = (v, t)) : nNum B n least most (w, tn) = (v, (true, t)) := by
  unfold nNum nT1
  rw [hin, if_pos rfl]
  show ((nLp B n most true (n - (tn + 1)) (sSg B n tn - 48) (tn + 1)).1, (true, (nLp B n most true (n - (tn + 1)) (sSg B n tn - 48) (tn + 1)).2)) = _
  rw [hZ]
theorem nNum_f {B : Nat → Int32} {n least most tn : Nat} {w : Bool} (hin : nIn B n least most (w, tn) = false) : nNum B n least most (w, tn) = (sSg B n tn - 48, (false, tn)) := by
  unfold nNum nT1
  rw [hin, if_neg (by decide), nLp_stop (by simp [nCn])]
theorem nl57 : nI 57 = 57 := rfl
theorem wR_le {B : Nat → Int32} {n : Nat} {a b c d : Int32} {q : PS} (ha : ¬ a = 0) (hb : ¬ b = 0) (h : q.2 ≤ n) : (wR B n a b c d q).2 ≤ n := by
  unfold wR
  split
  · split
    · exact wW_le hb (wW_le ha h)
    · rename_i hc; exact wW_le hc (wW_le hb (wW_le ha h))
  · rename_i hd
    split
    · exact wW_le hd (wW_le hb (wW_le ha h))
    · rename_i hc; exact wW_le hd (wW_le hc (wW_le hb (wW_le ha h)))
theorem wR_ge {B : Nat → Int32} {n : Nat} {a b c d : Int32} {q : PS} (h : (wR B n a b c d q).1 = true) : q.1 = true ∧ q.2 + 2 + (if c = 0 then 0 else 1) + (if d = 0 then 0 else 1) = (wR B n a b c d q).2 := by
  unfold wR at h ⊢
  split at h
  · rename_i hd
    split at h
    · rename_i hc
      have h2 := (wW_ge (B := B)).2 h
      have h1 := (wW_ge (B := B)).2 h2.1
      refine ⟨h1.1, ?_⟩
      simp only [hd, hc, if_true]
      rw [h2.2, h1.2]
    · rename_i hc
      have h3 := (wW_ge (B := B)).2 h
      have h2 := (wW_ge (B := B)).2 h3.1
      have h1 := (wW_ge (B := B)).2 h2.1
      refine ⟨h1.1, ?_⟩
      simp only [hd, hc, if_true, if_false]
      rw [h3.2, h2.2, h1.2]
  · rename_i hd
    split at h
    · rename_i hc
      have h3 := (wW_ge (B := B)).2 h
      have h2 := (wW_ge (B := B)).2 h3.1
      have h1 := (wW_ge (B := B)).2 h2.1
      refine ⟨h1.1, ?_⟩
      simp only [hd, hc, if_true, if_false]
      rw [h3.2, h2.2, h1.2]
    · rename_i hc
      have h4 := (wW_ge (B := B)).2 h
      have h3 := (wW_ge (B := B)).2 h4.1
      have h2 := (wW_ge (B := B)).2 h3.1
      have h1 := (wW_ge (B := B)).2 h2.1
      refine ⟨h1.1, ?_⟩
      simp only [hd, hc, if_false]
      rw [h4.2, h3.2, h2.2, h1.2]
theorem wWd_5 (B : Nat → Int32) (n t : Nat) : (wWd B n t).1 ≤ 5 := by
  unfold wWd
  repeat' split
  all_goals exact Nat.le_of_ble_eq_true rfl
theorem sg_lt {B : Nat → Int32} {n t k : Nat} (hk : nI k ≠ 0) (h : sSg B n t = nI k) : t + 1 ≤ n := sSg_lt (B := B) (by rw [h]; exact hk)
theorem wWd_le {B : Nat → Int32} {n t : Nat} (h : t ≤ n) : (wWd B n t).2.2 ≤ n := by
  unfold wWd
  split
  · rename_i e; exact wR_le (by decide) (by decide) (sg_lt (by decide) e)
  · split
    · rename_i e; exact wR_le (by decide) (by decide) (sg_lt (by decide) e)
    · split
      · rename_i e; exact wR_le (by decide) (by decide) (sg_lt (by decide) e)
      · split
        · rename_i e; exact wR_le (by decide) (by decide) (sg_lt (by decide) e)
        · split
          · rename_i e; exact wR_le (by decide) (by decide) (sg_lt (by decide) e)
          · exact h
/-- where the word is there: its kind, and how far it goes -/
theorem wWd_ge {B : Nat → Int32} {n t : Nat} (h : (wWd B n t).2.1 = true) : ((wWd B n t).1 = 1 ∧ (wWd B n t).2.2 = t + 3) ∨ ((wWd B n t).1 = 2 ∧ (wWd B n t).2.2 = t + 4) ∨ ((wWd B n t).1 = 3 ∧ (wWd B n t).2.2 = t + 4) ∨ ((wWd B n t).1 = 4 ∧ (wWd B n t).2.2 = t + 5) ∨ ((wWd B n t).1 = 5 ∧ (wWd B n t).2.2 = t + 5) := by
  by_cases e1 : sSg B n t = nI 97
  · have w : wWd B n t = (1, wR B n 100 100 0 0 (true, t + 1)) := by rw [wWd, if_pos e1]
    rw [w] at h ⊢
    exact (Or.inl ⟨rfl, (wR_ge h).2.symm⟩)
  by_cases e2 : sSg B n t = nI 99
  · have w : wWd B n t = (2, wR B n 97 108 108 0 (true, t + 1)) := by rw [wWd, if_neg e1, if_pos e2]
    rw [w] at h ⊢
    exact (Or.inr (Or.inl ⟨rfl, (wR_ge h).2.symm⟩))
  by_cases e3 : sSg B n t = nI 108
  · have w : wWd B n t = (3, wR B n 111 115 101 0 (true, t + 1)) := by rw [wWd, if_neg e1, if_neg e2, if_pos e3]
    rw [w] at h ⊢
    exact (Or.inr (Or.inr (Or.inl ⟨rfl, (wR_ge h).2.symm⟩)))
  by_cases e4 : sSg B n t = nI 109
  · have w : wWd B n t = (4, wR B n 111 110 116 104 (true, t + 1)) := by rw [wWd, if_neg e1, if_neg e2, if_neg e3, if_pos e4]
    rw [w] at h ⊢
    exact (Or.inr (Or.inr (Or.inr (Or.inl ⟨rfl, (wR_ge h).2.symm⟩))))
  by_cases e5 : sSg B n t = nI 110
  · have w : wWd B n t = (5, wR B n 105 103 104 116 (true, t + 1)) := by rw [wWd, if_neg e1, if_neg e2, if_neg e3, if_neg e4, if_pos e5]
    rw [w] at h ⊢
    exact (Or.inr (Or.inr (Or.inr (Or.inr ⟨rfl, (wR_ge h).2.symm⟩))))
  have w : wWd B n t = (0, (false, t)) := by rw [wWd, if_neg e1, if_neg e2, if_neg e3, if_neg e4, if_neg e5]
  rw [w] at h
  exact absurd h Bool.false_ne_true
abbrev RS : Type := (Nat → Int32) × PS × Nat
def b1 (b : Bool) : Nat := if b = true then 1 else 0
def rOrd (B : Nat → Int32) (n : Nat) (R : Nat → Int32) (t m : Nat) : RS :=
  if (wWd B n t).1 = 1 then (upd (upd (upd R (3 * m) (nI (wWd B n t).1)) (3 * m + 1) (nNum B n 1 30 (wWd B n t).2).1) (3 * m + 2) (nNum B n 0 5 (wW B n 64 (nNum B n 1 30 (wWd B n t).2).2)).1, (nNum B n 0 5 (wW B n 64 (nNum B n 1 30 (wWd B n t).2).2)).2, m + b1 (nNum B n 0 5 (wW B n 64 (nNum B n 1 30 (wWd B n t).2).2)).2.1)
  else if (wWd B n t).1 = 5 then (upd (upd R (3 * m) (nI (wWd B n t).1)) (3 * m + 1) (nNum B n 1 20 (wWd B n t).2).1, (nNum B n 1 20 (wWd B n t).2).2, m + b1 (nNum B n 1 20 (wWd B n t).2).2.1)
  else if (wWd B n t).1 = 2 then (upd (upd R (3 * m) (nI (wWd B n t).1)) (3 * m + 1) (nNum B n 0 15 (wWd B n t).2).1, (nNum B n 0 15 (wWd B n t).2).2, m + b1 (nNum B n 0 15 (wWd B n t).2).2.1)
  else if (wWd B n t).1 = 3 then (upd (upd (upd R (3 * m) (nI (wWd B n t).1)) (3 * m + 1) (nNum B n 0 15 (wWd B n t).2).1) (3 * m + 2) (nNum B n 0 5 (wW B n 64 (nNum B n 0 15 (wWd B n t).2).2)).1, (nNum B n 0 5 (wW B n 64 (nNum B n 0 15 (wWd B n t).2).2)).2, m + b1 (nNum B n 0 5 (wW B n 64 (nNum B n 0 15 (wWd B n t).2).2)).2.1)
  else (upd R (3 * m) (nI (wWd B n t).1), (wWd B n t).2, m + b1 (wWd B n t).2.1)
