abbrev VS : Type := Nat × Int32 × Int32 × (Nat → Nat → Int32)
/-- a vault's eight rows -/
def mk8 (r q f w p h n o : Nat → Int32) : Nat → Nat → Int32
  | 0 => r
  | 1 => q
  | 2 => f
  | 3 => w
  | 4 => p
  | 5 => h
  | 6 => n
  | _ => o
theorem i_sub {a b : Int32} (h : -2147483648 ≤ a.toInt - b.toInt ∧ a.toInt - b.toInt ≤ 2147483647) : (a - b).toInt = a.toInt - b.toInt := by
  rw [Int32.toInt_sub]
  exact Int.bmod_eq_of_le (by omega) (by omega)
theorem i_add {a b : Int32} (h : -2147483648 ≤ a.toInt + b.toInt ∧ a.toInt + b.toInt ≤ 2147483647) : (a + b).toInt = a.toInt + b.toInt := by
  rw [Int32.toInt_add]
  exact Int.bmod_eq_of_le (by omega) (by omega)
theorem i_neg {a : Int32} (h : -2147483647 ≤ a.toInt) : (-a).toInt = -a.toInt := by
  have h2 : a.toInt < 2 ^ 31 := a.toInt_lt
  rw [Int32.toInt_neg]
  exact Int.bmod_eq_of_le (by omega) (by omega)
theorem i_mul {a b : Int32} (h : -2147483648 ≤ a.toInt * b.toInt ∧ a.toInt * b.toInt ≤ 2147483647) : (a * b).toInt = a.toInt * b.toInt := by
  rw [Int32.toInt_mul]
  exact Int.bmod_eq_of_le (by omega) (by omega)
theorem i_le {a b : Int32} : a ≤ b ↔ a.toInt ≤ b.toInt := Int32.le_iff_toInt_le
theorem i_lt {a b : Int32} : a < b ↔ a.toInt < b.toInt := Int32.lt_iff_toInt_lt
theorem i_lit1 : (nI 1).toInt = 1 := rfl
/-- what stands of a vault: places, widths, calls below B, shelves -/
def IV (B cn : Nat) (R Q F Wd P Hm N O : Nat → Int32) : Prop := VO P Hm cn ∧ (∀ r, r < cn → (1 ≤ (Wd r).toInt ∧ (Wd r).toInt ≤ 30) ∧ (0 ≤ (N r).toInt ∧ (N r).toInt ≤ B) ∧ (0 ≤ (O r).toInt ∧ (O r).toInt ≤ B)) ∧ (∀ k, k < 6 → (1 ≤ (Q k).toInt ∧ (Q k).toInt ≤ 99) ∧ (R k).toInt ≤ 99 ∧ F k = sTk P Wd (nI k) cn ∧ (F k).toInt ≤ (R k).toInt) ∧ B ≤ 1000
def INV (B : Nat) (V : VS) : Prop := IV B V.1 (V.2.2.2 0) (V.2.2.2 1) (V.2.2.2 2) (V.2.2.2 3) (V.2.2.2 4) (V.2.2.2 5) (V.2.2.2 6) (V.2.2.2 7)
section PU1
variable {B cn : Nat} {R Q F Wd P Hm N O : Nat → Int32}
theorem IV.vo (h : IV B cn R Q F Wd P Hm N O) : VO P Hm cn := h.1
theorem IV.hc (h : IV B cn R Q F Wd P Hm N O) : cn ≤ 16 := h.1.1
theorem IV.up (h : IV B cn R Q F Wd P Hm N O) {B2 : Nat} (h1 : B ≤ B2) (h2 : B2 ≤ 1000) : IV B2 cn R Q F Wd P Hm N O :=
  ⟨h.1, fun r hr => by have := h.2.1 r hr; omega, h.2.2.1, h2⟩
theorem IV.tk (h : IV B cn R Q F Wd P Hm N O) (k : Int32) : ∀ n, n ≤ cn → 0 ≤ (sTk P Wd k n).toInt ∧ (sTk P Wd k n).toInt ≤ 30 * n
  | 0, _ => ⟨show (0 : Int) ≤ (0 : Int32).toInt by decide, show (0 : Int32).toInt ≤ 30 * ((0 : Nat) : Int) by decide⟩
  | n + 1, hn => by
    have hc := h.hc
    have h1 := h.tk k n (by omega)
    have hw := h.2.1 n (by omega)
    rw [sTk]
    by_cases e : P n = k
    · rw [if_pos e, i_add (by omega)]; omega
    · rw [if_neg e, Int32.add_zero]; omega
theorem IV.fb (h : IV B cn R Q F Wd P Hm N O) {k : Nat} (hk : k < 6) : 0 ≤ (F k).toInt ∧ (F k).toInt ≤ (R k).toInt ∧ (R k).toInt ≤ 99 := by
  have h1 := h.2.2.1 k hk
  have h2 := h.tk (nI k) cn (Nat.le_refl _)
  rw [← h1.2.2.1] at h2
  omega
theorem IV.fr (h : IV B cn R Q F Wd P Hm N O) {k : Nat} (hk : k < 6) : (R k - F k).toInt = (R k).toInt - (F k).toInt := by
  have h1 := h.fb hk
  exact i_sub (by omega)
theorem IV.free (h : IV B cn R Q F Wd P Hm N O) {k : Nat} (hk : k < 6) : ¬ R k - F k < 0 := by
  have h1 := h.fb hk
  rw [i_lt, h.fr hk, show (0 : Int32).toInt = 0 from rfl]; omega
theorem IV.f99 (h : IV B cn R Q F Wd P Hm N O) {k : Nat} (hk : k < 6) : F k ≤ nI 99 := by
  have h1 := h.fb hk
  rw [i_le, show (nI 99).toInt = 99 from rfl]; omega
theorem IV.hf (h : IV B cn R Q F Wd P Hm N O) {r : Nat} (hr : r < cn) : 0 ≤ (sHf N O r).toInt ∧ (sHf N O r).toInt ≤ 3 * B := by
  have h1 := h.2.1 r hr
  have hb := h.2.2.2
  have e1 : (2 * N r).toInt = 2 * (N r).toInt := i_mul (a := 2) (by rw [show (2 : Int32).toInt = 2 from rfl]; omega)
  rw [sHf, i_add (by rw [e1]; omega), e1]; omega
theorem IV.pQ (h : IV B cn R Q F Wd P Hm N O) {r : Nat} (hr : r < cn) : (1 ≤ (Q (ix (P r))).toInt ∧ (Q (ix (P r))).toInt ≤ 99) ∧ (1 ≤ (Q (ix (Hm r))).toInt ∧ (Q (ix (Hm r))).toInt ≤ 99) :=
  ⟨(h.2.2.1 _ (h.1.2 r hr).1.2).1, (h.2.2.1 _ (h.1.2 r hr).2.2).1⟩
/-- a product of a weight and a reach -/
theorem pr_bd {x y : Int} {B : Nat} (hx : 0 ≤ x ∧ x ≤ 3 * B) (hy : 1 ≤ y ∧ y ≤ 99) : 0 ≤ x * y ∧ x * y ≤ 297 * B := by
  have h1 : 0 ≤ x * y := Int.mul_nonneg hx.1 (by omega)
  have h2 : x * y ≤ (3 * B) * 99 := Int.mul_le_mul hx.2 hy.2 (by omega) (by omega)
  omega
theorem IV.co (h : IV B cn R Q F Wd P Hm N O) : ∀ n, n ≤ cn → 0 ≤ (sCo N O Hm Q n).toInt ∧ (sCo N O Hm Q n).toInt ≤ 297 * B * n
  | 0, _ => ⟨show (0 : Int) ≤ (0 : Int32).toInt by decide, show (0 : Int32).toInt ≤ 297 * B * ((0 : Nat) : Int) by rw [show ((0 : Nat) : Int) = 0 from rfl, Int.mul_zero]; decide⟩
  | n + 1, hn => by
    have hc := h.hc
    have hB := h.2.2.2
    have h1 := h.co n (by omega)
    have hw := h.hf (r := n) (by omega)
    have hq := (h.pQ (r := n) (by omega)).2
    have hp := pr_bd hw hq
    have hm : (sHf N O n * Q (ix (Hm n))).toInt = (sHf N O n).toInt * (Q (ix (Hm n))).toInt := i_mul (by omega)
    have e : 297 * (B : Int) * ((n + 1 : Nat) : Int) = 297 * B * n + 297 * B := by rw [show ((n + 1 : Nat) : Int) = (n : Int) + 1 from rfl, Int.mul_add, Int.mul_one]
    have hn2 : 297 * (B : Int) * n ≤ 297 * B * 16 := Int.mul_le_mul_of_nonneg_left (by omega) (by omega)
    rw [sCo, i_add (by rw [hm]; omega), hm, e]
    omega
/-! walks -/
theorem sBf_self (Q : Nat → Int32) (p : Nat) : sBf Q p p = false := by
  simp [sBf, Int32.lt_irrefl]
theorem IV.wl (h : IV B cn R Q F Wd P Hm N O) {j p : Nat} (hj : j < 6) (hp : p < 6) (hn : p ≠ j) : ∀ n, n ≤ 6 → (Q j).toInt ≤ (cWl Q j p n).toInt ∧ (cWl Q j p n).toInt ≤ 99 * (n + 1) ∧ (p < n → (Q j).toInt + (Q p).toInt ≤ (cWl Q j p n).toInt)
  | 0, _ => by
    have := h.2.2.1 j hj
    exact ⟨Int.le_refl _, by show (Q j).toInt ≤ _; omega, fun q => absurd q (Nat.not_lt_zero _)⟩
  | n + 1, hn2 => by
    have h1 := h.wl hj hp hn n (by omega)
    have h2 := h.2.2.1 n (by omega)
    have h3 := h.2.2.1 j hj
    rw [cWl]
    by_cases e : (!decide (n = j) && !sBf Q p n) = true
    · rw [if_pos e, i_add (by omega)]
      refine ⟨by omega, by omega, fun q => ?_⟩
      by_cases f : p = n
      · subst f; omega
      · have := h1.2.2 (by omega); omega
    · rw [if_neg e]
      refine ⟨by omega, by omega, fun q => ?_⟩
      by_cases f : p = n
      · subst f
        exact absurd (by rw [sBf_self, decide_eq_false hn]; rfl) e
      · exact h1.2.2 (by omega)
theorem mis_f {r : Nat} : sMis P Hm r = false ↔ P r = Hm r := by
  unfold sMis; rw [decide_eq_false_iff_not, Classical.not_not]
theorem mis_t {r : Nat} : sMis P Hm r = true ↔ P r ≠ Hm r := by
  unfold sMis; rw [decide_eq_true_eq]
theorem wk_here {r : Nat} (e : sMis P Hm r = false) : cWalk Q P Hm r = Q (ix (Hm r)) := by
  rw [cWalk, e]; exact if_neg Bool.false_ne_true
theorem IV.wk_lost (h : IV B cn R Q F Wd P Hm N O) {r : Nat} (hr : r < cn) (e : sMis P Hm r = true) : Q (ix (Hm r)) < cWalk Q P Hm r ∧ Q (ix (Hm r)) + Q (ix (P r)) ≤ cWalk Q P Hm r := by
  have o := h.1.2 r hr
  have hn : ix (P r) ≠ ix (Hm r) := fun q => (mis_t.mp e) (by rw [o.1.1, o.2.1, q])
  have h1 := h.wl o.2.2 o.1.2 hn 6 (Nat.le_refl _)
  have h2 := h1.2.2 o.1.2
  have h3 := h.pQ hr
  rw [cWalk, if_pos e, i_lt, i_le, i_add (by omega)]
  omega
theorem IV.wk_pos (h : IV B cn R Q F Wd P Hm N O) {r : Nat} (hr : r < cn) : 0 ≤ (cWalk Q P Hm r).toInt := by
  have h3 := h.pQ hr
  cases e : sMis P Hm r with
  | false => rw [wk_here e]; omega
  | true => have h1 := (h.wk_lost hr e).1; rw [i_lt] at h1; omega
/-! reasons -/
theorem rs1 {r k : Nat} : (cRsn N O Q P Hm R F Wd r k = 1) ↔ sMis P Hm r = true := by
  constructor
  · intro h
    cases e : sMis P Hm r with
    | true => rfl
    | false =>
      rw [cRsn, if_neg (by rw [e]; exact Bool.false_ne_true)] at h
      by_cases a : P r = nI k
      · rw [if_pos a] at h; exact absurd h (by decide)
      · rw [if_neg a] at h
        by_cases b : R k - F k < Wd r
        · rw [if_pos b] at h; exact absurd h (by decide)
        · rw [if_neg b] at h
          by_cases c : cMg N O Q P r k < nI 1
          · rw [if_pos c] at h; exact absurd h (by decide)
          · rw [if_neg c] at h; exact absurd h (by decide)
  · intro e
    rw [cRsn, if_pos e]
theorem rs_ne {r k : Nat} (h : cRsn N O Q P Hm R F Wd r k ≠ 1) : sMis P Hm r = false := by
  cases e : sMis P Hm r with
  | false => rfl
  | true => exact absurd (rs1.mpr e) h
theorem rs2 {r k : Nat} (h : cRsn N O Q P Hm R F Wd r k = 2) : P r = nI k := by
  have e := rs_ne (N := N) (O := O) (Q := Q) (R := R) (F := F) (Wd := Wd) (P := P) (Hm := Hm) (r := r) (k := k) (by rw [h]; decide)
  rw [cRsn, if_neg (by rw [e]; exact Bool.false_ne_true)] at h
  by_cases a : P r = nI k
  · exact a
  · rw [if_neg a] at h
    by_cases b : R k - F k < Wd r
    · rw [if_pos b] at h; exact absurd h (by decide)
    · rw [if_neg b] at h
      by_cases c : cMg N O Q P r k < nI 1
      · rw [if_pos c] at h; exact absurd h (by decide)
      · rw [if_neg c] at h; exact absurd h (by decide)
theorem rs3 {r k : Nat} (h : cRsn N O Q P Hm R F Wd r k = 3) : R k - F k < Wd r := by
  have e := rs_ne (N := N) (O := O) (Q := Q) (R := R) (F := F) (Wd := Wd) (P := P) (Hm := Hm) (r := r) (k := k) (by rw [h]; decide)
  rw [cRsn, if_neg (by rw [e]; exact Bool.false_ne_true)] at h
  by_cases a : P r = nI k
  · rw [if_pos a] at h; exact absurd h (by decide)
  · rw [if_neg a] at h
    by_cases b : R k - F k < Wd r
    · exact b
    · rw [if_neg b] at h
      by_cases c : cMg N O Q P r k < nI 1
      · rw [if_pos c] at h; exact absurd h (by decide)
      · rw [if_neg c] at h; exact absurd h (by decide)
theorem rs0 {r k : Nat} (h : cRsn N O Q P Hm R F Wd r k = 0) : sMis P Hm r = false ∧ P r ≠ nI k ∧ ¬ R k - F k < Wd r ∧ ¬ cMg N O Q P r k < nI 1 := by
  have e := rs_ne (N := N) (O := O) (Q := Q) (R := R) (F := F) (Wd := Wd) (P := P) (Hm := Hm) (r := r) (k := k) (by rw [h]; decide)
  rw [cRsn, if_neg (by rw [e]; exact Bool.false_ne_true)] at h
  by_cases a : P r = nI k
  · rw [if_pos a] at h; exact absurd h (by decide)
  · rw [if_neg a] at h
    by_cases b : R k - F k < Wd r
    · rw [if_pos b] at h; exact absurd h (by decide)
    · rw [if_neg b] at h
      by_cases c : cMg N O Q P r k < nI 1
      · rw [if_pos c] at h; exact absurd h (by decide)
      · exact ⟨e, a, b, c⟩
theorem IV.rs0q (h : IV B cn R Q F Wd P Hm N O) {r k : Nat} (hr : r < cn) (hk : k < 6) (e : cRsn N O Q P Hm R F Wd r k = 0) : Q k < Q (ix (Hm r)) := by
  obtain ⟨e1, -, -, e4⟩ := rs0 e
  have e5 := mis_f.mp e1
  have hp := (h.pQ hr).1
  have hq := (h.2.2.1 k hk).1
  have hw := h.hf hr
  have hB := h.2.2.2
  rw [← e5, i_lt]
  rw [i_lt, i_lit1] at e4
  have hd : (Q (ix (P r)) - Q k).toInt = (Q (ix (P r))).toInt - (Q k).toInt := i_sub (by omega)
  refine Int.not_le.mp (fun hle => e4 ?_)
  have h1 : 0 ≤ (sHf N O r).toInt * ((Q k).toInt - (Q (ix (P r))).toInt) := Int.mul_nonneg hw.1 (by omega)
  have h2 : (sHf N O r).toInt * ((Q k).toInt - (Q (ix (P r))).toInt) ≤ (3 * B) * 99 := Int.mul_le_mul hw.2 (by omega) (by omega) (by omega)
  have h3 : (sHf N O r).toInt * ((Q (ix (P r))).toInt - (Q k).toInt) = -((sHf N O r).toInt * ((Q k).toInt - (Q (ix (P r))).toInt)) := by grind
  rw [cMg, i_mul (by rw [hd, h3]; omega), hd, h3]
  omega
end PU1
