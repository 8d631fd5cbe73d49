section PURE10
/-- a vault's content: how many records, walked, steps, its eight rows (rooms, reaches, filled, widths, places, homes, new calls, old calls) -/
abbrev VS : Type := Nat × Int32 × Int32 × (Nat → Nat → Int32)
def RK (S : Nat → Int32) (K : VS) : Prop := RV S K.1 K.2.1 K.2.2.1 (K.2.2.2 0) (K.2.2.2 1) (K.2.2.2 2) (K.2.2.2 3) (K.2.2.2 4) (K.2.2.2 5) (K.2.2.2 6) (K.2.2.2 7)
def vLn : Nat → Nat
  | 0 => 6
  | 1 => 6
  | 2 => 6
  | _ => 16
def cpV (K L : VS) : VS := (K.1, K.2.1, K.2.2.1, fun i => va_cpy (K.2.2.2 i) (L.2.2.2 i) 0 0 (vLn i))
def setK (K : Nat → VS) (j : Nat) (v : VS) : Nat → VS := fun i => if i = j then v else K i
def rot {α : Type} (A : Nat → α) : Nat → α
  | 0 => A 1
  | 1 => A 2
  | 2 => A 3
  | 3 => A 4
  | 4 => A 5
  | 5 => A 0
  | n + 6 => A (n + 6)
def svK (n : Nat) (K : Nat → VS) : Nat → VS := if n = 6 then setK (rot K) 5 (cpV (K 6) (K 0)) else setK K n (cpV (K 6) (K n))
def svA (n : Nat) (A : Nat → Nat → Nat) : Nat → Nat → Nat := if n = 6 then rot A else A
theorem RK.cp {S : Nat → Int32} {K L : VS} (h : RK S K) : RK S (cpV K L) := RV.cpy h
theorem RK.cg {S T : Nat → Int32} {K : VS} (h : RK S K) (e : ∀ q, q < 96 → T q = S q) : RK T K := RV.cgS h e
def SR (V : Nat → Int32) (K : Nat → VS) (n : Nat) : Prop := ∀ j, j < n → RK (fun i => V (96 * j + i)) (K j)
theorem fCp_at (S V : Nat → Int32) (b : Nat) : ∀ k q, fCp S V b k q = if b ≤ q ∧ q < b + k then S (q - b) else V q
  | 0, q => by rw [if_neg (by omega)]; rfl
  | k + 1, q => by
    rw [fCp]
    by_cases e : q = b + k
    · subst e; rw [pk_us, if_pos (by omega)]; congr 1; omega
    · rw [pk_un e, fCp_at S V b k]
      by_cases f : b ≤ q ∧ q < b + k
      · rw [if_pos f, if_pos (by omega)]
      · rw [if_neg f, if_neg (by omega)]
theorem fSh_at (V : Nat → Int32) : ∀ k q, fSh V k q = if q < k then V (q + 96) else V q
  | 0, q => by rw [if_neg (by omega)]; rfl
  | k + 1, q => by
    rw [fSh]
    by_cases e : q = k
    · subst e; rw [pk_us, if_pos (by omega), fSh_at V q, if_neg (by omega)]
    · rw [pk_un e, fSh_at V k]
      by_cases f : q < k
      · rw [if_pos f, if_pos (by omega)]
      · rw [if_neg f, if_neg (by omega)]
theorem fGet_at (V S : Nat → Int32) (b : Nat) : ∀ k q, fGet V S b k q = if q < k then V (b + q) else S q
  | 0, q => by rw [if_neg (by omega)]; rfl
  | k + 1, q => by
    rw [fGet]
    by_cases e : q = k
    · subst e; rw [pk_us, if_pos (by omega)]
    · rw [pk_un e, fGet_at V S b k]
      by_cases f : q < k
      · rw [if_pos f, if_pos (by omega)]
      · rw [if_neg f, if_neg (by omega)]
theorem svK_6 {K : Nat → VS} {j : Nat} (h : j < 5) : svK 6 K j = K (j + 1) := by
  match j, h with
  | 0, _ => rfl
  | 1, _ => rfl
  | 2, _ => rfl
  | 3, _ => rfl
  | 4, _ => rfl
theorem svK_top {K : Nat → VS} {n : Nat} (hn : n ≤ 6) {j : Nat} (hj : 6 ≤ j) : svK n K j = K j := by
  unfold svK
  split
  · obtain ⟨i, rfl⟩ : ∃ i, j = i + 6 := ⟨j - 6, by omega⟩
    show (if i + 6 = 5 then _ else rot K (i + 6)) = _
    rw [if_neg (by omega)]; rfl
  · show (if j = n then _ else K j) = _
    rw [if_neg (by omega)]
/-- one state more is saved by both -/
theorem SR.save {S V : Nat → Int32} {K : Nat → VS} {n : Nat} (hn : n ≤ 6) (h : SR V K n) (h6 : RK S (K 6)) : SR (svV S V n) (svK n K) (svN n) := by
  intro j hj
  by_cases e : n = 6
  · subst e
    have hj : j < 6 := hj
    by_cases j5 : j = 5
    · subst j5
      refine (show RK S (svK 6 K 5) from h6.cp).cg (fun q hq => ?_)
      show svV S V 6 (96 * 5 + q) = S q
      rw [svV, if_pos rfl, fCp_at, if_pos (by omega)]
      exact congrArg S (by omega)
    · rw [svK_6 (by omega)]
      refine (h (j + 1) (by omega)).cg (fun q hq => ?_)
      show svV S V 6 (96 * j + q) = V (96 * (j + 1) + q)
      rw [svV, if_pos rfl, fCp_at, if_neg (by omega), fSh_at, if_pos (by omega)]
      congr 1; omega
  · rw [svN, if_neg e] at hj
    have hK : svK n K j = if j = n then cpV (K 6) (K n) else K j := by rw [svK, if_neg e]; rfl
    rw [hK]
    by_cases f : j = n
    · subst f
      rw [if_pos rfl]
      refine (h6.cp).cg (fun q hq => ?_)
      show svV S V j (96 * j + q) = S q
      rw [svV, if_neg e, fCp_at, if_pos (by omega)]
      congr 1; omega
    · rw [if_neg f]
      refine (h j (by omega)).cg (fun q hq => ?_)
      show svV S V n (96 * j + q) = V (96 * j + q)
      rw [svV, if_neg e, fCp_at, if_neg (by omega)]
theorem SR.set6 {V : Nat → Int32} {K : Nat → VS} {n m : Nat} {v : VS} {i : Nat} (hn : n ≤ 6) (hi : 6 ≤ i) (hm : m ≤ n) (h : SR V K n) : SR V (setK K i v) m := fun j hj => by
  show RK _ (if j = i then v else K j)
  rw [if_neg (by omega)]
  exact h j (by omega)
theorem SR.undo {S V : Nat → Int32} {K : Nat → VS} {n : Nat} {L : VS} (h1 : 1 ≤ n) (h : SR V K n) : RK (fGet V S (96 * (n - 1)) 96) (cpV (K (n - 1)) L) := by
  refine ((h (n - 1) (by omega)).cp).cg (fun q hq => ?_)
  show fGet V S (96 * (n - 1)) 96 q = V (96 * (n - 1) + q)
  rw [fGet_at, if_pos hq]
theorem svN_le {n : Nat} (h : n ≤ 6) : svN n ≤ 6 := by
  unfold svN
  split <;> omega
end PURE10
section PURE11
variable {S : Nat → Int32} {cn : Nat} {wk sc : Int32} {R Q F Wd P Hm N O : Nat → Int32}
theorem RV.ds (h : RV S cn wk sc R Q F Wd P Hm N O) (g : Int64) : ∀ k, k ≤ 6 → cDs R F Q g k = dSh S cn g k
  | 0, _ => rfl
  | k + 1, hk => by rw [cDs, dSh, h.ds g k (by omega), h.free (k := k) (by omega), h.hQ k (by omega)]
theorem RV.dr (h : RV S cn wk sc R Q F Wd P Hm N O) (g : Int64) : ∀ r, r ≤ cn → cDr N O Q P Hm Wd g r = dRc S g r
  | 0, _ => rfl
  | r + 1, hr => by rw [cDr, dRc, h.dr g r (by omega), h.hW r (by omega), h.hP r (by omega), h.hH r (by omega), h.heft (r := r) (by omega), h.walk (r := r) (by omega)]
/-- the digests of both -/
theorem RV.dig (h : RV S cn wk sc R Q F Wd P Hm N O) (c : CS) (b : BS) :
    cDr N O Q P Hm Wd (cDs R F Q (dh (dh (dh (dh (dh (dh 4424 (nI cn)) (cMm P Hm cn)) wk) (sCo N O Hm Q cn)) sc) (cF N O Q P Hm Wd R F cn c).1) 6) cn = dRc S (dSh S cn (dHd S cn (fF S cn b).1) 6) cn := by
  rw [h.ds _ 6 (Nat.le_refl _), h.dr _ cn (Nat.le_refl _), dHd, h.s0, h.s1, h.s2, h.many cn (Nat.le_refl _), h.cost cn (Nat.le_refl _), (h.f c b).1]
end PURE11
section PURE12
theorem fl_ro {R : Nat → Int32} (h : ∀ k, k < 6 → 10 ≤ R k ∧ R k ≤ 99) : ∀ k, k ≤ 6 → 10 * k ≤ (cFl R k).toInt ∧ (cFl R k).toInt ≤ 99 * k
  | 0, _ => ⟨show (10 : Int) * ((0 : Nat) : Int) ≤ (0 : Int32).toInt by decide, show (0 : Int32).toInt ≤ 99 * ((0 : Nat) : Int) by decide⟩
  | k + 1, hk => by
    have h1 := fl_ro h k (by omega)
    have h2 := h k (by omega)
    rw [i_le, i_le, show (10 : Int32).toInt = 10 from rfl, show (99 : Int32).toInt = 99 from rfl] at h2
    rw [cFl, i_add (by omega) (by omega)]
    omega
theorem RV.flR {S : Nat → Int32} {cn : Nat} {wk sc : Int32} {R Q F Wd P Hm N O : Nat → Int32} (h : RV S cn wk sc R Q F Wd P Hm N O) : ∃ j, 60 ≤ j ∧ j ≤ 594 ∧ cFl R 6 = nI j := by
  have h1 := fl_ro (R := R) (fun k hk => by rw [h.hR k hk]; exact h.bR k hk) 6 (Nat.le_refl _)
  obtain ⟨j, hj, e⟩ := nI_of (x := cFl R 6) (fun q => by rw [i_lt, show (0 : Int32).toInt = 0 from rfl] at q; omega)
  have e2 : (nI j).toInt = j := nI_toInt hj
  rw [e, e2] at h1
  exact ⟨j, by omega, by omega, e⟩
theorem RV.flF {S : Nat → Int32} {cn : Nat} {wk sc : Int32} {R Q F Wd P Hm N O : Nat → Int32} (h : RV S cn wk sc R Q F Wd P Hm N O) : ∀ k, k ≤ 6 → 0 ≤ (cFl F k).toInt ∧ (cFl F k).toInt ≤ 480 * k
  | 0, _ => ⟨show (0 : Int) ≤ (0 : Int32).toInt by decide, show (0 : Int32).toInt ≤ 480 * ((0 : Nat) : Int) by decide⟩
  | k + 1, hk => by
    have h1 := h.flF k (by omega)
    have h2 := h.tk (nI k) cn (Nat.le_refl _)
    have hc := h.hc
    rw [← h.hF k (by omega)] at h2
    rw [cFl, i_add (by omega) (by omega)]
    omega
/-- a number as a double is finite, and zero for zero alone -/
def okD (n : Nat) : Bool := match FP.Core.decode FP.Core.b64 (FP.i2d (nI n)).toNat with
  | .fin _ c _ => (c != 0 || n == 0)
  | _ => false
set_option maxRecDepth 100000 in
theorem okD_all : ∀ n, n < 3000 → okD n = true := by decide +kernel
theorem enc_fin {s : Bool} {c : Nat} {q : Int} (hc : c < 2 ^ 53) (hq : q ≤ 971) : FP.Core.encode FP.Core.b64 (.fin s c q) < 2 ^ 64 ∧ FP.Core.encode FP.Core.b64 (.fin s c q) % 2 ^ 63 < 2047 * 2 ^ 52 := by
  have hs : s.toNat ≤ 1 := by cases s <;> decide
  show (if c < 2 ^ 52 then (s.toNat * 2 ^ 11 + 0) * 2 ^ 52 + c else (s.toNat * 2 ^ 11 + ((q - (-1074)).toNat + 1)) * 2 ^ 52 + (c - 2 ^ 52)) < 2 ^ 64 ∧ (if c < 2 ^ 52 then (s.toNat * 2 ^ 11 + 0) * 2 ^ 52 + c else (s.toNat * 2 ^ 11 + ((q - (-1074)).toNat + 1)) * 2 ^ 52 + (c - 2 ^ 52)) % 2 ^ 63 < 2047 * 2 ^ 52
  split <;> omega
theorem enc_inf {s : Bool} : FP.Core.encode FP.Core.b64 (.inf s) < 2 ^ 64 ∧ FP.Core.encode FP.Core.b64 (.inf s) % 2 ^ 63 ≤ 2047 * 2 ^ 52 := by
  cases s <;> decide +kernel
theorem enc_bound {s : Bool} {c : Nat} {q : Int} (hc : c < 2 ^ 53) : FP.Core.encode FP.Core.b64 (FP.Core.bound FP.Core.b64 s c q) < 2 ^ 64 ∧ FP.Core.encode FP.Core.b64 (FP.Core.bound FP.Core.b64 s c q) % 2 ^ 63 ≤ 2047 * 2 ^ 52 := by
  unfold FP.Core.bound
  split
  · rename_i h
    have h : q ≤ 971 := h
    have := enc_fin (s := s) hc h
    omega
  · exact enc_inf
theorem enc_rr {s : Bool} {a b : Nat} {e : Int} : FP.Core.encode FP.Core.b64 (FP.Core.roundRatio FP.Core.b64 s a b e) < 2 ^ 64 ∧ FP.Core.encode FP.Core.b64 (FP.Core.roundRatio FP.Core.b64 s a b e) % 2 ^ 63 ≤ 2047 * 2 ^ 52 := by
  unfold FP.Core.roundRatio
  split
  · have := enc_fin (s := s) (c := 0) (q := -1074) (by omega) (by omega)
    have h : FP.Core.encode FP.Core.b64 (.fin s 0 FP.Core.b64.qmin) = FP.Core.encode FP.Core.b64 (.fin s 0 (-1074)) := rfl
    rw [h]
    omega
  · unfold FP.Core.roundAt FP.Core.settle
    split
    · rename_i h; exact enc_bound h
    · exact enc_bound (by decide)
theorem n64_of {r : UInt64} (h : r.toNat % 2 ^ 63 ≤ 2047 * 2 ^ 52) : vf_n64 r := by
  unfold vf_n64
  rw [UInt64.le_iff_toNat_le, UInt64.toNat_and]
  have e : (0x7fffffffffffffff : UInt64).toNat = 2 ^ 63 - 1 := rfl
  rw [e, Nat.and_two_pow_sub_one_eq_mod]
  exact h
theorem n64_div {a b : Nat} (ha : a < 3000) (hb : b < 3000) (h0 : 0 < b) : (FP.ddiv (FP.i2d (nI a)) (FP.i2d (nI b))).toNat % 2 ^ 63 ≤ 2047 * 2 ^ 52 := by
  have h1 := okD_all a ha
  have h2 := okD_all b hb
  unfold okD at h1 h2
  have key : FP.Core.div FP.Core.b64 (FP.i2d (nI a)).toNat (FP.i2d (nI b)).toNat < 2 ^ 64 ∧ FP.Core.div FP.Core.b64 (FP.i2d (nI a)).toNat (FP.i2d (nI b)).toNat % 2 ^ 63 ≤ 2047 * 2 ^ 52 := by
    unfold FP.Core.div
    cases ea : FP.Core.decode FP.Core.b64 (FP.i2d (nI a)).toNat with
    | nan => rw [ea] at h1; exact absurd h1 Bool.false_ne_true
    | inf s => rw [ea] at h1; exact absurd h1 Bool.false_ne_true
    | fin s c q =>
      cases eb : FP.Core.decode FP.Core.b64 (FP.i2d (nI b)).toNat with
      | nan => rw [eb] at h2; exact absurd h2 Bool.false_ne_true
      | inf s => rw [eb] at h2; exact absurd h2 Bool.false_ne_true
      | fin t d r =>
        rw [eb] at h2
        have hd : d ≠ 0 := by
          intro z
          subst z
          have : (b == 0) = true := by simpa using h2
          simp at this
          omega
        show FP.Core.encode FP.Core.b64 (if d = 0 then _ else FP.Core.roundRatio FP.Core.b64 (s != t) c d (q - r)) < 2 ^ 64 ∧ FP.Core.encode FP.Core.b64 (if d = 0 then _ else FP.Core.roundRatio FP.Core.b64 (s != t) c d (q - r)) % 2 ^ 63 ≤ 2047 * 2 ^ 52
        rw [if_neg hd]
        exact enc_rr
  show (UInt64.ofNat _).toNat % 2 ^ 63 ≤ _
  rw [UInt64.toNat_ofNat_of_lt' key.1]
  exact key.2
theorem ord_self {d : FP.Core.Datum} (h : d ≠ .nan) : FP.Core.order d d = some .eq := by
  cases d with
  | nan => exact absurd rfl h
  | inf s => cases s <;> rfl
  | fin s c q =>
    show some (compare _ _) = _
    simp
theorem dcmp_self {r : UInt64} (h : r.toNat % 2 ^ 63 ≤ 2047 * 2 ^ 52) : FP.dcmp r r = some .eq := by
  refine ord_self (fun e => ?_)
  unfold FP.Core.decode at e
  split at e
  · rename_i h1
    split at e
    · cases e
    · rename_i h2
      have h1 : r.toNat / 2 ^ 52 % 2 ^ 11 = 2 ^ 11 - 1 := h1
      have h2 : ¬ r.toNat % 2 ^ 52 = 0 := h2
      omega
  · split at e <;> cases e
/-- how full: both answer the same, and no NaN -/
theorem RV.full {S : Nat → Int32} {cn : Nat} {wk sc : Int32} {R Q F Wd P Hm N O : Nat → Int32} (h : RV S cn wk sc R Q F Wd P Hm N O) :
    (FP.ddiv (FP.i2d (cFl F 6)) (FP.i2d (cFl R 6))).toNat % 2 ^ 63 ≤ 2047 * 2 ^ 52 ∧ cFl F 6 = sAl S cn 6 ∧ cFl R 6 = sRo S 6 ∧ nI 1 ≤ cFl R 6 := by
  obtain ⟨b, b1, b2, eb⟩ := h.flR
  have hF := h.flF 6 (Nat.le_refl _)
  obtain ⟨a, ha, ea⟩ := nI_of (x := cFl F 6) (fun q => by rw [i_lt, show (0 : Int32).toInt = 0 from rfl] at q; omega)
  rw [ea, nI_toInt ha] at hF
  refine ⟨?_, h.al 6 (Nat.le_refl _), h.rooms 6 (Nat.le_refl _), ?_⟩
  · rw [ea, eb]; exact n64_div (by omega) (by omega) (by omega)
  · rw [eb]; exact (nI_leI (by omega) (by omega)).mpr (by omega)
end PURE12
