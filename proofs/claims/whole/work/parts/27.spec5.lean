theorem sIn_nI {x : Int32} {a b : Nat} (hb : b < 2147483648) (ha : a < 2147483648) (h : sIn x (nI a) (nI b) = true) : ∃ j : Nat, a ≤ j ∧ j ≤ b ∧ x = nI j := by
  simp only [sIn, Bool.and_eq_true, decide_eq_true_eq] at h
  obtain ⟨j, hj, e⟩ := nI_of (x := x) (fun q => absurd (Int32.le_trans (nI_pos' ha) h.1) (by rw [Int32.not_le]; exact q))
  subst e
  exact ⟨j, (nI_leI ha hj).mp h.1, (nI_leI hj hb).mp h.2, rfl⟩
theorem nLp_val {B : Nat → Int32} {n least most : Nat} {w : Bool} (hl : least ≤ 1) (hm : most ≤ 30) : ∀ (f : Nat) (v : Int32) (t : Nat), (∃ j, least ≤ j ∧ j ≤ most ∧ v = nI j) → ∃ j, least ≤ j ∧ j ≤ most ∧ (nLp B n most w f v t).1 = nI j
  | 0, v, t, h => h
  | f + 1, v, t, h => by
    unfold nLp
    split
    · rename_i hc
      obtain ⟨j, h1, h2, e⟩ := h
      simp only [nCn, Bool.and_eq_true, decide_eq_true_eq] at hc
      obtain ⟨-, h3, h4, h5⟩ := hc
      obtain ⟨a, ha, hb, ea⟩ := sIn_nI (a := 48) (b := 57) (by decide) (by decide) h4
      have e2 : 10 * v + sSg B n t - 48 = nI (10 * j + a - 48) := by
        rw [e, ea, show (10 : Int32) = nI 10 from rfl, pk_mul, nI_add, show (48 : Int32) = nI 48 from rfl, pk_sub (by omega)]
      have hj : 0 < j := by
        rcases Nat.eq_zero_or_pos j with q | q
        · rw [e, q] at h3; exact absurd h3 (by decide)
        · exact q
      refine nLp_val hl hm f _ _ ⟨10 * j + a - 48, by omega, ?_, e2⟩
      rw [e2] at h5
      exact (nI_leI (by omega) (by omega)).mp h5
    · exact h
theorem nNum_val {B : Nat → Int32} {n least most : Nat} {q : PS} (hl : least ≤ 1) (hm : most ≤ 30) (hlm : least ≤ most) (h : (nNum B n least most q).2.1 = true) : ∃ j, least ≤ j ∧ j ≤ most ∧ (nNum B n least most q).1 = nI j := by
  have hin : nIn B n least most q = true := h
  have h2 := (Bool.and_eq_true_iff.mp hin).2
  obtain ⟨a, ha, hb, ea⟩ := sIn_nI (by split <;> omega) (by omega) h2
  refine nLp_val hl hm _ _ _ ⟨a - 48, by omega, ?_, ?_⟩
  · split at hb <;> omega
  · rw [ea, show (48 : Int32) = nI 48 from rfl, pk_sub (by omega)]
/-- the order i of the row of orders is one that can be done -/
def OrdOk (R : Nat → Int32) (i : Nat) : Prop := R (3 * i) = nI (ix (R (3 * i))) ∧ 1 ≤ ix (R (3 * i)) ∧ ix (R (3 * i)) ≤ 5 ∧ (ix (R (3 * i)) = 5 → R (3 * i + 1) = nI (ix (R (3 * i + 1))) ∧ ix (R (3 * i + 1)) ≤ 20)
theorem rOrd_le {B : Nat → Int32} {n : Nat} {R : Nat → Int32} {t m : Nat} (h : t ≤ n) : (rOrd B n R t m).2.1.2 ≤ n := by
  have hW := wWd_le (B := B) h
  unfold rOrd
  repeat' split
  · exact (nNum_le (by omega) (wW_le (by decide) (nNum_le (by omega) hW).2.1)).2.1
  · exact (nNum_le (by omega) hW).2.1
  · exact (nNum_le (by omega) hW).2.1
  · exact (nNum_le (by omega) (wW_le (by decide) (nNum_le (by omega) hW).2.1)).2.1
  · exact hW
theorem rOrd_m {B : Nat → Int32} {n : Nat} {R : Nat → Int32} {t m : Nat} : (rOrd B n R t m).2.2 = m + b1 (rOrd B n R t m).2.1.1 := by
  unfold rOrd
  repeat' split
  all_goals rfl
theorem rOrd_old {B : Nat → Int32} {n : Nat} {R : Nat → Int32} {t m j : Nat} (h : j < 3 * m) : (rOrd B n R t m).1 j = R j := by
  unfold rOrd
  repeat' split
  all_goals simp (disch := omega) only [pk_un]
theorem rOrd_ok {B : Nat → Int32} {n : Nat} {R : Nat → Int32} {t m : Nat} (ht : t ≤ n) (h : (rOrd B n R t m).2.1.1 = true) : t + 5 ≤ (rOrd B n R t m).2.1.2 ∧ OrdOk (rOrd B n R t m).1 m := by
  have hW := wWd_le (B := B) ht
  have h5 := wWd_5 B n t
  by_cases e1 : (wWd B n t).1 = 1
  · rw [rOrd, if_pos e1] at h ⊢
    have g1 := (nNum_le (B := B) (n := n) (least := 0) (most := 5) (by omega) (wW_le (q := (nNum B n 1 30 (wWd B n t).2).2) (x := 64) (by decide) (nNum_le (by omega) hW).2.1)).2.2 h
    have g2 := (wW_ge (B := B)).2 g1.1
    have g3 := (nNum_le (B := B) (n := n) (least := 1) (most := 30) (by omega) hW).2.2 g2.1
    have g4 := wWd_ge g3.1
    refine ⟨by show _ ≤ (nNum _ _ _ _ _).2.2; omega, ?_⟩
    unfold OrdOk
    simp (disch := omega) only [pk_un, pk_us]
    rw [e1]
    exact ⟨rfl, by decide, by decide, fun q => absurd q (by decide)⟩
  · by_cases e2 : (wWd B n t).1 = 5
    · rw [rOrd, if_neg e1, if_pos e2] at h ⊢
      have g3 := (nNum_le (B := B) (n := n) (least := 1) (most := 20) (by omega) hW).2.2 h
      have g4 := wWd_ge g3.1
      obtain ⟨j, j1, j2, ej⟩ := nNum_val (by omega) (by omega) (by omega) h
      refine ⟨by show _ ≤ (nNum _ _ _ _ _).2.2; omega, ?_⟩
      unfold OrdOk
      simp (disch := omega) only [pk_un, pk_us]
      rw [e2, ej, ix_nI (n := j) (by omega)]
      exact ⟨rfl, by decide, by decide, fun _ => ⟨rfl, by omega⟩⟩
    · by_cases e3 : (wWd B n t).1 = 2
      · rw [rOrd, if_neg e1, if_neg e2, if_pos e3] at h ⊢
        have g3 := (nNum_le (B := B) (n := n) (least := 0) (most := 15) (by omega) hW).2.2 h
        have g4 := wWd_ge g3.1
        refine ⟨by show _ ≤ (nNum _ _ _ _ _).2.2; omega, ?_⟩
        unfold OrdOk
        simp (disch := omega) only [pk_un, pk_us]
        rw [e3]
        exact ⟨rfl, by decide, by decide, fun q => absurd q (by decide)⟩
      · by_cases e4 : (wWd B n t).1 = 3
        · rw [rOrd, if_neg e1, if_neg e2, if_neg e3, if_pos e4] at h ⊢
          have g1 := (nNum_le (B := B) (n := n) (least := 0) (most := 5) (by omega) (wW_le (q := (nNum B n 0 15 (wWd B n t).2).2) (x := 64) (by decide) (nNum_le (by omega) hW).2.1)).2.2 h
          have g2 := (wW_ge (B := B)).2 g1.1
          have g3 := (nNum_le (B := B) (n := n) (least := 0) (most := 15) (by omega) hW).2.2 g2.1
          have g4 := wWd_ge g3.1
          refine ⟨by show _ ≤ (nNum _ _ _ _ _).2.2; omega, ?_⟩
          unfold OrdOk
          simp (disch := omega) only [pk_un, pk_us]
          rw [e4]
          exact ⟨rfl, by decide, by decide, fun q => absurd q (by decide)⟩
        · rw [rOrd, if_neg e1, if_neg e2, if_neg e3, if_neg e4] at h ⊢
          have g4 := wWd_ge h
          have e5 : (wWd B n t).1 = 4 := by omega
          refine ⟨by show _ ≤ (wWd B n t).2.2; omega, ?_⟩
          unfold OrdOk
          simp (disch := omega) only [pk_us]
          rw [e5]
          exact ⟨rfl, by decide, by decide, fun q => absurd q (by decide)⟩
theorem wW_mono {B : Nat → Int32} {n : Nat} {x : Int32} {q : PS} : q.2 ≤ (wW B n x q).2 := (wW_ge (B := B)).1
theorem wR_mono {B : Nat → Int32} {n : Nat} {a b c d : Int32} {q : PS} : q.2 ≤ (wR B n a b c d q).2 := by
  unfold wR
  repeat' split
  · exact Nat.le_trans wW_mono wW_mono
  · exact Nat.le_trans (Nat.le_trans wW_mono wW_mono) wW_mono
  · exact Nat.le_trans (Nat.le_trans wW_mono wW_mono) wW_mono
  · exact Nat.le_trans (Nat.le_trans (Nat.le_trans wW_mono wW_mono) wW_mono) wW_mono
theorem wWd_mono (B : Nat → Int32) (n t : Nat) : t ≤ (wWd B n t).2.2 := by
  unfold wWd
  repeat' split
  all_goals first | exact Nat.le_trans (Nat.le_succ t) (wR_mono (B := B) (q := (true, t + 1))) | exact Nat.le_refl t
theorem rOrd_t {B : Nat → Int32} {n : Nat} {R : Nat → Int32} {t m : Nat} (h : t ≤ n) : t ≤ (rOrd B n R t m).2.1.2 := by
  have hW := wWd_le (B := B) h
  have h0 := wWd_mono B n t
  unfold rOrd
  repeat' split
  · exact Nat.le_trans (Nat.le_trans h0 (nNum_le (by omega) hW).1) (Nat.le_trans wW_mono (nNum_le (by omega) (wW_le (by decide) (nNum_le (by omega) hW).2.1)).1)
  · exact Nat.le_trans h0 (nNum_le (by omega) hW).1
  · exact Nat.le_trans h0 (nNum_le (by omega) hW).1
  · exact Nat.le_trans (Nat.le_trans h0 (nNum_le (by omega) hW).1) (Nat.le_trans wW_mono (nNum_le (by omega) (wW_le (by decide) (nNum_le (by omega) hW).2.1)).1)
  · exact h0
def rSt (B : Nat → Int32) (n : Nat) (s : RS) : RS := if (wW B n 59 s.2.1).1 = true then rOrd B n s.1 (wW B n 59 s.2.1).2 s.2.2 else (s.1, wW B n 59 s.2.1, s.2.2)
def rLp (B : Nat → Int32) (n : Nat) : Nat → RS → RS
  | 0, s => s
  | f + 1, s => if s.2.1.1 = true ∧ s.2.1.2 < n then rLp B n f (rSt B n s) else s
def RInv (n : Nat) (s : RS) : Prop := s.2.1.2 ≤ n ∧ (s.2.1.1 = true → 6 * s.2.2 ≤ s.2.1.2 + 1) ∧ ∀ i, i < s.2.2 → OrdOk s.1 i
theorem rOrd_inv {B : Nat → Int32} {n : Nat} {R : Nat → Int32} {t m : Nat} (ht : t ≤ n) (hm : 6 * m ≤ t) (hO : ∀ i, i < m → OrdOk R i) : RInv n (rOrd B n R t m) := by
  have old : ∀ i, i < m → OrdOk (rOrd B n R t m).1 i := fun i hi => by
    unfold OrdOk
    rw [rOrd_old (by omega), rOrd_old (by omega)]
    exact hO i hi
  refine ⟨rOrd_le ht, fun h => ?_, fun i hi => ?_⟩
  · rw [rOrd_m, h]
    have := (rOrd_ok (R := R) (m := m) ht h).1
    show 6 * (m + 1) ≤ _
    omega
  · rw [rOrd_m] at hi
    by_cases h : (rOrd B n R t m).2.1.1 = true
    · rw [h] at hi
      have hi : i < m + 1 := hi
      rcases Nat.lt_or_ge i m with q | q
      · exact old i q
      · rw [show i = m by omega]; exact (rOrd_ok ht h).2
    · rw [show (rOrd B n R t m).2.1.1 = false from by simpa using h] at hi
      exact old i hi
theorem rSt_inv {B : Nat → Int32} {n : Nat} {s : RS} (h : RInv n s) (hw : s.2.1.1 = true) : RInv n (rSt B n s) := by
  have hle := wW_le (B := B) (x := 59) (q := s.2.1) (by decide) h.1
  unfold rSt
  split
  · rename_i h1
    have h2 := (wW_ge (B := B)).2 h1
    have := h.2.1 hw
    exact rOrd_inv hle (by omega) h.2.2
  · rename_i h1
    exact ⟨hle, fun q => absurd q h1, h.2.2⟩
theorem rSt_mu {B : Nat → Int32} {n : Nat} {s : RS} (h : RInv n s) (hw : s.2.1.1 = true) (ht : s.2.1.2 < n) : 2 * (n - (rSt B n s).2.1.2) + b1 (rSt B n s).2.1.1 < 2 * (n - s.2.1.2) + 1 := by
  have hle := wW_le (B := B) (x := 59) (q := s.2.1) (by decide) h.1
  have hb : ∀ b, b1 b ≤ 1 := fun b => by cases b <;> decide
  unfold rSt
  split
  · rename_i h1
    have h2 := (wW_ge (B := B)).2 h1
    have h4 := rOrd_le (B := B) (R := s.1) (m := s.2.2) hle
    by_cases h3 : (rOrd B n s.1 (wW B n 59 s.2.1).2 s.2.2).2.1.1 = true
    · have := (rOrd_ok hle h3).1
      have := hb (rOrd B n s.1 (wW B n 59 s.2.1).2 s.2.2).2.1.1
      omega
    · rw [show (rOrd B n s.1 (wW B n 59 s.2.1).2 s.2.2).2.1.1 = false from by simpa using h3]
      have h5 := rOrd_t (B := B) (R := s.1) (m := s.2.2) hle
      show 2 * _ + 0 < _
      omega
  · rename_i h1
    show 2 * (n - (wW B n 59 s.2.1).2) + b1 (wW B n 59 s.2.1).1 < _
    have h2 := (wW_ge (B := B) (n := n) (x := 59) (q := s.2.1)).1
    rw [show (wW B n 59 s.2.1).1 = false from by simpa using h1]
    show 2 * _ + 0 < _
    omega
theorem rLp_next {B : Nat → Int32} {n f : Nat} {s : RS} (h : RInv n s) (hw : s.2.1.1 = true) (ht : s.2.1.2 < n) (hf : 2 * (n - s.2.1.2) + b1 s.2.1.1 ≤ f) : rLp B n f s = rLp B n (f - 1) (rSt B n s) ∧ 2 * (n - (rSt B n s).2.1.2) + b1 (rSt B n s).2.1.1 ≤ f - 1 ∧ RInv n (rSt B n s) ∧ f - 1 < f := by
  have hm := rSt_mu (B := B) h hw ht
  rw [hw] at hf
  have hf : 2 * (n - s.2.1.2) + 1 ≤ f := hf
  refine ⟨?_, by omega, rSt_inv h hw, by omega⟩
  rw [show f = f - 1 + 1 by omega, rLp, if_pos ⟨hw, ht⟩]
  rfl
theorem rLp_stop {B : Nat → Int32} {n f : Nat} {s : RS} (h : s.2.1.1 = false ∨ n ≤ s.2.1.2) : rLp B n f s = s := by
  cases f with
  | zero => rfl
  | succ f =>
    rw [rLp, if_neg]
    rintro ⟨h1, h2⟩
    rcases h with h | h
    · rw [h] at h1; exact absurd h1 (by decide)
    · omega
def rRd (B : Nat → Int32) (n : Nat) (R : Nat → Int32) : RS := rLp B n (2 * n + 1) (rOrd B n R 0 0)
theorem rOrd0_inv (B : Nat → Int32) (n : Nat) (R : Nat → Int32) : RInv n (rOrd B n R 0 0) := rOrd_inv (Nat.zero_le _) (Nat.zero_le _) (fun i h => absurd h (Nat.not_lt_zero i))
theorem rLp_inv {B : Nat → Int32} {n : Nat} : ∀ (f : Nat) (s : RS), RInv n s → RInv n (rLp B n f s)
  | 0, _, h => h
  | f + 1, s, h => by
    unfold rLp
    split
    · rename_i hc; exact rLp_inv f _ (rSt_inv h hc.1)
    · exact h
theorem rRd_inv (B : Nat → Int32) (n : Nat) (R : Nat → Int32) : RInv n (rRd B n R) := rLp_inv _ _ (rOrd0_inv B n R)
theorem b1_le (b : Bool) : b1 b ≤ 1 := by cases b <;> decide
def dCan (S : Nat → Int32) (cn : Nat) (R : Nat → Int32) (k kd : Nat) : Bool := if kd = 1 then decide (cdAdd S cn (R (k + 1)) (R (k + 2)) = 0) else if kd = 2 then sIn (R (k + 1)) 0 (S 0 - 1) else if kd = 3 then decide (cdMp S cn (R (k + 1)) (R (k + 2)) = 0) else true
def dS (S : Nat → Int32) (cn : Nat) (q : BS) (R : Nat → Int32) (k kd : Nat) : Nat → Int32 := if kd = 1 then (if cdAdd S cn (R (k + 1)) (R (k + 2)) = 0 then fAdds S cn (R (k + 1)) (R (k + 2)) else S) else if kd = 2 then (if sIn (R (k + 1)) 0 (S 0 - 1) = true then fCalls S (ix (R (k + 1))) else S) else if kd = 3 then (if cdMp S cn (R (k + 1)) (R (k + 2)) = 0 then upd S (15 + 5 * (ix (R (k + 1))) + 1) (R (k + 2)) else S) else if kd = 4 then fMon S cn else fWkS S cn (ix (R (k + 1))) q
def dQ (S : Nat → Int32) (cn : Nat) (q : BS) (R : Nat → Int32) (k kd : Nat) : BS := if kd = 5 then (fWk S cn (ix (R (k + 1))) q).2.2 else q
def dC (S : Nat → Int32) (cn : Nat) (R : Nat → Int32) (k kd : Nat) : Nat := if kd = 1 then (if cdAdd S cn (R (k + 1)) (R (k + 2)) = 0 then cn + 1 else cn) else cn
theorem RO_adds {S : Nat → Int32} {cn : Nat} {w sh : Int32} (h : RO S cn) (hc : cn < 16) (hs : Ok6 sh) : RO (fAdds S cn w sh) (cn + 1) := by
  refine ⟨pk_us, by omega, fun r hr => ?_⟩
  unfold fAdds
  rw [gW_lo (k := 1) (by omega), gW_lo (k := 2) (by omega)]
  by_cases e : r = cn
  · subst e
    rw [gW_ne (k := 1) (by omega), gW_eq (k := 1) rfl, gW_eq (k := 2) rfl]
    exact ⟨hs, hs⟩
  · have := h.2.2 r (by omega)
    rw [gW_ne (k := 1) (by omega), gW_ne (k := 1) (by omega), gW_ne (k := 1) (by omega), gW_ne (k := 2) (by omega), gW_ne (k := 2) (by omega), gW_ne (k := 2) (by omega)]
    exact this
theorem RO_calls {S : Nat → Int32} {cn r : Nat} (h : RO S cn) (hr : r < cn) : RO (fCalls S r) cn := by
  unfold fCalls
  refine RO_lo (by omega) (by omega) ⟨by rw [pk_un (by omega), pk_un (by omega)]; exact h.1, h.2.1, fun a ha => ?_⟩
  have h1 := h.2.2 a ha
  by_cases e : a = r
  · subst e
    rw [gW_ne (k := 1) (by omega), gW_ne (k := 1) (by omega), gW_eq (k := 2) rfl]
    exact ⟨h1.1, h1.1⟩
  · rw [gW_ne (k := 1) (by omega), gW_ne (k := 1) (by omega), gW_ne (k := 2) (by omega), gW_ne (k := 2) (by omega)]
    exact h1
theorem RO_mis {S : Nat → Int32} {cn r : Nat} {v : Int32} (h : RO S cn) (hv : Ok6 v) : RO (upd S (15 + 5 * r + 1) v) cn := by
  refine ⟨by rw [pk_un (by omega)]; exact h.1, h.2.1, fun a ha => ?_⟩
  have h1 := h.2.2 a ha
  by_cases e : a = r
  · subst e
    rw [gW_eq (k := 1) rfl, gW_ne (k := 2) (by omega)]
    exact ⟨hv, h1.2⟩
  · rw [gW_ne (k := 1) (by omega), gW_ne (k := 2) (by omega)]
    exact h1
theorem fMon_gW {S : Nat → Int32} {k r : Nat} (hk : k < 3) : ∀ i, gW (fMon S i) k r = gW S k r
  | 0 => rfl
  | i + 1 => by rw [fMon, gW_ne (by omega), gW_ne (by omega)]; exact fMon_gW hk i
theorem RO_mon {S : Nat → Int32} {cn : Nat} (h : RO S cn) (i : Nat) : RO (fMon S i) cn := ⟨by rw [fMon_lo S (by omega)]; exact h.1, h.2.1, fun r hr => by rw [fMon_gW (by omega), fMon_gW (by omega)]; exact h.2.2 r hr⟩
theorem Ok6_of {x : Int32} (h : sIn x 0 5 = true) : Ok6 x := by
  obtain ⟨k, hk, rfl⟩ := sh_of h
  exact Ok6_nI hk
theorem ix_rc {S : Nat → Int32} {x : Int32} {cn : Nat} (hR : RO S cn) (h : sIn x 0 (S 0 - 1) = true) : ix x < cn := by
  obtain ⟨r, hr, rfl⟩ := rc_of2 hR h
  have := hR.2.1
  rw [ix_nI (by omega)]; exact hr
theorem dS_ok {S : Nat → Int32} {cn : Nat} {q : BS} {R : Nat → Int32} {k kd : Nat} (h : RO S cn) : RO (dS S cn q R k kd) (dC S cn R k kd) := by
  unfold dS dC
  by_cases e1 : kd = 1
  · rw [if_pos e1, if_pos e1]
    by_cases c : cdAdd S cn (R (k + 1)) (R (k + 2)) = 0
    · rw [if_pos c, if_pos c]
      have c0 := cdAdd_0 c
      exact RO_adds h (by have := h.2.1; have := c0.2.2.1; omega) (Ok6_of c0.1)
    · rw [if_neg c, if_neg c]; exact h
  · rw [if_neg e1, if_neg e1]
    split
    · split
      · rename_i c; exact RO_calls h (ix_rc h c)
      · exact h
    · split
      · split
        · rename_i c; exact RO_mis h (Ok6_of (cdMp_0 c).2)
        · exact h
      · split
        · exact RO_mon h cn
        · exact fWkS_ok h
theorem dS_no {S : Nat → Int32} {cn : Nat} {q : BS} {R : Nat → Int32} {k kd : Nat} (h : dCan S cn R k kd = false) : dS S cn q R k kd = S ∧ dQ S cn q R k kd = q := by
  unfold dCan at h
  unfold dS dQ
  split at h
  · rename_i e
    rw [if_pos e, if_neg (by simpa using h), if_neg (by omega)]; exact ⟨rfl, rfl⟩
  · rename_i e1
    split at h
    · rename_i e
      rw [if_neg e1, if_pos e, if_neg (by rw [h]; decide), if_neg (by omega)]; exact ⟨rfl, rfl⟩
    · rename_i e2
      split at h
      · rename_i e
        rw [if_neg e1, if_neg e2, if_pos e, if_neg (by simpa using h), if_neg (by omega)]; exact ⟨rfl, rfl⟩
      · exact absurd h (by decide)
abbrev GS : Type := (Nat → Int32) × Nat × BS
def dT (R : Nat → Int32) (i : Nat) (s : GS) : GS := (dS s.1 s.2.1 s.2.2 R (3 * i) (ix (R (3 * i))), dC s.1 s.2.1 R (3 * i) (ix (R (3 * i))), dQ s.1 s.2.1 s.2.2 R (3 * i) (ix (R (3 * i))))
def rGo (R : Nat → Int32) : Nat → Nat → GS → Nat × GS
  | 0, i, s => (i, s)
  | f + 1, i, s => if dCan s.1 s.2.1 R (3 * i) (ix (R (3 * i))) = true then rGo R f (i + 1) (dT R i s) else (i, s)
theorem rGo_next {R : Nat → Int32} {m i : Nat} {s : GS} (h : i < m) (hc : dCan s.1 s.2.1 R (3 * i) (ix (R (3 * i))) = true) : rGo R (m - i) i s = rGo R (m - (i + 1)) (i + 1) (dT R i s) := by
  rw [show m - i = m - (i + 1) + 1 by omega, rGo, if_pos hc]
theorem rGo_stop {R : Nat → Int32} {m i : Nat} {s : GS} (h : m ≤ i ∨ dCan s.1 s.2.1 R (3 * i) (ix (R (3 * i))) = false) : rGo R (m - i) i s = (i, s) := by
  cases e : m - i with
  | zero => rfl
  | succ f =>
    rcases h with h | h
    · omega
    · rw [rGo, if_neg (by rw [h]; decide)]
theorem rGo_ok {R : Nat → Int32} : ∀ (f i : Nat) (s : GS), RO s.1 s.2.1 → RO (rGo R f i s).2.1 (rGo R f i s).2.2.1
  | 0, _, _, h => h
  | f + 1, i, s, h => by
    unfold rGo
    split
    · exact rGo_ok f _ _ (dS_ok h)
    · exact h
def dh (h : Int64) (v : Int32) : Int64 := 31 * h + v.toInt64
def dSh (S : Nat → Int32) (cn : Nat) (h : Int64) : Nat → Int64
  | 0 => h
  | k + 1 => dh (dh (dSh S cn h k) (sRm S cn k)) (gQ S k)
def dRc (S : Nat → Int32) (h : Int64) : Nat → Int64
  | 0 => h
  | r + 1 => dh (dh (dh (dh (dh (dRc S h r) (gW S 0 r)) (gW S 1 r)) (gW S 2 r)) (sHf (gW S 3) (gW S 4) r)) (sWalk (gQ S) (gW S 1) (gW S 2) r)
def dHd (S : Nat → Int32) (cn : Nat) (g : Int32) : Int64 := dh (dh (dh (dh (dh (dh 4424 (S 0)) (sMm (gW S 1) (gW S 2) cn)) (S 1)) (sCo (gW S 3) (gW S 4) (gW S 2) (gQ S) cn)) (S 2)) g
