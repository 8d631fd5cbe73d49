theorem ix_nI {n : Nat} (h : n < 2147483648) : ix (nI n) = n := nI_clamp h
theorem Ok6_nI {k : Nat} (h : k < 6) : Ok6 (nI k) := ⟨by rw [ix_nI (by omega)], by rw [ix_nI (by omega)]; exact h⟩
theorem rc_of2 {S : Nat → Int32} {x : Int32} {cn : Nat} (hR : RO S cn) (h : sIn x 0 (S 0 - 1) = true) : ∃ r : Nat, r < cn ∧ x = nI r := rc_of hR.2.1 (by rw [hR.1] at h; exact h)
theorem gW_lo {S : Nat → Int32} {a : Nat} {v : Int32} {k r : Nat} (h : a < 15) : gW (upd S a v) k r = gW S k r := gW_ne (by omega)
theorem RO_lo {S : Nat → Int32} {cn a : Nat} {v : Int32} (h0 : a ≠ 0) (h15 : a < 15) (h : RO S cn) : RO (upd S a v) cn := by
  refine ⟨by rw [pk_un (Ne.symm h0)]; exact h.1, h.2.1, fun r hr => ?_⟩
  rw [gW_lo h15, gW_lo h15]
  exact h.2.2 r hr
def fPut (S : Nat → Int32) (r : Nat) (v : Int32) : Nat → Int32 := upd (upd S (15 + 5 * r + 1) v) (15 + 5 * r + 2) v
theorem RO_put {S : Nat → Int32} {cn a : Nat} {v : Int32} (hv : Ok6 v) (h : RO S cn) : RO (fPut S a v) cn := by
  refine ⟨by rw [fPut, pk_un (by omega), pk_un (by omega)]; exact h.1, h.2.1, fun r hr => ?_⟩
  by_cases e : r = a
  · subst e
    rw [fPut, gW_ne (k := 1) (by omega), gW_eq (k := 1) rfl, gW_eq (k := 2) rfl]
    exact ⟨hv, hv⟩
  · rw [fPut, gW_ne (by omega), gW_ne (by omega), gW_ne (by omega), gW_ne (by omega)]
    exact h.2.2 r hr
/-- the best step so far: gain, record, shelf or partner, whether it is an exchange -/
abbrev BS : Type := Int32 × Int32 × Int32 × Bool
def nt (its a b : Int32) (x : Bool) (q : BS) : BS := if q.1 < its then (its, a, b, x) else q
def fF1 (S : Nat → Int32) (cn : Nat) (q : BS) : Nat → BS
  | 0 => q
  | k + 1 => if (decide (k / 6 < cn) && sCm S cn (k / 6) (k % 6)) = true then nt (sGm S (k / 6) (k % 6)) (nI (k / 6)) (nI (k % 6)) false (fF1 S cn q k) else fF1 S cn q k
def sGe (S : Nat → Int32) (r e : Nat) : Int32 := (sHf (gW S 3) (gW S 4) r - sHf (gW S 3) (gW S 4) e) * (S (9 + ix (gW S 1 r)) - S (9 + ix (gW S 1 e)))
def fF2i (S : Nat → Int32) (cn r : Nat) (q : BS) : Nat → BS
  | 0 => q
  | j + 1 => if sCe S cn r (r + 1 + j) = true then nt (sGe S r (r + 1 + j)) (nI r) (nI (r + 1 + j)) true (fF2i S cn r q j) else fF2i S cn r q j
def fF2 (S : Nat → Int32) (cn : Nat) (q : BS) : Nat → BS
  | 0 => q
  | r + 1 => fF2i S cn r (fF2 S cn q r) (cn - (r + 1))
def fF (S : Nat → Int32) (cn : Nat) (q : BS) : BS := fF2 S cn (fF1 S cn (0, q.2) 96) cn
def BOK (cn : Nat) (q : BS) : Prop := 0 < q.1 → (∃ r, r < cn ∧ q.2.1 = nI r) ∧ (if q.2.2.2 = true then ∃ e, e < cn ∧ q.2.2.1 = nI e else ∃ k, k < 6 ∧ q.2.2.1 = nI k)
theorem nt_ok {cn : Nat} {its a b : Int32} {x : Bool} {q : BS} (hq : BOK cn q) (h1 : ∃ r, r < cn ∧ a = nI r) (h2 : if x = true then ∃ e, e < cn ∧ b = nI e else ∃ k, k < 6 ∧ b = nI k) : BOK cn (nt its a b x q) := by
  unfold nt
  split
  · exact fun _ => ⟨h1, h2⟩
  · exact hq
theorem fF1_ok {S : Nat → Int32} {cn : Nat} {q : BS} (hq : BOK cn q) : ∀ k, BOK cn (fF1 S cn q k)
  | 0 => hq
  | k + 1 => by
    unfold fF1
    split
    · rename_i h
      simp only [Bool.and_eq_true, decide_eq_true_eq] at h
      exact nt_ok (fF1_ok hq k) ⟨k / 6, h.1, rfl⟩ (by rw [if_neg (by decide)]; exact ⟨k % 6, by omega, rfl⟩)
    · exact fF1_ok hq k
theorem fF2i_ok {S : Nat → Int32} {cn r : Nat} {q : BS} (hq : BOK cn q) : ∀ j, j ≤ cn - (r + 1) → BOK cn (fF2i S cn r q j)
  | 0, _ => hq
  | j + 1, h => by
    unfold fF2i
    split
    · exact nt_ok (fF2i_ok hq j (by omega)) ⟨r, by omega, rfl⟩ (by rw [if_pos rfl]; exact ⟨r + 1 + j, by omega, rfl⟩)
    · exact fF2i_ok hq j (by omega)
theorem fF2_ok {S : Nat → Int32} {cn : Nat} {q : BS} (hq : BOK cn q) : ∀ r, BOK cn (fF2 S cn q r)
  | 0 => hq
  | r + 1 => fF2i_ok (fF2_ok hq r) _ (Nat.le_refl _)
theorem fF_ok (S : Nat → Int32) (cn : Nat) (q : BS) : BOK cn (fF S cn q) := fF2_ok (fF1_ok (fun h => absurd h (by show ¬ (0 : Int32) < 0; decide)) 96) cn
def fStep (S : Nat → Int32) (q : BS) : Nat → Int32 := if q.2.2.2 = true then fPut (fPut S (ix q.2.1) (gW S 1 (ix q.2.2.1))) (ix q.2.2.1) (gW S 1 (ix q.2.1)) else fPut S (ix q.2.1) q.2.2.1
theorem fStep_ok {S : Nat → Int32} {cn : Nat} {q : BS} (h : RO S cn) (hq : BOK cn q) (hg : 0 < q.1) : RO (fStep S q) cn := by
  obtain ⟨⟨r, hr, e1⟩, h2⟩ := hq hg
  have hc := h.2.1
  unfold fStep
  split
  · rename_i hx
    rw [if_pos hx] at h2
    obtain ⟨e, he, e2⟩ := h2
    rw [e1, e2, ix_nI (by omega), ix_nI (by omega)]
    exact RO_put (h.2.2 r hr).1 (RO_put (h.2.2 e he).1 h)
  · rename_i hx
    rw [if_neg hx] at h2
    obtain ⟨k, hk, e2⟩ := h2
    rw [e2]
    exact RO_put (Ok6_nI hk) h
def fWorks (cn : Nat) : Nat → (Nat → Int32) → BS → Nat × (Nat → Int32) × BS
  | 0, S, q => (0, S, q)
  | m + 1, S, q => if 0 < q.1 then ((fWorks cn m (fStep S q) (fF (fStep S q) cn q)).1 + 1, (fWorks cn m (fStep S q) (fF (fStep S q) cn q)).2) else (0, S, q)
theorem fWorks_ok {cn : Nat} : ∀ (m : Nat) (S : Nat → Int32) (q : BS), RO S cn → BOK cn q → RO (fWorks cn m S q).2.1 cn ∧ (fWorks cn m S q).1 ≤ m
  | 0, S, q, h, _ => ⟨h, Nat.le_refl _⟩
  | m + 1, S, q, h, hq => by
    unfold fWorks
    split
    · rename_i hg
      have := fWorks_ok m (fStep S q) (fF (fStep S q) cn q) (fStep_ok h hq hg) (fF_ok _ _ _)
      exact ⟨this.1, by show _ + 1 ≤ _; omega⟩
    · exact ⟨h, Nat.zero_le _⟩
def fWk (S : Nat → Int32) (cn m : Nat) (q : BS) : Nat × (Nat → Int32) × BS := fWorks cn m S (fF S cn q)
def fWkS (S : Nat → Int32) (cn m : Nat) (q : BS) : Nat → Int32 := upd (fWk S cn m q).2.1 2 ((fWk S cn m q).2.1 2 + nI (fWk S cn m q).1)
theorem fWkS_ok {S : Nat → Int32} {cn m : Nat} {q : BS} (h : RO S cn) : RO (fWkS S cn m q) cn := RO_lo (by omega) (by omega) (fWorks_ok m S _ h (fF_ok _ _ _)).1
theorem st_of {x : Int32} (h : sIn x 1 20 = true) : ∃ k : Nat, (1 ≤ k ∧ k ≤ 20) ∧ x = nI k := by
  simp only [sIn, Bool.and_eq_true, decide_eq_true_eq] at h
  obtain ⟨j, hj, e⟩ := nI_of (x := x) (fun q => absurd (show (0 : Int32) ≤ x from Int32.le_trans (by decide) h.1) (by rw [Int32.not_le]; exact q))
  subst e
  have h1 := (nI_leI (a := 1) (by decide) hj).mp h.1
  have h2 := (nI_leI (b := 20) hj (by decide)).mp h.2
  exact ⟨j, ⟨h1, h2⟩, rfl⟩
def fSet (S : Nat → Int32) (k : Nat) (y z : Int32) : Nat → Int32 := upd (upd S (3 + k) y) (9 + k) z
def cdSet (S : Nat → Int32) (cn : Nat) (x y z : Int32) : Nat := if sIn x 0 5 = true then (if sIn y 10 99 = true ∧ sIn z 1 99 = true then (if y < sTk (gW S 1) (gW S 0) x cn then 3 else 0) else 2) else 1
def cdAdd (S : Nat → Int32) (cn : Nat) (w x : Int32) : Nat := if sIn x 0 5 = true then (if sIn w 1 30 = true then (if cn = 16 ∨ sRm S cn (ix x) < w then 3 else 0) else 2) else 1
theorem cdAdd_le (S : Nat → Int32) (cn : Nat) (w x : Int32) : cdAdd S cn w x ≤ 3 := by
  unfold cdAdd
  repeat' split
  all_goals omega
theorem cdAdd_0 {S : Nat → Int32} {cn : Nat} {w x : Int32} (h : cdAdd S cn w x = 0) : sIn x 0 5 = true ∧ sIn w 1 30 = true ∧ cn ≠ 16 ∧ ¬ sRm S cn (ix x) < w := by
  unfold cdAdd at h
  repeat' split at h
  all_goals first | omega | skip
  rename_i h1 h2 h3
  exact ⟨h1, h2, fun q => h3 (Or.inl q), fun q => h3 (Or.inr q)⟩
def cdMp (S : Nat → Int32) (cn : Nat) (x y : Int32) : Nat := if sIn x 0 (S 0 - 1) = true ∧ sIn y 0 5 = true then (if ¬ gW S 1 (ix x) = y ∧ sRm S cn (ix y) < gW S 0 (ix x) then 2 else 0) else 1
theorem cdMp_le (S : Nat → Int32) (cn : Nat) (x y : Int32) : cdMp S cn x y ≤ 2 := by
  unfold cdMp
  repeat' split
  all_goals omega
theorem cdMp_0 {S : Nat → Int32} {cn : Nat} {x y : Int32} (h : cdMp S cn x y = 0) : sIn x 0 (S 0 - 1) = true ∧ sIn y 0 5 = true := by
  unfold cdMp at h
  repeat' split at h
  all_goals first | omega | assumption
def fDel (S : Nat → Int32) (b : Nat) : Nat → Nat → Int32
  | 0 => S
  | j + 1 => upd (fDel S b j) (15 + (b + j)) (fDel S b j (15 + (b + j) + 5))
theorem fDel_lo (S : Nat → Int32) (b : Nat) {k : Nat} (hk : k < 15) : ∀ j, fDel S b j k = S k
  | 0 => rfl
  | j + 1 => by rw [fDel, pk_un (by omega)]; exact fDel_lo S b hk j
def fClr (S : Nat → Int32) (n : Nat) : Nat → Nat → Int32
  | 0 => S
  | j + 1 => upd (fClr S n j) (15 + 5 * n + j) 0
theorem fClr_lo (S : Nat → Int32) (n : Nat) {k : Nat} (hk : k < 15) : ∀ j, fClr S n j k = S k
  | 0 => rfl
  | j + 1 => by rw [fClr, pk_un (by omega)]; exact fClr_lo S n hk j
def fRem (S : Nat → Int32) (cn r : Nat) : Nat → Int32 := fClr (fDel (upd S 0 (nI (cn - 1))) (5 * r) (5 * (cn - 1) - 5 * r)) (cn - 1) 5
def fGet (V S : Nat → Int32) (b : Nat) : Nat → Nat → Int32
  | 0 => S
  | k + 1 => upd (fGet V S b k) k (V (b + k))
def fCq (S V : Nat → Int32) : Nat → Nat → Int32
  | 0 => V
  | k + 1 => upd (fCq S V k) k (S k)
def cdApp (n : Nat) (x : Int32) : Nat := if sIn x 33 126 = true then (if n = 60 then 2 else 0) else 1
