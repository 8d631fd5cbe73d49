theorem VO_h {P Hm : Nat → Int32} {cn r : Nat} {v : Int32} (h : VO P Hm cn) (hv : Ok6 v) : VO P (upd Hm r v) cn := ⟨h.1, fun a ha => ⟨(h.2 a ha).1, by
  by_cases e : a = r
  · rw [e, pk_us]; exact hv
  · rw [pk_un e]; exact (h.2 a ha).2⟩⟩
theorem VO_p {P Hm : Nat → Int32} {cn r : Nat} {v : Int32} (h : VO P Hm cn) (hv : Ok6 v) : VO (upd P r v) Hm cn := ⟨h.1, fun a ha => ⟨by
  by_cases e : a = r
  · rw [e, pk_us]; exact hv
  · rw [pk_un e]; exact (h.2 a ha).1, (h.2 a ha).2⟩⟩
theorem VO_ph {P Hm : Nat → Int32} {cn r : Nat} {v : Int32} (h : VO P Hm cn) (hv : Ok6 v) : VO (upd P r v) (upd Hm r v) cn := VO_p (VO_h h hv) hv
def COK (cn : Nat) (q : CS) : Prop := 0 < q.1 → (∃ r, r < cn ∧ q.2.1 = nI r) ∧ Ok6 q.2.2.1 ∧ (q.2.2.2 = -1 ∨ ∃ e, e < cn ∧ q.2.2.2 = nI e)
theorem cNt_ok {cn : Nat} {its a b p : Int32} {q : CS} (hq : COK cn q) (h1 : ∃ r, r < cn ∧ a = nI r) (h2 : Ok6 b) (h3 : p = -1 ∨ ∃ e, e < cn ∧ p = nI e) : COK cn (cNt its a b p q) := by
  unfold cNt
  split
  · exact fun _ => ⟨h1, h2, h3⟩
  · exact hq
theorem cMv_ok {N O Q P W R F : Nat → Int32} {cn r : Nat} {q : CS} (hr : r < cn) (hq : COK cn q) : ∀ k, k ≤ 6 → COK cn (cMv N O Q P W R F r q k)
  | 0, _ => hq
  | k + 1, h => by
    unfold cMv
    split
    · exact cNt_ok (cMv_ok hr hq k (by omega)) ⟨r, hr, rfl⟩ (Ok6_nI (by omega)) (Or.inl rfl)
    · exact cMv_ok hr hq k (by omega)
theorem cEx_ok {N O Q P Hm W R F : Nat → Int32} {cn r : Nat} {q : CS} (hV : VO P Hm cn) (hr : r < cn) (hq : COK cn q) : ∀ j, j ≤ cn - (r + 1) → COK cn (cEx N O Q P Hm W R F r q j)
  | 0, _ => hq
  | j + 1, h => by
    unfold cEx
    split
    · exact cNt_ok (cEx_ok hV hr hq j (by omega)) ⟨r, hr, rfl⟩ (hV.2 (r + 1 + j) (by omega)).1 (Or.inr ⟨r + 1 + j, by omega, rfl⟩)
    · exact cEx_ok hV hr hq j (by omega)
theorem cF1_ok {N O Q P Hm W R F : Nat → Int32} {cn : Nat} {q : CS} (hq : COK cn q) : ∀ r, r ≤ cn → COK cn (cF1 N O Q P Hm W R F q r)
  | 0, _ => hq
  | r + 1, h => by
    unfold cF1
    split
    · exact cF1_ok hq r (by omega)
    · exact cMv_ok (by omega) (cF1_ok hq r (by omega)) 6 (by omega)
theorem cF2_ok {N O Q P Hm W R F : Nat → Int32} {cn : Nat} {q : CS} (hV : VO P Hm cn) (hq : COK cn q) : ∀ r, r ≤ cn → COK cn (cF2 N O Q P Hm W R F cn q r)
  | 0, _ => hq
  | r + 1, h => by
    unfold cF2
    split
    · exact cF2_ok hV hq r (by omega)
    · exact cEx_ok hV (by omega) (cF2_ok hV hq r (by omega)) _ (Nat.le_refl _)
theorem cF_ok {N O Q P Hm W R F : Nat → Int32} {cn : Nat} {q : CS} (hV : VO P Hm cn) : COK cn (cF N O Q P Hm W R F cn q) := cF2_ok hV (cF1_ok (fun h => absurd h (by show ¬ (0 : Int32) < 0; decide)) cn (Nat.le_refl _)) cn (Nat.le_refl _)
abbrev FPH : Type := (Nat → Int32) × (Nat → Int32) × (Nat → Int32)
def cSt (F P Hm Wd : Nat → Int32) (ra ka : Nat) (bp : Int32) : FPH := if bp = -1 then (fPn F P Wd ra ka, upd P ra (nI ka), upd Hm ra (nI ka)) else (fPn (fPn F P Wd ra ka) (upd P ra (nI ka)) Wd (ix bp) (ix (P ra)), upd (upd P ra (nI ka)) (ix bp) (nI (ix (P ra))), upd (upd Hm ra (nI ka)) (ix bp) (nI (ix (P ra))))
theorem cSt_ok {F P Hm Wd : Nat → Int32} {ra ka cn : Nat} {bp : Int32} (hV : VO P Hm cn) (hr : ra < cn) (hk : ka < 6) : VO (cSt F P Hm Wd ra ka bp).2.1 (cSt F P Hm Wd ra ka bp).2.2 cn := by
  unfold cSt
  split
  · exact VO_ph hV (Ok6_nI hk)
  · exact VO_ph (VO_ph hV (Ok6_nI hk)) (Ok6_nI (hV.2 ra hr).1.2)
abbrev NS : Type := ((Nat → Int32) × (Nat → Int32) × (Nat → Int32) × Int32) × CS
def cQ (N O Q Wd R : Nat → Int32) (cn : Nat) (s : NS) : CS := cF N O Q s.1.2.1 s.1.2.2.1 Wd R s.1.1 cn s.2
def cT (N O Q Wd R : Nat → Int32) (cn : Nat) (s : NS) : NS := (((cSt s.1.1 s.1.2.1 s.1.2.2.1 Wd (ix (cQ N O Q Wd R cn s).2.1) (ix (cQ N O Q Wd R cn s).2.2.1) (cQ N O Q Wd R cn s).2.2.2).1, (cSt s.1.1 s.1.2.1 s.1.2.2.1 Wd (ix (cQ N O Q Wd R cn s).2.1) (ix (cQ N O Q Wd R cn s).2.2.1) (cQ N O Q Wd R cn s).2.2.2).2.1, (cSt s.1.1 s.1.2.1 s.1.2.2.1 Wd (ix (cQ N O Q Wd R cn s).2.1) (ix (cQ N O Q Wd R cn s).2.2.1) (cQ N O Q Wd R cn s).2.2.2).2.2, s.1.2.2.2 + 1), cQ N O Q Wd R cn s)
def cW1 (N O Q Wd R : Nat → Int32) (cn : Nat) : Nat → NS → Nat × NS
  | 0, s => (0, s)
  | m + 1, s => if (cQ N O Q Wd R cn s).1 < nI 1 then (0, (s.1, cQ N O Q Wd R cn s)) else ((cW1 N O Q Wd R cn m (cT N O Q Wd R cn s)).1 + 1, (cW1 N O Q Wd R cn m (cT N O Q Wd R cn s)).2)
theorem cW1_next {N O Q Wd R : Nat → Int32} {cn d most : Nat} {s : NS} {Z : Nat × NS} (h : d < most) (hg : nI 1 ≤ (cQ N O Q Wd R cn s).1) (hE : Z = (d + (cW1 N O Q Wd R cn (most - d) s).1, (cW1 N O Q Wd R cn (most - d) s).2)) :
    Z = (d + 1 + (cW1 N O Q Wd R cn (most - (d + 1)) (cT N O Q Wd R cn s)).1, (cW1 N O Q Wd R cn (most - (d + 1)) (cT N O Q Wd R cn s)).2) := by
  rw [hE, show most - d = (most - (d + 1)) + 1 by omega, cW1, if_neg (Int32.not_lt.mpr hg)]
  refine Prod.ext ?_ rfl
  show d + (_ + 1) = d + 1 + _
  omega
theorem cW1_full {N O Q Wd R : Nat → Int32} {cn most : Nat} {s : NS} {Z : Nat × NS} (hE : Z = (most + (cW1 N O Q Wd R cn (most - most) s).1, (cW1 N O Q Wd R cn (most - most) s).2)) : Z = (most, s) := by
  rw [hE, Nat.sub_self]; rfl
theorem cW1_stop {N O Q Wd R : Nat → Int32} {cn d most : Nat} {s : NS} {Z : Nat × NS} (h : d < most) (hg : (cQ N O Q Wd R cn s).1 < nI 1) (hE : Z = (d + (cW1 N O Q Wd R cn (most - d) s).1, (cW1 N O Q Wd R cn (most - d) s).2)) : Z = (d, (s.1, cQ N O Q Wd R cn s)) := by
  rw [hE, show most - d = (most - (d + 1)) + 1 by omega, cW1, if_pos hg]; rfl
theorem pos_1 {x : Int32} (h : nI 1 ≤ x) : 0 < x := Int32.lt_of_lt_of_le (show (0 : Int32) < nI 1 by decide) h
