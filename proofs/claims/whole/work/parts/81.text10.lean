section TEXT10
/-- the order i, as both have read it -/
def OEq (ad : Nat → Nat) (R : Nat → Int32) (z : (Nat → Option Nat) × (Nat → Int32) × (Nat → Int32)) (i : Nat) : Prop := ∃ w, w < 5 ∧ z.1 i = some (ad w) ∧ R (3 * i) = nI (w + 1) ∧ (w ≠ 3 → R (3 * i + 1) = z.2.1 i) ∧ (w = 0 ∨ w = 2 → R (3 * i + 2) = z.2.2 i ∧ Ok6 (z.2.2 i)) ∧ (w = 4 → z.2.1 i = nI (ix (z.2.1 i)) ∧ ix (z.2.1 i) ≤ 20) ∧ (w = 0 → sIn (z.2.1 i) 1 30 = true)
theorem nN_f {B : Nat → Int32} {n l m u : Nat} : (nNum B n l m (false, u)).2 = (false, u) := by rw [nNum_f rfl]
theorem wW_f {B : Nat → Int32} {n u : Nat} {x : Int32} : wW B n x (false, u) = (false, u) := rfl
theorem wW_t {B : Nat → Int32} {n u : Nat} {x : Int32} (h : sSg B n u = x) : wW B n x (true, u) = (true, u + 1) := by
  rw [wW, Bool.true_and, decide_eq_true h]; rfl
theorem wW_n {B : Nat → Int32} {n u : Nat} {x : Int32} (h : ¬ sSg B n u = x) : wW B n x (true, u) = (false, u) := by
  rw [wW, Bool.true_and, decide_eq_false h]; rfl
/-- '@' and a shelf -/
theorem at_eq {B : Nat → Int32} {n o i t : Nat} {Wr : Nat → Option Nat} {Nm Sh : Nat → Int32} (hb : wHb i = true) :
    (nNum B n 0 5 (wW B n 64 (true, t))).2 = (cO3 B n o i t Wr Nm Sh).1 ∧ ((cO3 B n o i t Wr Nm Sh).1.1 = true → (cO3 B n o i t Wr Nm Sh).2 = (Wr, Nm, upd Sh o (nNum B n 0 5 (wW B n 64 (true, t))).1) ∧ Ok6 (nNum B n 0 5 (wW B n 64 (true, t))).1) := by
  unfold cO3
  rw [if_neg (by rw [hb]; decide)]
  by_cases e : cSg B n t = 64
  · rw [if_pos e, wW_t ((sg_c (by decide) (by decide)).mpr e)]
    have hs := sh_eq (B := B) (n := n) (t := t + 1)
    rw [hs.1]
    by_cases f : cSh (cDg B n (t + 1)) = true
    · rw [if_pos f, if_pos f]
      exact ⟨rfl, fun _ => ⟨rfl, hs.2 f⟩⟩
    · rw [if_neg f, if_neg f]
      exact ⟨rfl, fun q => absurd q Bool.false_ne_true⟩
  · rw [if_neg e, wW_n (fun q => e ((sg_c (by decide) (by decide)).mp q)), nN_f]
    exact ⟨rfl, fun q => absurd q Bool.false_ne_true⟩
theorem cO3_old {B : Nat → Int32} {n o i t q : Nat} {Wr : Nat → Option Nat} {Nm Sh : Nat → Int32} (hq : q ≠ o) : (cO3 B n o i t Wr Nm Sh).2.1 = Wr ∧ (cO3 B n o i t Wr Nm Sh).2.2.1 = Nm ∧ (cO3 B n o i t Wr Nm Sh).2.2.2 q = Sh q := by
  unfold cO3
  repeat' split
  · exact ⟨rfl, rfl, rfl⟩
  · exact ⟨rfl, rfl, pk_un hq⟩
  · exact ⟨rfl, rfl, rfl⟩
  · exact ⟨rfl, rfl, rfl⟩
theorem cO2_old {B : Nat → Int32} {n o i t q : Nat} {Wr : Nat → Option Nat} {Nm Sh : Nat → Int32} (hq : q ≠ o) : (cO2 B n o i t Wr Nm Sh).2.1 = Wr ∧ (cO2 B n o i t Wr Nm Sh).2.2.1 q = Nm q ∧ (cO2 B n o i t Wr Nm Sh).2.2.2 q = Sh q := by
  unfold cO2
  repeat' split
  · have h := cO3_old (B := B) (n := n) (i := i) (t := t) (Wr := Wr) (Nm := Nm) (Sh := Sh) hq
    exact ⟨h.1, by rw [h.2.1], h.2.2⟩
  · have h := cO3_old (B := B) (n := n) (i := i) (t := (cNb B n i t).1.2) (Wr := Wr) (Nm := upd Nm o (cNb B n i t).2) (Sh := Sh) hq
    exact ⟨h.1, by rw [h.2.1]; exact pk_un hq, h.2.2⟩
  · exact ⟨rfl, rfl, rfl⟩
theorem up_un {Wr : Nat → Option Nat} {o q : Nat} {x : Option Nat} (h : q ≠ o) : va_up Wr o x q = Wr q := if_neg h
theorem up_us {Wr : Nat → Option Nat} {o : Nat} {x : Option Nat} : va_up Wr o x o = x := if_pos rfl
theorem cOr_old {ad : Nat → Nat} {B : Nat → Int32} {n o t q : Nat} {Wr : Nat → Option Nat} {Nm Sh : Nat → Int32} (hq : q ≠ o) : (cOr ad B n o t Wr Nm Sh).2.1 q = Wr q ∧ (cOr ad B n o t Wr Nm Sh).2.2.1 q = Nm q ∧ (cOr ad B n o t Wr Nm Sh).2.2.2 q = Sh q := by
  unfold cOr
  split
  · exact ⟨rfl, rfl, rfl⟩
  · split
    · rename_i _ i _ _
      have h := cO2_old (B := B) (n := n) (o := o) (q := q) (i := i) (t := (cLt B n i t (wLn.getD i 0)).2) (Wr := va_up Wr o (some (ad i))) (Nm := Nm) (Sh := Sh) hq
      exact ⟨by rw [h.1]; exact up_un hq, h.2.1, h.2.2⟩
    · exact ⟨rfl, rfl, rfl⟩
theorem ix_le {v : Int32} {a b : Nat} (hb : b < 1000) (h : ∃ j, a ≤ j ∧ j ≤ b ∧ v = nI j) : v = nI (ix v) ∧ ix v ≤ b := by
  obtain ⟨j, h1, h2, e⟩ := h
  rw [e, ix_nI (by omega)]
  exact ⟨rfl, h2⟩
theorem in_130 {v : Int32} (h : ∃ j, 1 ≤ j ∧ j ≤ 30 ∧ v = nI j) : sIn v 1 30 = true := by
  obtain ⟨j, h1, h2, e⟩ := h
  rw [e, show (1 : Int32) = nI 1 from rfl, show (30 : Int32) = nI 30 from rfl, sIn_d (by omega) (by omega) (by omega), decide_eq_true h1, decide_eq_true h2]; rfl
/-- an order, as both read it -/
theorem or_eq {ad : Nat → Nat} {B : Nat → Int32} {n o t : Nat} {Wr : Nat → Option Nat} {Nm Sh R : Nat → Int32} :
    (cOr ad B n o t Wr Nm Sh).1 = (rOrd B n R t o).2.1 ∧ ((cOr ad B n o t Wr Nm Sh).1.1 = true → OEq ad (rOrd B n R t o).1 (cOr ad B n o t Wr Nm Sh).2 o) := by
  cases h : cWa (cSg B n t) with
  | none =>
    have e1 : cOr ad B n o t Wr Nm Sh = ((false, t), Wr, Nm, Sh) := by unfold cOr; rw [h]
    have e2 : (rOrd B n R t o).2.1 = (false, t) := by
      unfold rOrd
      rw [wd_none h]; rfl
    rw [e1, e2]
    exact ⟨rfl, fun q => absurd q Bool.false_ne_true⟩
  | some i =>
    have hi := (cWa_lt h).1
    have hw := wd_some h
    have e1 : cOr ad B n o t Wr Nm Sh = if (cLt B n i t (wLn.getD i 0)).1 = true then cO2 B n o i (cLt B n i t (wLn.getD i 0)).2 (va_up Wr o (some (ad i))) Nm Sh else ((false, (cLt B n i t (wLn.getD i 0)).2), Wr, Nm, Sh) := by unfold cOr; rw [h]
    rw [e1]
    generalize hL : cLt B n i t (wLn.getD i 0) = L at hw ⊢
    obtain ⟨b, u⟩ := L
    cases b with
    | false =>
      rw [if_neg Bool.false_ne_true]
      refine ⟨?_, fun q => absurd q Bool.false_ne_true⟩
      unfold rOrd
      rw [hw]
      match i, hi with
      | 0, _ => 
        rw [if_pos (by show (1 : Nat) = 1; rfl)]
        show (false, u) = (nNum B n 0 5 (wW B n 64 (nNum B n 1 30 (false, u)).2)).2
        rw [nN_f, wW_f, nN_f]
      | 1, _ =>
        rw [if_neg (by show ¬ (2 : Nat) = 1; decide), if_neg (by show ¬ (2 : Nat) = 5; decide), if_pos (by show (2 : Nat) = 2; rfl)]
        exact nN_f.symm
      | 2, _ =>
        rw [if_neg (by show ¬ (3 : Nat) = 1; decide), if_neg (by show ¬ (3 : Nat) = 5; decide), if_neg (by show ¬ (3 : Nat) = 2; decide), if_pos (by show (3 : Nat) = 3; rfl)]
        show (false, u) = (nNum B n 0 5 (wW B n 64 (nNum B n 0 15 (false, u)).2)).2
        rw [nN_f, wW_f, nN_f]
      | 3, _ =>
        rw [if_neg (by show ¬ (4 : Nat) = 1; decide), if_neg (by show ¬ (4 : Nat) = 5; decide), if_neg (by show ¬ (4 : Nat) = 2; decide), if_neg (by show ¬ (4 : Nat) = 3; decide)]
      | 4, _ =>
        rw [if_neg (by show ¬ (5 : Nat) = 1; decide), if_pos (by show (5 : Nat) = 5; rfl)]
        exact nN_f.symm
    | true =>
      rw [if_pos rfl]
      unfold rOrd
      rw [hw]
      match i, hi with
      | 0, _ =>
        rw [if_pos (by show (1 : Nat) = 1; rfl)]
        have hn := nb_eq (B := B) (n := n) (i := 0) (t := u) (least := 1) (most := 30) (by omega) (by omega) (by omega) rfl rfl
        show (cO2 B n o 0 u (va_up Wr o (some (ad 0))) Nm Sh).1 = (nNum B n 0 5 (wW B n 64 (nNum B n 1 30 (true, u)).2)).2 ∧ ((cO2 B n o 0 u (va_up Wr o (some (ad 0))) Nm Sh).1.1 = true → OEq ad (upd (upd (upd R (3 * o) (nI 1)) (3 * o + 1) (nNum B n 1 30 (true, u)).1) (3 * o + 2) (nNum B n 0 5 (wW B n 64 (nNum B n 1 30 (true, u)).2)).1) (cO2 B n o 0 u (va_up Wr o (some (ad 0))) Nm Sh).2 o)
        unfold cO2
        rw [if_neg (show ¬ wLe 0 = -1 by decide)]
        by_cases g : (cNb B n 0 u).1.1 = true
        · rw [if_pos g, hn.1, ← hn.2 g]
          have e3 : (cNb B n 0 u).1 = (true, (cNb B n 0 u).1.2) := Prod.ext g rfl
          have hv := nNum_val (B := B) (n := n) (least := 1) (most := 30) (q := (true, u)) (by omega) (by omega) (by omega) (by rw [hn.1]; exact g)
          rw [e3]
          have ha := at_eq (B := B) (n := n) (o := o) (i := 0) (t := (cNb B n 0 u).1.2) (Wr := va_up Wr o (some (ad 0))) (Nm := upd Nm o (nNum B n 1 30 (true, u)).1) (Sh := Sh) rfl
          refine ⟨ha.1.symm, fun q => ?_⟩
          obtain ⟨a1, a2⟩ := ha.2 q
          rw [a1]
          refine ⟨0, by omega, up_us, ?_, fun _ => ?_, fun _ => ⟨?_, ?_⟩, fun q => absurd q (by decide), fun _ => ?_⟩
          · simp (disch := omega) only [pk_un, pk_us]
          · simp (disch := omega) only [pk_un, pk_us]
          · simp only [pk_us]
          · show Ok6 (upd Sh o _ o); rw [pk_us]; exact a2
          · show sIn (upd Nm o _ o) 1 30 = true; rw [pk_us]; exact in_130 hv
        · rw [if_neg g, hn.1]
          rw [Bool.not_eq_true] at g
          have e3 : (cNb B n 0 u).1 = (false, (cNb B n 0 u).1.2) := Prod.ext g rfl
          rw [e3, wW_f, nN_f]
          exact ⟨rfl, fun q => absurd q Bool.false_ne_true⟩
      | 1, _ =>
        rw [if_neg (by show ¬ (2 : Nat) = 1; decide), if_neg (by show ¬ (2 : Nat) = 5; decide), if_pos (by show (2 : Nat) = 2; rfl)]
        have hn := nb_eq (B := B) (n := n) (i := 1) (t := u) (least := 0) (most := 15) (by omega) (by omega) (by omega) rfl rfl
        show (cO2 B n o 1 u (va_up Wr o (some (ad 1))) Nm Sh).1 = (nNum B n 0 15 (true, u)).2 ∧ ((cO2 B n o 1 u (va_up Wr o (some (ad 1))) Nm Sh).1.1 = true → OEq ad (upd (upd R (3 * o) (nI 2)) (3 * o + 1) (nNum B n 0 15 (true, u)).1) (cO2 B n o 1 u (va_up Wr o (some (ad 1))) Nm Sh).2 o)
        unfold cO2
        rw [if_neg (show ¬ wLe 1 = -1 by decide), hn.1]
        by_cases g : (cNb B n 1 u).1.1 = true
        · rw [if_pos g, ← hn.2 g]
          unfold cO3
          rw [if_pos (show wHb 1 = false from rfl)]
          refine ⟨Prod.ext g.symm rfl, fun _ => ⟨1, by omega, up_us, ?_, fun _ => ?_, fun q => absurd q (by decide), fun q => absurd q (by decide), fun q => absurd q (by decide)⟩⟩
          · simp (disch := omega) only [pk_un, pk_us]
          · simp only [pk_us]
        · rw [if_neg g]
          rw [Bool.not_eq_true] at g
          exact ⟨Prod.ext g.symm rfl, fun q => absurd q Bool.false_ne_true⟩
      | 2, _ =>
        rw [if_neg (by show ¬ (3 : Nat) = 1; decide), if_neg (by show ¬ (3 : Nat) = 5; decide), if_neg (by show ¬ (3 : Nat) = 2; decide), if_pos (by show (3 : Nat) = 3; rfl)]
        have hn := nb_eq (B := B) (n := n) (i := 2) (t := u) (least := 0) (most := 15) (by omega) (by omega) (by omega) rfl rfl
        show (cO2 B n o 2 u (va_up Wr o (some (ad 2))) Nm Sh).1 = (nNum B n 0 5 (wW B n 64 (nNum B n 0 15 (true, u)).2)).2 ∧ ((cO2 B n o 2 u (va_up Wr o (some (ad 2))) Nm Sh).1.1 = true → OEq ad (upd (upd (upd R (3 * o) (nI 3)) (3 * o + 1) (nNum B n 0 15 (true, u)).1) (3 * o + 2) (nNum B n 0 5 (wW B n 64 (nNum B n 0 15 (true, u)).2)).1) (cO2 B n o 2 u (va_up Wr o (some (ad 2))) Nm Sh).2 o)
        unfold cO2
        rw [if_neg (show ¬ wLe 2 = -1 by decide)]
        by_cases g : (cNb B n 2 u).1.1 = true
        · rw [if_pos g, hn.1, ← hn.2 g]
          have e3 : (cNb B n 2 u).1 = (true, (cNb B n 2 u).1.2) := Prod.ext g rfl
          rw [e3]
          have ha := at_eq (B := B) (n := n) (o := o) (i := 2) (t := (cNb B n 2 u).1.2) (Wr := va_up Wr o (some (ad 2))) (Nm := upd Nm o (nNum B n 0 15 (true, u)).1) (Sh := Sh) rfl
          refine ⟨ha.1.symm, fun q => ?_⟩
          obtain ⟨a1, a2⟩ := ha.2 q
          rw [a1]
          refine ⟨2, by omega, up_us, ?_, fun _ => ?_, fun _ => ⟨?_, ?_⟩, fun q => absurd q (by decide), fun q => absurd q (by decide)⟩
          · simp (disch := omega) only [pk_un, pk_us]
          · simp (disch := omega) only [pk_un, pk_us]
          · simp only [pk_us]
          · show Ok6 (upd Sh o _ o); rw [pk_us]; exact a2
        · rw [if_neg g, hn.1]
          rw [Bool.not_eq_true] at g
          have e3 : (cNb B n 2 u).1 = (false, (cNb B n 2 u).1.2) := Prod.ext g rfl
          rw [e3, wW_f, nN_f]
          exact ⟨rfl, fun q => absurd q Bool.false_ne_true⟩
      | 3, _ =>
        rw [if_neg (by show ¬ (4 : Nat) = 1; decide), if_neg (by show ¬ (4 : Nat) = 5; decide), if_neg (by show ¬ (4 : Nat) = 2; decide), if_neg (by show ¬ (4 : Nat) = 3; decide)]
        show (cO2 B n o 3 u (va_up Wr o (some (ad 3))) Nm Sh).1 = (true, u) ∧ ((cO2 B n o 3 u (va_up Wr o (some (ad 3))) Nm Sh).1.1 = true → OEq ad (upd R (3 * o) (nI 4)) (cO2 B n o 3 u (va_up Wr o (some (ad 3))) Nm Sh).2 o)
        unfold cO2
        rw [if_pos (show wLe 3 = -1 from rfl)]
        unfold cO3
        rw [if_pos (show wHb 3 = false from rfl)]
        refine ⟨rfl, fun _ => ⟨3, by omega, up_us, ?_, fun q => absurd rfl q, fun q => absurd q (by decide), fun q => absurd q (by decide), fun q => absurd q (by decide)⟩⟩
        simp only [pk_us]
      | 4, _ =>
        rw [if_neg (by show ¬ (5 : Nat) = 1; decide), if_pos (by show (5 : Nat) = 5; rfl)]
        have hn := nb_eq (B := B) (n := n) (i := 4) (t := u) (least := 1) (most := 20) (by omega) (by omega) (by omega) rfl rfl
        show (cO2 B n o 4 u (va_up Wr o (some (ad 4))) Nm Sh).1 = (nNum B n 1 20 (true, u)).2 ∧ ((cO2 B n o 4 u (va_up Wr o (some (ad 4))) Nm Sh).1.1 = true → OEq ad (upd (upd R (3 * o) (nI 5)) (3 * o + 1) (nNum B n 1 20 (true, u)).1) (cO2 B n o 4 u (va_up Wr o (some (ad 4))) Nm Sh).2 o)
        unfold cO2
        rw [if_neg (show ¬ wLe 4 = -1 by decide)]
        by_cases g : (cNb B n 4 u).1.1 = true
        · have hv := nNum_val (B := B) (n := n) (least := 1) (most := 20) (q := (true, u)) (by omega) (by omega) (by omega) (by rw [hn.1]; exact g)
          rw [if_pos g, hn.1, ← hn.2 g]
          unfold cO3
          rw [if_pos (show wHb 4 = false from rfl)]
          refine ⟨Prod.ext g.symm rfl, fun _ => ⟨4, by omega, up_us, ?_, fun _ => ?_, fun q => absurd q (by decide), fun _ => ?_, fun q => absurd q (by decide)⟩⟩
          · simp (disch := omega) only [pk_un, pk_us]
          · simp only [pk_us]
          · show upd Nm o _ o = nI (ix (upd Nm o _ o)) ∧ ix (upd Nm o _ o) ≤ 20
            rw [pk_us]; exact ix_le (by omega) hv
        · rw [if_neg g, hn.1]
          rw [Bool.not_eq_true] at g
          exact ⟨Prod.ext g.symm rfl, fun q => absurd q Bool.false_ne_true⟩
theorem OEq.cg {ad : Nat → Nat} {R R2 : Nat → Int32} {z z2 : (Nat → Option Nat) × (Nat → Int32) × (Nat → Int32)} {i : Nat} (h : OEq ad R z i) (e : R2 (3 * i) = R (3 * i) ∧ R2 (3 * i + 1) = R (3 * i + 1) ∧ R2 (3 * i + 2) = R (3 * i + 2)) (f : z2.1 i = z.1 i ∧ z2.2.1 i = z.2.1 i ∧ z2.2.2 i = z.2.2 i) : OEq ad R2 z2 i := by
  obtain ⟨w, h1, h2, h3, h4, h5, h6, h7⟩ := h
  refine ⟨w, h1, ?_, ?_, ?_, ?_, ?_, ?_⟩
  · rw [f.1]; exact h2
  · rw [e.1]; exact h3
  · rw [e.2.1, f.2.1]; exact h4
  · rw [e.2.2, f.2.2]; exact h5
  · rw [f.2.1]; exact h6
  · rw [f.2.1]; exact h7
theorem lp_eq {ad : Nat → Nat} {B : Nat → Int32} {n : Nat} (hn : n ≤ 60) : ∀ (f o t f2 : Nat) (Wr : Nat → Option Nat) (Nm Sh R : Nat → Int32), f + o = 60 → 6 * o ≤ t → t ≤ n → (∀ i, i < o → OEq ad R (Wr, Nm, Sh) i) → RInv n (rOrd B n R t o) →
    2 * (n - (rOrd B n R t o).2.1.2) + b1 (rOrd B n R t o).2.1.1 ≤ f2 →
    (cLp ad B n f o ((true, t), Wr, Nm, Sh)).1.1.1 = (rLp B n f2 (rOrd B n R t o)).2.1.1 ∧ ((rLp B n f2 (rOrd B n R t o)).2.1.1 = false → (cLp ad B n f o ((true, t), Wr, Nm, Sh)).1.1.2 = (rLp B n f2 (rOrd B n R t o)).2.1.2) ∧
    ((rLp B n f2 (rOrd B n R t o)).2.1.1 = true → (cLp ad B n f o ((true, t), Wr, Nm, Sh)).1.1.2 = n ∧ (cLp ad B n f o ((true, t), Wr, Nm, Sh)).2 = (rLp B n f2 (rOrd B n R t o)).2.2 ∧ ∀ i, i < (rLp B n f2 (rOrd B n R t o)).2.2 → OEq ad (rLp B n f2 (rOrd B n R t o)).1 (cLp ad B n f o ((true, t), Wr, Nm, Sh)).1.2 i) ∧
    (cLp ad B n f o ((true, t), Wr, Nm, Sh)).2 ≤ 60
  | 0, o, t, f2, Wr, Nm, Sh, R, h1, h2, h3, _, _, _ => by omega
  | f + 1, o, t, f2, Wr, Nm, Sh, R, h1, h2, h3, h4, h5, h6 => by
    have hq := or_eq (ad := ad) (B := B) (n := n) (o := o) (t := t) (Wr := Wr) (Nm := Nm) (Sh := Sh) (R := R)
    have hold : ∀ i, i < o → OEq ad (rOrd B n R t o).1 (cOr ad B n o t Wr Nm Sh).2 i := fun i hi => (h4 i hi).cg ⟨rOrd_old (by omega), rOrd_old (by omega), rOrd_old (by omega)⟩ (cOr_old (by omega))
    have hle := cOr_le (ad := ad) (B := B) (n := n) (o := o) (Wr := Wr) (Nm := Nm) (Sh := Sh) h3
    rw [cLp]
    show (if (cOr ad B n o t Wr Nm Sh).1.1 = true then _ else _ : OS × Nat).1.1.1 = _ ∧ (_ → (if (cOr ad B n o t Wr Nm Sh).1.1 = true then _ else _ : OS × Nat).1.1.2 = _) ∧ (_ → (if (cOr ad B n o t Wr Nm Sh).1.1 = true then _ else _ : OS × Nat).1.1.2 = n ∧ (if (cOr ad B n o t Wr Nm Sh).1.1 = true then _ else _ : OS × Nat).2 = _ ∧ ∀ i, _ → OEq ad _ (if (cOr ad B n o t Wr Nm Sh).1.1 = true then _ else _ : OS × Nat).1.2 i) ∧ (if (cOr ad B n o t Wr Nm Sh).1.1 = true then _ else _ : OS × Nat).2 ≤ 60
    by_cases g : (cOr ad B n o t Wr Nm Sh).1.1 = true
    · rw [if_pos g]
      have g2 : (rOrd B n R t o).2.1.1 = true := by rw [← hq.1]; exact g
      have hok := rOrd_ok (B := B) (R := R) (m := o) h3 g2
      have hm : (rOrd B n R t o).2.2 = o + 1 := by rw [rOrd_m, g2]; rfl
      have hnew : ∀ i, i < o + 1 → OEq ad (rOrd B n R t o).1 (cOr ad B n o t Wr Nm Sh).2 i := fun i hi => by
        by_cases e : i = o
        · rw [e]; exact hq.2 g
        · exact hold i (by omega)
      have hpos : (cOr ad B n o t Wr Nm Sh).1.2 = (rOrd B n R t o).2.1.2 := by rw [hq.1]
      by_cases p : n ≤ (cOr ad B n o t Wr Nm Sh).1.2
      · rw [if_pos p, rLp_stop (Or.inr (by rw [← hpos]; exact p))]
        refine ⟨by rw [hq.1], fun q => by rw [g2] at q; exact absurd q (by decide), fun _ => ⟨Nat.le_antisymm hle p, hm.symm, fun i hi => hnew i (by rw [hm] at hi; exact hi)⟩, show o + 1 ≤ 60 by omega⟩
      · rw [if_neg p]
        have hnx := rLp_next (B := B) h5 g2 (by rw [← hpos]; omega) h6
        rw [hnx.1]
        have hnx2 := hnx.2
        have eR : (rOrd B n R t o).2.1 = (true, (cOr ad B n o t Wr Nm Sh).1.2) := Prod.ext g2 hpos.symm
        by_cases s : cSg B n (cOr ad B n o t Wr Nm Sh).1.2 = 59
        · rw [if_pos s]
          have s2 : wW B n 59 (rOrd B n R t o).2.1 = (true, (cOr ad B n o t Wr Nm Sh).1.2 + 1) := by
            rw [eR]; exact wW_t ((sg_c (by decide) (by decide)).mpr s)
          have eS : rSt B n (rOrd B n R t o) = rOrd B n (rOrd B n R t o).1 ((cOr ad B n o t Wr Nm Sh).1.2 + 1) (o + 1) := by
            rw [rSt, s2, if_pos rfl, hm]
          rw [eS] at hnx2 ⊢
          exact lp_eq hn f (o + 1) ((cOr ad B n o t Wr Nm Sh).1.2 + 1) (f2 - 1) _ _ _ (rOrd B n R t o).1 (by omega) (by rw [hpos]; omega) (by omega) hnew hnx2.2.1 hnx2.1
        · rw [if_neg s]
          have s2 : wW B n 59 (rOrd B n R t o).2.1 = (false, (cOr ad B n o t Wr Nm Sh).1.2) := by
            rw [eR]; exact wW_n (fun q => s ((sg_c (by decide) (by decide)).mp q))
          have eS : rSt B n (rOrd B n R t o) = ((rOrd B n R t o).1, (false, (cOr ad B n o t Wr Nm Sh).1.2), (rOrd B n R t o).2.2) := by
            rw [rSt, s2, if_neg Bool.false_ne_true]
          rw [eS, rLp_stop (Or.inl rfl)]
          exact ⟨rfl, fun _ => rfl, fun q => absurd q Bool.false_ne_true, show o + 1 ≤ 60 by omega⟩
    · rw [if_neg g]
      rw [Bool.not_eq_true] at g
      have g2 : (rOrd B n R t o).2.1.1 = false := by rw [← hq.1]; exact g
      rw [rLp_stop (Or.inl g2)]
      exact ⟨by rw [hq.1], fun _ => by rw [hq.1], fun q => by rw [g2] at q; exact absurd q (by decide), show o ≤ 60 by omega⟩
/-- the whole text, as both read it -/
theorem rd_eq {ad : Nat → Nat} {B : Nat → Int32} {n : Nat} (hn : n ≤ 60) (Wr : Nat → Option Nat) (Nm Sh R : Nat → Int32) :
    (cLp ad B n 60 0 ((true, 0), Wr, Nm, Sh)).1.1.1 = (rRd B n R).2.1.1 ∧ ((rRd B n R).2.1.1 = false → (cLp ad B n 60 0 ((true, 0), Wr, Nm, Sh)).1.1.2 = (rRd B n R).2.1.2) ∧
    ((rRd B n R).2.1.1 = true → (cLp ad B n 60 0 ((true, 0), Wr, Nm, Sh)).1.1.2 = n ∧ (cLp ad B n 60 0 ((true, 0), Wr, Nm, Sh)).2 = (rRd B n R).2.2 ∧ ∀ i, i < (rRd B n R).2.2 → OEq ad (rRd B n R).1 (cLp ad B n 60 0 ((true, 0), Wr, Nm, Sh)).1.2 i) ∧
    (cLp ad B n 60 0 ((true, 0), Wr, Nm, Sh)).2 ≤ 60 :=
  lp_eq hn 60 0 0 (2 * n + 1) Wr Nm Sh R rfl (Nat.le_refl _) (Nat.zero_le _) (fun i h => absurd h (Nat.not_lt_zero i)) (rOrd0_inv B n R) (by have := b1_le (rOrd B n R 0 0).2.1.1; omega)
end TEXT10
