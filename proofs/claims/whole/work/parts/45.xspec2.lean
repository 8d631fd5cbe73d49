theorem any_of {wa sw : Nat} {ad aK aV : Nat → Nat} {A : Nat → Prop} {s : State} {H : Heap} {locs : List Loc} (hI : IMM wa sw ad aK aV A s s.heap) (hS : va_S A s.heap H locs) {i : Nat} (hi : i < 5) : va_Any "VaultShelves$Word" s H (ad i) := by
  obtain ⟨cell, h1, h2, h3, -⟩ := (hI.2.2.1 i hi).1.kept hS.2.1
  obtain ⟨kC, hkC, -⟩ := Vm.findClass_spec h3
  exact ⟨cell, h1, h2, ⟨kC, hkC⟩, fun comp h => by cases h.symm.trans h3; exact va_asg _ _⟩
def cWa (x : Int32) : Option Nat := if wCh 0 0 = x then some 0 else if wCh 1 0 = x then some 1 else if wCh 2 0 = x then some 2 else if wCh 3 0 = x then some 3 else if wCh 4 0 = x then some 4 else none
theorem cWa_lt {x : Int32} {i : Nat} (h : cWa x = some i) : i < 5 ∧ wCh i 0 = x := by
  unfold cWa at h
  repeat' split at h
  all_goals first | (cases h; done) | (rename_i e; cases h; exact ⟨by omega, e⟩)
theorem cWa_some {x : Int32} {i : Nat} (hi : i < 5) (hno : ∀ a, a < i → ¬ wCh a 0 = x) (h : wCh i 0 = x) : cWa x = some i := by
  unfold cWa
  match i, hi with
  | 0, _ => rw [if_pos h]
  | 1, _ => rw [if_neg (hno 0 (by omega)), if_pos h]
  | 2, _ => rw [if_neg (hno 0 (by omega)), if_neg (hno 1 (by omega)), if_pos h]
  | 3, _ => rw [if_neg (hno 0 (by omega)), if_neg (hno 1 (by omega)), if_neg (hno 2 (by omega)), if_pos h]
  | 4, _ => rw [if_neg (hno 0 (by omega)), if_neg (hno 1 (by omega)), if_neg (hno 2 (by omega)), if_neg (hno 3 (by omega)), if_pos h]
theorem cWa_none {x : Int32} (hno : ∀ a, a < 5 → ¬ wCh a 0 = x) : cWa x = none := by
  unfold cWa
  rw [if_neg (hno 0 (by omega)), if_neg (hno 1 (by omega)), if_neg (hno 2 (by omega)), if_neg (hno 3 (by omega)), if_neg (hno 4 (by omega))]
theorem cSg_lt {B : Nat → Int32} {n t : Nat} (h : ¬ cSg B n t = -1) : t < n := by
  unfold cSg at h
  split at h
  · assumption
  · exact absurd rfl h
theorem cDg_lt {B : Nat → Int32} {n t : Nat} (h : ¬ cDg B n t = -1) : t < n := by
  refine cSg_lt (B := B) (fun e => h ?_)
  unfold cDg
  rw [e, if_pos (by decide)]
theorem wCh_m1 : ∀ i, i < 5 → ∀ j, j < wLn.getD i 0 → ¬ wCh i j = -1 := by decide +kernel
/-- j letters of the word i read from t on -/
def cLt (B : Nat → Int32) (n i t : Nat) : Nat → PS
  | 0 => (true, t)
  | j + 1 => if (cLt B n i t j).1 = true then (decide (cSg B n (cLt B n i t j).2 = wCh i j), if cSg B n (cLt B n i t j).2 = wCh i j then (cLt B n i t j).2 + 1 else (cLt B n i t j).2) else cLt B n i t j
theorem cLt_t {B : Nat → Int32} {n i t j u : Nat} (h : cLt B n i t j = (true, u)) (e : cSg B n u = wCh i j) : cLt B n i t (j + 1) = (true, u + 1) := by
  rw [cLt, h]
  simp [e]
theorem cLt_f {B : Nat → Int32} {n i t j u : Nat} (h : cLt B n i t j = (true, u)) (e : ¬ cSg B n u = wCh i j) : ∀ k, j < k → cLt B n i t k = (false, u)
  | 0, hk => absurd hk (Nat.not_lt_zero _)
  | k + 1, hk => by
    rcases Nat.lt_or_ge j k with q | q
    · rw [cLt, cLt_f h e k q, if_neg Bool.false_ne_true]
    · rw [show k = j by omega, cLt, h]
      simp [e]
def cNb (B : Nat → Int32) (n i t : Nat) : PS × Int32 :=
  if cDg B n t = -1 ∨ cDg B n t < wLe i then ((false, t), 0) else if 0 < cDg B n t ∧ ¬ cDg B n (t + 1) = -1 ∧ 10 * cDg B n t + cDg B n (t + 1) ≤ wMo i then ((true, t + 1 + 1), 10 * cDg B n t + cDg B n (t + 1)) else ((true, t + 1), cDg B n t)
abbrev OS : Type := PS × (Nat → Option Nat) × (Nat → Int32) × (Nat → Int32)
def cO3 (B : Nat → Int32) (n o i t : Nat) (Wr : Nat → Option Nat) (Nm Sh : Nat → Int32) : OS :=
  if wHb i = false then ((true, t), Wr, Nm, Sh) else if cSg B n t = 64 then (if cSh (cDg B n (t + 1)) = true then ((true, t + 1 + 1), Wr, Nm, upd Sh o (cDg B n (t + 1))) else ((false, t + 1), Wr, Nm, Sh)) else ((false, t), Wr, Nm, Sh)
def cO2 (B : Nat → Int32) (n o i t : Nat) (Wr : Nat → Option Nat) (Nm Sh : Nat → Int32) : OS :=
  if wLe i = -1 then cO3 B n o i t Wr Nm Sh else if (cNb B n i t).1.1 = true then cO3 B n o i (cNb B n i t).1.2 Wr (upd Nm o (cNb B n i t).2) Sh else ((false, (cNb B n i t).1.2), Wr, Nm, Sh)
def cOr (ad : Nat → Nat) (B : Nat → Int32) (n o t : Nat) (Wr : Nat → Option Nat) (Nm Sh : Nat → Int32) : OS :=
  match cWa (cSg B n t) with
  | none => ((false, t), Wr, Nm, Sh)
  | some i => if (cLt B n i t (wLn.getD i 0)).1 = true then cO2 B n o i (cLt B n i t (wLn.getD i 0)).2 (va_up Wr o (some (ad i))) Nm Sh else ((false, (cLt B n i t (wLn.getD i 0)).2), Wr, Nm, Sh)
theorem cLt_le {B : Nat → Int32} {n i t : Nat} (hi : i < 5) (ht : t ≤ n) : ∀ j, j ≤ wLn.getD i 0 → (cLt B n i t j).2 ≤ n
  | 0, _ => ht
  | j + 1, h => by
    have h0 := cLt_le (B := B) hi ht j (by omega)
    unfold cLt
    split
    · show (if _ then _ else _) ≤ n
      split
      · rename_i e
        exact cSg_lt (B := B) (by rw [e]; exact wCh_m1 i hi j (by omega))
      · exact h0
    · exact h0
theorem cNb_le {B : Nat → Int32} {n i t : Nat} (ht : t ≤ n) : (cNb B n i t).1.2 ≤ n := by
  unfold cNb
  split
  · exact ht
  · rename_i h
    have h1 : t < n := cDg_lt (B := B) (fun e => h (Or.inl e))
    split
    · rename_i h2
      exact cDg_lt (B := B) h2.2.1
    · exact h1
section ASTM
variable {p : Program} {l : Launch} {e : Env} {R : Room} {s : State} {m : MethodId} {args : Array Value} {below : List Frame} {meth : Method} {c : Code} {H : Heap} {locs : List Loc} {cells slots : Nat} {Q : State → Prop} {cc : ByteArray} {pc : Nat} {ls : Array Slot} {rest : List Value}
theorem n_astM {D : va_G} {cl : List vw_C} {ws : va_W} {A : Nat → Prop} {H0 : Heap} {tys : List (ClassId × FieldType)} {a : Nat} (hx : p.tables.exec = Jvm.exec) (hb : c.code = cc) (hK : va_K D cl tys s) (hP : va_P D cl ws H) (hD : va_D A ws) (hS : va_S A H0 H locs) (q0 t0 : Nat) {E : String} {cA : ClassId} {n v i : Nat} {f : Nat → Option Nat} (ha : ws[q0]? = some (a, .inl (cA, n, .inr (.inr (.inr (.inr f)))))) (ht : tys[t0]? = some (cA, .object E)) (hr : va_Any E s H v) (hin : i < n) (hn : n < 2147483648) (d : decode cc pc = .ok (.aastore, 1))
    (k : ∀ (H1 : Heap) (locs1 : List Loc), va_P D cl (ws.set q0 (a, .inl (cA, n, .inr (.inr (.inr (.inr (va_up f i (some v)))))))) H1 → va_D A (ws.set q0 (a, .inl (cA, n, .inr (.inr (.inr (.inr (va_up f i (some v)))))))) → va_S A H0 H1 locs1 → W p l e R s m args below meth c H1 locs1 cells slots Q (F0 m (pc + 1) ls rest)) : W p l e R s m args below meth c H locs cells slots Q (F0 m pc ls (.ref v :: .int (nI i) :: .ref a :: rest)) :=
  va_astqM hx hb hK hP hD hS q0 t0 ha ht hr (vp_in_nI hin hn) d (by rw [nI_clamp (Nat.lt_trans hin hn)]; exact k)
end ASTM
theorem cO3_le {B : Nat → Int32} {n o i t : Nat} {Wr : Nat → Option Nat} {Nm Sh : Nat → Int32} (ht : t ≤ n) : (cO3 B n o i t Wr Nm Sh).1.2 ≤ n := by
  unfold cO3
  split
  · exact ht
  · split
    · rename_i h
      have h1 : t < n := cSg_lt (B := B) (by rw [h]; decide)
      split
      · rename_i h2
        have : t + 1 < n := cDg_lt (B := B) (fun e => by rw [cSh, e] at h2; exact absurd h2 (by decide))
        exact this
      · exact h1
    · exact ht
theorem cO2_le {B : Nat → Int32} {n o i t : Nat} {Wr : Nat → Option Nat} {Nm Sh : Nat → Int32} (ht : t ≤ n) : (cO2 B n o i t Wr Nm Sh).1.2 ≤ n := by
  unfold cO2
  split
  · exact cO3_le ht
  · split
    · exact cO3_le (cNb_le ht)
    · exact cNb_le ht
theorem cOr_le {ad : Nat → Nat} {B : Nat → Int32} {n o t : Nat} {Wr : Nat → Option Nat} {Nm Sh : Nat → Int32} (ht : t ≤ n) : (cOr ad B n o t Wr Nm Sh).1.2 ≤ n := by
  unfold cOr
  split
  · exact ht
  · rename_i i hi
    have h := cLt_le (B := B) (t := t) (cWa_lt hi).1 ht (wLn.getD i 0) (Nat.le_refl _)
    split
    · exact cO2_le h
    · exact h
def cLp (ad : Nat → Nat) (B : Nat → Int32) (n : Nat) : Nat → Nat → OS → OS × Nat
  | 0, o, z => (((false, z.1.2), z.2), o)
  | f + 1, o, z => if (cOr ad B n o z.1.2 z.2.1 z.2.2.1 z.2.2.2).1.1 = true then (if n ≤ (cOr ad B n o z.1.2 z.2.1 z.2.2.1 z.2.2.2).1.2 then (cOr ad B n o z.1.2 z.2.1 z.2.2.1 z.2.2.2, o + 1) else if cSg B n (cOr ad B n o z.1.2 z.2.1 z.2.2.1 z.2.2.2).1.2 = 59 then cLp ad B n f (o + 1) ((true, (cOr ad B n o z.1.2 z.2.1 z.2.2.1 z.2.2.2).1.2 + 1), (cOr ad B n o z.1.2 z.2.1 z.2.2.1 z.2.2.2).2) else (((false, (cOr ad B n o z.1.2 z.2.1 z.2.2.1 z.2.2.2).1.2), (cOr ad B n o z.1.2 z.2.1 z.2.2.1 z.2.2.2).2), o + 1)) else (cOr ad B n o z.1.2 z.2.1 z.2.2.1 z.2.2.2, o)
theorem cLp_s {ad : Nat → Nat} {B : Nat → Int32} {n o : Nat} {z : OS} (h : o < 60) : cLp ad B n (60 - o) o z = cLp ad B n (60 - (o + 1) + 1) o z := by rw [show 60 - o = 60 - (o + 1) + 1 by omega]
