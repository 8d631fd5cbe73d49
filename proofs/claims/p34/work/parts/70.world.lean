/-- the class's object: its vaults (0 to 5 saved, 6 now, 7 forecast), the best step, how many saved; the law's own row -/
abbrev XS : Type := (Nat → VS) × CS × Nat × (Nat → Int32)
/-- the world of the law -/
def LW (cI cV cW : ClassId) (a : Nat → Nat) (A : Nat → Nat → Nat) (X : XS) : va_W := [(a 0, .inr (3, [.ref (A 6 0), .ref (A 7 0), .ref (a 1), .ref (a 2), .ref (a 7), .int (nI X.2.2.1)])),
  (A 6 0, .inr (2, [.ref (A 6 1), .ref (A 6 2), .ref (A 6 3), .ref (A 6 4), .ref (A 6 5), .ref (A 6 6), .ref (A 6 7), .ref (A 6 8), .int (nI (X.1 6).1), .int (X.1 6).2.1, .int (X.1 6).2.2.1])),
  (A 6 1, .inl (cI, 6, .inl ((X.1 6).2.2.2 0))),
  (A 6 2, .inl (cI, 6, .inl ((X.1 6).2.2.2 1))),
  (A 6 3, .inl (cI, 6, .inl ((X.1 6).2.2.2 2))),
  (A 6 4, .inl (cI, 16, .inl ((X.1 6).2.2.2 3))),
  (A 6 5, .inl (cI, 16, .inl ((X.1 6).2.2.2 4))),
  (A 6 6, .inl (cI, 16, .inl ((X.1 6).2.2.2 5))),
  (A 6 7, .inl (cI, 16, .inl ((X.1 6).2.2.2 6))),
  (A 6 8, .inl (cI, 16, .inl ((X.1 6).2.2.2 7))),
  (A 7 0, .inr (2, [.ref (A 7 1), .ref (A 7 2), .ref (A 7 3), .ref (A 7 4), .ref (A 7 5), .ref (A 7 6), .ref (A 7 7), .ref (A 7 8), .int (nI (X.1 7).1), .int (X.1 7).2.1, .int (X.1 7).2.2.1])),
  (A 7 1, .inl (cI, 6, .inl ((X.1 7).2.2.2 0))),
  (A 7 2, .inl (cI, 6, .inl ((X.1 7).2.2.2 1))),
  (A 7 3, .inl (cI, 6, .inl ((X.1 7).2.2.2 2))),
  (A 7 4, .inl (cI, 16, .inl ((X.1 7).2.2.2 3))),
  (A 7 5, .inl (cI, 16, .inl ((X.1 7).2.2.2 4))),
  (A 7 6, .inl (cI, 16, .inl ((X.1 7).2.2.2 5))),
  (A 7 7, .inl (cI, 16, .inl ((X.1 7).2.2.2 6))),
  (A 7 8, .inl (cI, 16, .inl ((X.1 7).2.2.2 7))),
  (a 1, .inr (1, [.int X.2.1.1, .int X.2.1.2.1, .int X.2.1.2.2.1, .int X.2.1.2.2.2])),
  (a 2, .inr (0, [.ref (a 3), .ref (a 4), .ref (a 5), .ref (a 6), .int (nI 0), .int (nI 0), .int (nI 0)])),
  (a 3, .inl (cI, 60, .inl z0)),
  (a 4, .inl (cW, 60, .inr (.inr (.inr (.inr no0))))),
  (a 5, .inl (cI, 60, .inl z0)),
  (a 6, .inl (cI, 60, .inl z0)),
  (a 7, .inl (cV, 6, .inr (.inr (.inr (.inr (va_6 (A 0 0) (A 1 0) (A 2 0) (A 3 0) (A 4 0) (A 5 0))))))),
  (A 0 0, .inr (2, [.ref (A 0 1), .ref (A 0 2), .ref (A 0 3), .ref (A 0 4), .ref (A 0 5), .ref (A 0 6), .ref (A 0 7), .ref (A 0 8), .int (nI (X.1 0).1), .int (X.1 0).2.1, .int (X.1 0).2.2.1])),
  (A 0 1, .inl (cI, 6, .inl ((X.1 0).2.2.2 0))),
  (A 0 2, .inl (cI, 6, .inl ((X.1 0).2.2.2 1))),
  (A 0 3, .inl (cI, 6, .inl ((X.1 0).2.2.2 2))),
  (A 0 4, .inl (cI, 16, .inl ((X.1 0).2.2.2 3))),
  (A 0 5, .inl (cI, 16, .inl ((X.1 0).2.2.2 4))),
  (A 0 6, .inl (cI, 16, .inl ((X.1 0).2.2.2 5))),
  (A 0 7, .inl (cI, 16, .inl ((X.1 0).2.2.2 6))),
  (A 0 8, .inl (cI, 16, .inl ((X.1 0).2.2.2 7))),
  (A 1 0, .inr (2, [.ref (A 1 1), .ref (A 1 2), .ref (A 1 3), .ref (A 1 4), .ref (A 1 5), .ref (A 1 6), .ref (A 1 7), .ref (A 1 8), .int (nI (X.1 1).1), .int (X.1 1).2.1, .int (X.1 1).2.2.1])),
  (A 1 1, .inl (cI, 6, .inl ((X.1 1).2.2.2 0))),
  (A 1 2, .inl (cI, 6, .inl ((X.1 1).2.2.2 1))),
  (A 1 3, .inl (cI, 6, .inl ((X.1 1).2.2.2 2))),
  (A 1 4, .inl (cI, 16, .inl ((X.1 1).2.2.2 3))),
  (A 1 5, .inl (cI, 16, .inl ((X.1 1).2.2.2 4))),
  (A 1 6, .inl (cI, 16, .inl ((X.1 1).2.2.2 5))),
  (A 1 7, .inl (cI, 16, .inl ((X.1 1).2.2.2 6))),
  (A 1 8, .inl (cI, 16, .inl ((X.1 1).2.2.2 7))),
  (A 2 0, .inr (2, [.ref (A 2 1), .ref (A 2 2), .ref (A 2 3), .ref (A 2 4), .ref (A 2 5), .ref (A 2 6), .ref (A 2 7), .ref (A 2 8), .int (nI (X.1 2).1), .int (X.1 2).2.1, .int (X.1 2).2.2.1])),
  (A 2 1, .inl (cI, 6, .inl ((X.1 2).2.2.2 0))),
  (A 2 2, .inl (cI, 6, .inl ((X.1 2).2.2.2 1))),
  (A 2 3, .inl (cI, 6, .inl ((X.1 2).2.2.2 2))),
  (A 2 4, .inl (cI, 16, .inl ((X.1 2).2.2.2 3))),
  (A 2 5, .inl (cI, 16, .inl ((X.1 2).2.2.2 4))),
  (A 2 6, .inl (cI, 16, .inl ((X.1 2).2.2.2 5))),
  (A 2 7, .inl (cI, 16, .inl ((X.1 2).2.2.2 6))),
  (A 2 8, .inl (cI, 16, .inl ((X.1 2).2.2.2 7))),
  (A 3 0, .inr (2, [.ref (A 3 1), .ref (A 3 2), .ref (A 3 3), .ref (A 3 4), .ref (A 3 5), .ref (A 3 6), .ref (A 3 7), .ref (A 3 8), .int (nI (X.1 3).1), .int (X.1 3).2.1, .int (X.1 3).2.2.1])),
  (A 3 1, .inl (cI, 6, .inl ((X.1 3).2.2.2 0))),
  (A 3 2, .inl (cI, 6, .inl ((X.1 3).2.2.2 1))),
  (A 3 3, .inl (cI, 6, .inl ((X.1 3).2.2.2 2))),
  (A 3 4, .inl (cI, 16, .inl ((X.1 3).2.2.2 3))),
  (A 3 5, .inl (cI, 16, .inl ((X.1 3).2.2.2 4))),
  (A 3 6, .inl (cI, 16, .inl ((X.1 3).2.2.2 5))),
  (A 3 7, .inl (cI, 16, .inl ((X.1 3).2.2.2 6))),
  (A 3 8, .inl (cI, 16, .inl ((X.1 3).2.2.2 7))),
  (A 4 0, .inr (2, [.ref (A 4 1), .ref (A 4 2), .ref (A 4 3), .ref (A 4 4), .ref (A 4 5), .ref (A 4 6), .ref (A 4 7), .ref (A 4 8), .int (nI (X.1 4).1), .int (X.1 4).2.1, .int (X.1 4).2.2.1])),
  (A 4 1, .inl (cI, 6, .inl ((X.1 4).2.2.2 0))),
  (A 4 2, .inl (cI, 6, .inl ((X.1 4).2.2.2 1))),
  (A 4 3, .inl (cI, 6, .inl ((X.1 4).2.2.2 2))),
  (A 4 4, .inl (cI, 16, .inl ((X.1 4).2.2.2 3))),
  (A 4 5, .inl (cI, 16, .inl ((X.1 4).2.2.2 4))),
  (A 4 6, .inl (cI, 16, .inl ((X.1 4).2.2.2 5))),
  (A 4 7, .inl (cI, 16, .inl ((X.1 4).2.2.2 6))),
  (A 4 8, .inl (cI, 16, .inl ((X.1 4).2.2.2 7))),
  (A 5 0, .inr (2, [.ref (A 5 1), .ref (A 5 2), .ref (A 5 3), .ref (A 5 4), .ref (A 5 5), .ref (A 5 6), .ref (A 5 7), .ref (A 5 8), .int (nI (X.1 5).1), .int (X.1 5).2.1, .int (X.1 5).2.2.1])),
  (A 5 1, .inl (cI, 6, .inl ((X.1 5).2.2.2 0))),
  (A 5 2, .inl (cI, 6, .inl ((X.1 5).2.2.2 1))),
  (A 5 3, .inl (cI, 6, .inl ((X.1 5).2.2.2 2))),
  (A 5 4, .inl (cI, 16, .inl ((X.1 5).2.2.2 3))),
  (A 5 5, .inl (cI, 16, .inl ((X.1 5).2.2.2 4))),
  (A 5 6, .inl (cI, 16, .inl ((X.1 5).2.2.2 5))),
  (A 5 7, .inl (cI, 16, .inl ((X.1 5).2.2.2 6))),
  (A 5 8, .inl (cI, 16, .inl ((X.1 5).2.2.2 7))),
  (a 8, .inl (cI, 32, .inl X.2.2.2))]
def setK (K : Nat → VS) (i : Nat) (v : VS) : Nat → VS := fun j => if j = i then v else K j
theorem setK_s {K : Nat → VS} {i : Nat} {v : VS} : setK K i v i = v := if_pos rfl
theorem setK_n {K : Nat → VS} {i j : Nat} {v : VS} (h : j ≠ i) : setK K i v j = K j := if_neg h
/-- nothing that counts has changed -/
def SM (K : Nat → VS) (n : Nat) (x : XS) : Prop := x.1 6 = K 6 ∧ x.2.2.1 = n ∧ ∀ j, j < n → x.1 j = K j
def pAct (y z : Int32) (K : Nat → VS) (n : Nat) (r : Int32) (x : XS) : Prop := (actO y z (K 6) = none ∧ r = -9 ∧ SM K n x) ∨ (actO y z (K 6) = some (r, x.1 6) ∧ x.2.2.1 = n + 1 ∧ x.1 n = K 6 ∧ ∀ j, j < n → x.1 j = K j)
theorem act_p {K : Nat → VS} {b : CS} {f : Nat → Int32} {n : Nat} {y z r : Int32} {u : VS × VS × CS × Nat} (hn : n < 6) (h : (actO y z (K 6) = none ∧ r = -9 ∧ u = (K 6, K n, b, n)) ∨ (∃ W9 : VS, actO y z (K 6) = some (r, W9) ∧ ∃ b9 : CS, u = (W9, K 6, b9, n + 1))) : pAct y z K n r (setK (setK K 6 u.1) n u.2.1, u.2.2.1, u.2.2.2, f) := by
  rcases h with ⟨h1, h2, rfl⟩ | ⟨W9, h1, b9, rfl⟩
  · refine Or.inl ⟨h1, h2, ?_, rfl, fun j hj => ?_⟩
    · show setK (setK K 6 (K 6)) n (K n) 6 = K 6
      rw [setK_n (by omega), setK_s]
    · show setK (setK K 6 (K 6)) n (K n) j = K j
      rw [setK_n (by omega), setK_n (by omega)]
  · refine Or.inr ⟨?_, rfl, ?_, fun j hj => ?_⟩
    · show _ = some (r, setK (setK K 6 W9) n (K 6) 6)
      rw [setK_n (by omega), setK_s]; exact h1
    · show setK (setK K 6 W9) n (K 6) n = K 6
      rw [setK_s]
    · show setK (setK K 6 W9) n (K 6) j = K j
      rw [setK_n (by omega), setK_n (by omega)]
theorem nig_p {K : Nat → VS} {n : Nat} {u : VS × CS × (Nat → Int32)} (hn : n < 6) : SM K n (setK (setK K 7 u.1) n (K 6), u.2.1, n, u.2.2) := by
  refine ⟨?_, rfl, fun j hj => ?_⟩
  · show setK (setK K 7 u.1) n (K 6) 6 = K 6
    rw [setK_n (by omega), setK_n (by omega)]
  · show setK (setK K 7 u.1) n (K 6) j = K j
    rw [setK_n (by omega), setK_n (by omega)]
theorem cal_p {K : Nat → VS} {n : Nat} {u : CS} {f : Nat → Int32} (hn : n < 6) : SM K n (setK K n (K 6), u, n, f) := by
  refine ⟨?_, rfl, fun j hj => ?_⟩
  · show setK K n (K 6) 6 = K 6
    rw [setK_n (by omega)]
  · show setK K n (K 6) j = K j
    rw [setK_n (by omega)]
def pUnd (K : Nat → VS) (n : Nat) (x : XS) : Prop := x.1 6 = K n ∧ x.2.2.1 = n ∧ ∀ j, j < n → x.1 j = K j
theorem und_p {K : Nat → VS} {n : Nat} {b : CS} {f : Nat → Int32} (hn : n < 6) : pUnd K n (setK K 6 (K n), b, n, f) := by
  refine ⟨?_, rfl, fun j hj => ?_⟩
  · show setK K 6 (K n) 6 = K n
    rw [setK_s]
  · show setK K 6 (K n) j = K j
    rw [setK_n (by omega)]
section FRAMES
abbrev qL (D : va_G) (A : Nat → Prop) (ws : va_W) (t : State) : Prop := va_P D vwCl ws t.heap ∧ va_D A ws
theorem mp_at {W wc : va_W} {isC : List Nat} (hC : isC.map (fun i => W[i]?) = wc.map some) {k : Nat} {q : Nat × va_E} (hq : wc[k]? = some q) : ∃ i, isC[k]? = some i ∧ W[i]? = some q := by
  have h1 : (isC.map (fun i => W[i]?))[k]? = some (some q) := by rw [hC, List.getElem?_map, hq]; rfl
  rw [List.getElem?_map] at h1
  cases hi : isC[k]? with
  | none => rw [hi] at h1; cases h1
  | some i => rw [hi] at h1; exact ⟨i, rfl, Option.some.inj h1⟩
theorem mp_P {D : va_G} {W wc : va_W} {H : Heap} {isC : List Nat} (hC : isC.map (fun i => W[i]?) = wc.map some) (hP : va_P D vwCl W H) : va_P D vwCl wc H := fun k q hq => by
  obtain ⟨i, -, h⟩ := mp_at hC hq
  exact hP i q h
theorem mp_A {W wc : va_W} {sz : Nat} {isC : List Nat} (hC : isC.map (fun i => W[i]?) = wc.map some) : ∀ q, va_A wc sz q → va_A W sz q := by
  intro q hq
  rcases hq with ⟨k, e, h⟩ | h
  · obtain ⟨i, -, h2⟩ := mp_at hC h
    exact Or.inl ⟨i, e, h2⟩
  · exact Or.inr h
def fS (w1 W : va_W) : Bool × Nat → Option (Nat × va_E)
  | (true, j) => w1[j]?
  | (false, i) => W[i]?
def fN : Bool × Nat → Nat
  | (true, j) => 2 * j + 1
  | (false, i) => 2 * i
def fO (isC : List Nat) : Bool × Nat → Bool
  | (true, _) => true
  | (false, i) => !isC.contains i
theorem fN_inj {x y : Bool × Nat} (h : fN x = fN y) : x = y := by
  obtain ⟨bx, ix⟩ := x
  obtain ⟨by', iy⟩ := y
  cases bx <;> cases by' <;> simp only [fN] at h
  · rw [show ix = iy by omega]
  · omega
  · omega
  · rw [show ix = iy by omega]
/-- the frame of a whole contract: the cells that it doesn't name stay -/
theorem FRB {D : va_G} {tys : List (ClassId × FieldType)} {W wc w1 W1 : va_W} {sz : Nat} {st t : State} (hsz : st.heap.size = sz) (hP : va_P D vwCl W st.heap) (hD : va_D (fun _ => True) W) (isC : List Nat) (hC : isC.map (fun i => W[i]?) = wc.map some) (src : List (Bool × Nat)) (hs : src.map (fS w1 W) = W1.map some) (hn : va_nd (src.map fN) = true) (hdis : src.all (fO isC) = true) (hq : qB D tys (va_A wc sz) w1 t) (hF : va_F (va_A wc sz) st t) : qL D (va_A W sz) W1 t ∧ va_F (va_A W sz) st t := by
  have hFc := mp_A (sz := sz) hC
  have at1 : ∀ (k : Nat) (q : Nat × va_E), W1[k]? = some q → ∃ x, src[k]? = some x ∧ fS w1 W x = some q := by
    intro k q hk
    have h1 : (src.map (fS w1 W))[k]? = some (some q) := by rw [hs, List.getElem?_map, hk]; rfl
    rw [List.getElem?_map] at h1
    cases hi : src[k]? with
    | none => rw [hi] at h1; cases h1
    | some i => rw [hi] at h1; exact ⟨i, rfl, Option.some.inj h1⟩
  have old : ∀ (k i : Nat) (q : Nat × va_E), src[k]? = some (false, i) → W[i]? = some q → ¬ va_A wc sz q.1 := by
    intro k i q hk hi hA
    have hl := (hP i q hi).lt
    rcases hA with ⟨k2, e, h⟩ | h
    · obtain ⟨j, hj, h2⟩ := mp_at hC h
      have := hD.1 i j q (q.1, e) hi h2 rfl
      subst this
      have h3 := List.all_eq_true.mp hdis _ (List.mem_of_getElem? hk)
      simp only [fO, Bool.not_eq_true', List.contains_eq_mem, decide_eq_false_iff_not] at h3
      exact h3 (List.mem_of_getElem? hj)
    · omega
  have apart : ∀ (i j : Nat) (x : Bool × Nat), src[i]? = some x → src[j]? = some x → i = j := by
    intro i j x hi hj
    refine va_nd_inj _ hn i j (fN x) ?_ ?_
    · rw [List.getElem?_map, hi]; rfl
    · rw [List.getElem?_map, hj]; rfl
  refine ⟨⟨fun k q hk => ?_, fun i j p q hi hj hpq => ?_, fun k q hk => ?_⟩, hF.1, fun q h1 h2 => hF.2 q h1 (fun h => h2 (hFc q h))⟩
  · obtain ⟨⟨b, i⟩, h1, h2⟩ := at1 k q hk
    cases b with
    | true => exact hq.1 i q h2
    | false => exact (hP i q h2).kept (hF.2 q.1 (hP i q h2).lt (old k i q h1 h2))
  · obtain ⟨⟨b, x⟩, h1, h2⟩ := at1 i p hi
    obtain ⟨⟨b', y⟩, h3, h4⟩ := at1 j q hj
    cases b with
    | true =>
      cases b' with
      | true =>
        have := hq.2.2.1 x y p q h2 h4 hpq
        subst this
        exact apart i j _ h1 h3
      | false =>
        have h5 := hq.2.2.2 x p h2
        rw [hpq] at h5
        exact absurd h5 (old j y q h3 h4)
    | false =>
      cases b' with
      | true =>
        have h5 := hq.2.2.2 y q h4
        rw [← hpq] at h5
        exact absurd h5 (old i x p h1 h2)
      | false =>
        have := hD.1 x y p q h2 h4 hpq
        subst this
        exact apart i j _ h1 h3
  · obtain ⟨⟨b, i⟩, h1, h2⟩ := at1 k q hk
    cases b with
    | true => exact hFc _ (hq.2.2.2 i q h2)
    | false => exact va_A.in h2
variable {l : Launch} {y : MethodName} {wsY : List Cond} {rm : Room} {D : va_G} {tys : List (ClassId × FieldType)} {sz : Nat} {av : List Value} {W wc : va_W} {mc ms : Nat} {S S2 : Type} {w1 : S → va_W} {W1 : S2 → va_W}
theorem pW_sub {a : Array Value} {U : State} (h : pW D tys sz av W a U) (isC : List Nat) (hC : isC.map (fun i => W[i]?) = wc.map some) (hn : va_nd isC = true) : pW D tys sz av wc a U :=
  ⟨h.1, h.2.1, mp_P hC h.2.2.1, h.2.2.2.1, h.2.2.2.2.sub isC hn hC⟩
theorem FRG {post : Int32 → S → Prop} {post2 : Int32 → S2 → Prop} (hM : Met l y wsY rm (pW D tys sz av wc) (va_Qi post (fun (u : S) t => qB D tys (va_A wc sz) (w1 u) t) (va_A wc sz)) mc ms (va_A wc sz))
    (isC : List Nat) (hC : isC.map (fun i => W[i]?) = wc.map some) (hn : va_nd isC = true) (src : List (Bool × Nat)) (tr : S → S2) (hp : ∀ r u, post r u → post2 r (tr u)) (hs : ∀ u, src.map (fS (w1 u) W) = (W1 (tr u)).map some) (hns : va_nd (src.map fN) = true) (hd : src.all (fO isC) = true) :
    Met l y wsY rm (pW D tys sz av W) (va_Qi post2 (fun (u : S2) t => qB D tys (va_A W sz) (W1 u) t) (va_A W sz)) mc ms (va_A W sz) := by
  refine met_mono hM (fun a U h => pW_sub h isC hC hn) (fun a st o t h q => ?_) (mp_A hC)
  obtain ⟨⟨r, u, e1, e2, e3⟩, hF⟩ := q
  obtain ⟨g1, g2⟩ := FRB h.2.1 h.2.2.1 h.2.2.2.2 isC hC src (hs u) hns hd e3 hF
  exact ⟨⟨r, tr u, e1, hp r u e2, g1.1, e3.2.1, g1.2⟩, g2⟩
theorem FRGl {post : Int64 → S → Prop} {post2 : Int64 → S2 → Prop} (hM : Met l y wsY rm (pW D tys sz av wc) (va_Ql post (fun (u : S) t => qB D tys (va_A wc sz) (w1 u) t) (va_A wc sz)) mc ms (va_A wc sz))
    (isC : List Nat) (hC : isC.map (fun i => W[i]?) = wc.map some) (hn : va_nd isC = true) (src : List (Bool × Nat)) (tr : S → S2) (hp : ∀ r u, post r u → post2 r (tr u)) (hs : ∀ u, src.map (fS (w1 u) W) = (W1 (tr u)).map some) (hns : va_nd (src.map fN) = true) (hd : src.all (fO isC) = true) :
    Met l y wsY rm (pW D tys sz av W) (va_Ql post2 (fun (u : S2) t => qB D tys (va_A W sz) (W1 u) t) (va_A W sz)) mc ms (va_A W sz) := by
  refine met_mono hM (fun a U h => pW_sub h isC hC hn) (fun a st o t h q => ?_) (mp_A hC)
  obtain ⟨⟨r, u, e1, e2, e3⟩, hF⟩ := q
  obtain ⟨g1, g2⟩ := FRB h.2.1 h.2.2.1 h.2.2.2.2 isC hC src (hs u) hns hd e3 hF
  exact ⟨⟨r, tr u, e1, hp r u e2, g1.1, e3.2.1, g1.2⟩, g2⟩
end FRAMES
