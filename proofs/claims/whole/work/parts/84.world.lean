section LWORLD
/-- a saved or present vault's eight rows -/
def mk8 (r q f w p h n o : Nat → Int32) : Nat → Nat → Int32
  | 0 => r
  | 1 => q
  | 2 => f
  | 3 => w
  | 4 => p
  | 5 => h
  | 6 => n
  | _ => o
def mk5 (r q f w p : Nat → Int32) : Nat → Nat → Int32
  | 0 => r
  | 1 => q
  | 2 => f
  | 3 => w
  | _ => p
/-- the order text: length, orders, position, signs, words, numbers, shelves -/
abbrev TS : Type := Nat × Int32 × Int32 × (Nat → Int32) × (Nat → Option Nat) × (Nat → Int32) × (Nat → Int32)
/-- the class's object: its vaults (0 to 5 saved, 6 now, 7 forecast), the best step, how many saved, the text -/
abbrev XS : Type := (Nat → VS) × CS × Nat × TS
/-- the check's object: thrown, how many saved, length, at, well, orders read, best step, hash, rows (state, aside, saved, buffer, read) -/
abbrev MS : Type := Int32 × Nat × Nat × Int32 × Bool × Int32 × BS × Int64 × (Nat → Nat → Int32)
/-- the world of the law -/
def LW (cI cV cW cL : ClassId) (a : Nat → Nat) (A : Nat → Nat → Nat) (X : XS) (M : MS) (ou : Nat → Int64) : va_W := [(a 0, .inr (3, [.ref (A 6 0), .ref (A 7 0), .ref (a 1), .ref (a 2), .ref (a 7), .int (nI X.2.2.1)])),
  (A 6 0, .inr (2, [.ref (A 6 1), .ref (A 6 2), .ref (A 6 3), .ref (A 6 4), .ref (A 6 5), .ref (A 6 6), .ref (A 6 7), .ref (A 6 8), .int (nI (X.1 6).1), .int (X.1 6).2.1, .int (X.1 6).2.2.1])),
  (A 6 1, .inl (cI, 6, .inl ((X.1 6).2.2.2 0))),
  (A 6 2, .inl (cI, 6, .inl ((X.1 6).2.2.2 1))),
  (A 6 3, .inl (cI, 6, .inl ((X.1 6).2.2.2 2))),
  (A 6 4, .inl (cI, 16, .inl ((X.1 6).2.2.2 3))),
  (A 6 5, .inl (cI, 16, .inl ((X.1 6).2.2.2 4))),
  (A 6 6, .inl (cI, 16, .inl ((X.1 6).2.2.2 5))),
  (A 6 7, .inl (cI, 16, .inl ((X.1 6).2.2.2 6))),
  (A 6 8, .inl (cI, 16, .inl ((X.1 6).2.2.2 7))),
  (A 7 0, .inr (2, [.ref (A 7 1), .ref (A 7 2), .ref (A 7 3), .ref (A 7 4), .ref (A 7 5), .ref (A 7 6), .ref (A 7 7), .ref (A 7 8), .int (nI (X.1 7).1), .int (X.1 7).2.1, .int (X.1 7).2.2.1])),
  (A 7 1, .inl (cI, 6, .inl ((X.1 7).2.2.2 0))),
  (A 7 2, .inl (cI, 6, .inl ((X.1 7).2.2.2 1))),
  (A 7 3, .inl (cI, 6, .inl ((X.1 7).2.2.2 2))),
  (A 7 4, .inl (cI, 16, .inl ((X.1 7).2.2.2 3))),
  (A 7 5, .inl (cI, 16, .inl ((X.1 7).2.2.2 4))),
  (A 7 6, .inl (cI, 16, .inl ((X.1 7).2.2.2 5))),
  (A 7 7, .inl (cI, 16, .inl ((X.1 7).2.2.2 6))),
  (A 7 8, .inl (cI, 16, .inl ((X.1 7).2.2.2 7))),
  (a 1, .inr (1, [.int X.2.1.1, .int X.2.1.2.1, .int X.2.1.2.2.1, .int X.2.1.2.2.2])),
  (a 2, .inr (0, [.ref (a 3), .ref (a 4), .ref (a 5), .ref (a 6), .int (nI X.2.2.2.1), .int X.2.2.2.2.1, .int X.2.2.2.2.2.1])),
  (a 3, .inl (cI, 60, .inl X.2.2.2.2.2.2.1)),
  (a 4, .inl (cW, 60, .inr (.inr (.inr (.inr X.2.2.2.2.2.2.2.1))))),
  (a 5, .inl (cI, 60, .inl X.2.2.2.2.2.2.2.2.1)),
  (a 6, .inl (cI, 60, .inl X.2.2.2.2.2.2.2.2.2)),
  (a 7, .inl (cV, 6, .inr (.inr (.inr (.inr (va_6 (A 0 0) (A 1 0) (A 2 0) (A 3 0) (A 4 0) (A 5 0))))))),
  (A 0 0, .inr (2, [.ref (A 0 1), .ref (A 0 2), .ref (A 0 3), .ref (A 0 4), .ref (A 0 5), .ref (A 0 6), .ref (A 0 7), .ref (A 0 8), .int (nI (X.1 0).1), .int (X.1 0).2.1, .int (X.1 0).2.2.1])),
  (A 0 1, .inl (cI, 6, .inl ((X.1 0).2.2.2 0))),
  (A 0 2, .inl (cI, 6, .inl ((X.1 0).2.2.2 1))),
  (A 0 3, .inl (cI, 6, .inl ((X.1 0).2.2.2 2))),
  (A 0 4, .inl (cI, 16, .inl ((X.1 0).2.2.2 3))),
  (A 0 5, .inl (cI, 16, .inl ((X.1 0).2.2.2 4))),
  (A 0 6, .inl (cI, 16, .inl ((X.1 0).2.2.2 5))),
  (A 0 7, .inl (cI, 16, .inl ((X.1 0).2.2.2 6))),
  (A 0 8, .inl (cI, 16, .inl ((X.1 0).2.2.2 7))),
  (A 1 0, .inr (2, [.ref (A 1 1), .ref (A 1 2), .ref (A 1 3), .ref (A 1 4), .ref (A 1 5), .ref (A 1 6), .ref (A 1 7), .ref (A 1 8), .int (nI (X.1 1).1), .int (X.1 1).2.1, .int (X.1 1).2.2.1])),
  (A 1 1, .inl (cI, 6, .inl ((X.1 1).2.2.2 0))),
  (A 1 2, .inl (cI, 6, .inl ((X.1 1).2.2.2 1))),
  (A 1 3, .inl (cI, 6, .inl ((X.1 1).2.2.2 2))),
  (A 1 4, .inl (cI, 16, .inl ((X.1 1).2.2.2 3))),
  (A 1 5, .inl (cI, 16, .inl ((X.1 1).2.2.2 4))),
  (A 1 6, .inl (cI, 16, .inl ((X.1 1).2.2.2 5))),
  (A 1 7, .inl (cI, 16, .inl ((X.1 1).2.2.2 6))),
  (A 1 8, .inl (cI, 16, .inl ((X.1 1).2.2.2 7))),
  (A 2 0, .inr (2, [.ref (A 2 1), .ref (A 2 2), .ref (A 2 3), .ref (A 2 4), .ref (A 2 5), .ref (A 2 6), .ref (A 2 7), .ref (A 2 8), .int (nI (X.1 2).1), .int (X.1 2).2.1, .int (X.1 2).2.2.1])),
  (A 2 1, .inl (cI, 6, .inl ((X.1 2).2.2.2 0))),
  (A 2 2, .inl (cI, 6, .inl ((X.1 2).2.2.2 1))),
  (A 2 3, .inl (cI, 6, .inl ((X.1 2).2.2.2 2))),
  (A 2 4, .inl (cI, 16, .inl ((X.1 2).2.2.2 3))),
  (A 2 5, .inl (cI, 16, .inl ((X.1 2).2.2.2 4))),
  (A 2 6, .inl (cI, 16, .inl ((X.1 2).2.2.2 5))),
  (A 2 7, .inl (cI, 16, .inl ((X.1 2).2.2.2 6))),
  (A 2 8, .inl (cI, 16, .inl ((X.1 2).2.2.2 7))),
  (A 3 0, .inr (2, [.ref (A 3 1), .ref (A 3 2), .ref (A 3 3), .ref (A 3 4), .ref (A 3 5), .ref (A 3 6), .ref (A 3 7), .ref (A 3 8), .int (nI (X.1 3).1), .int (X.1 3).2.1, .int (X.1 3).2.2.1])),
  (A 3 1, .inl (cI, 6, .inl ((X.1 3).2.2.2 0))),
  (A 3 2, .inl (cI, 6, .inl ((X.1 3).2.2.2 1))),
  (A 3 3, .inl (cI, 6, .inl ((X.1 3).2.2.2 2))),
  (A 3 4, .inl (cI, 16, .inl ((X.1 3).2.2.2 3))),
  (A 3 5, .inl (cI, 16, .inl ((X.1 3).2.2.2 4))),
  (A 3 6, .inl (cI, 16, .inl ((X.1 3).2.2.2 5))),
  (A 3 7, .inl (cI, 16, .inl ((X.1 3).2.2.2 6))),
  (A 3 8, .inl (cI, 16, .inl ((X.1 3).2.2.2 7))),
  (A 4 0, .inr (2, [.ref (A 4 1), .ref (A 4 2), .ref (A 4 3), .ref (A 4 4), .ref (A 4 5), .ref (A 4 6), .ref (A 4 7), .ref (A 4 8), .int (nI (X.1 4).1), .int (X.1 4).2.1, .int (X.1 4).2.2.1])),
  (A 4 1, .inl (cI, 6, .inl ((X.1 4).2.2.2 0))),
  (A 4 2, .inl (cI, 6, .inl ((X.1 4).2.2.2 1))),
  (A 4 3, .inl (cI, 6, .inl ((X.1 4).2.2.2 2))),
  (A 4 4, .inl (cI, 16, .inl ((X.1 4).2.2.2 3))),
  (A 4 5, .inl (cI, 16, .inl ((X.1 4).2.2.2 4))),
  (A 4 6, .inl (cI, 16, .inl ((X.1 4).2.2.2 5))),
  (A 4 7, .inl (cI, 16, .inl ((X.1 4).2.2.2 6))),
  (A 4 8, .inl (cI, 16, .inl ((X.1 4).2.2.2 7))),
  (A 5 0, .inr (2, [.ref (A 5 1), .ref (A 5 2), .ref (A 5 3), .ref (A 5 4), .ref (A 5 5), .ref (A 5 6), .ref (A 5 7), .ref (A 5 8), .int (nI (X.1 5).1), .int (X.1 5).2.1, .int (X.1 5).2.2.1])),
  (A 5 1, .inl (cI, 6, .inl ((X.1 5).2.2.2 0))),
  (A 5 2, .inl (cI, 6, .inl ((X.1 5).2.2.2 1))),
  (A 5 3, .inl (cI, 6, .inl ((X.1 5).2.2.2 2))),
  (A 5 4, .inl (cI, 16, .inl ((X.1 5).2.2.2 3))),
  (A 5 5, .inl (cI, 16, .inl ((X.1 5).2.2.2 4))),
  (A 5 6, .inl (cI, 16, .inl ((X.1 5).2.2.2 5))),
  (A 5 7, .inl (cI, 16, .inl ((X.1 5).2.2.2 6))),
  (A 5 8, .inl (cI, 16, .inl ((X.1 5).2.2.2 7))),
  (a 8, .inr (4, [.int M.1, .ref (a 9), .ref (a 10), .ref (a 11), .int (nI M.2.1), .ref (a 12), .int (nI M.2.2.1), .int M.2.2.2.1, .int (bI M.2.2.2.2.1), .ref (a 13), .int M.2.2.2.2.2.1, .int M.2.2.2.2.2.2.1.1, .int M.2.2.2.2.2.2.1.2.1, .int M.2.2.2.2.2.2.1.2.2.1, .int (bI M.2.2.2.2.2.2.1.2.2.2), .long M.2.2.2.2.2.2.2.1])),
  (a 9, .inl (cI, 96, .inl (M.2.2.2.2.2.2.2.2 0))),
  (a 10, .inl (cI, 96, .inl (M.2.2.2.2.2.2.2.2 1))),
  (a 11, .inl (cI, 576, .inl (M.2.2.2.2.2.2.2.2 2))),
  (a 12, .inl (cI, 60, .inl (M.2.2.2.2.2.2.2.2 3))),
  (a 13, .inl (cI, 48, .inl (M.2.2.2.2.2.2.2.2 4))),
  (a 14, .inl (cL, 1, .inr (.inl ou)))]
abbrev tyL (cI cV cW cL : ClassId) : List (ClassId × FieldType) := [(cI, .int), (cV, .object "VaultShelves$Vault"), (cW, .object "VaultShelves$Word"), (cL, .long)]
def NC3 (U : State) : Prop := va_Nc eA eI U ∧ va_Nc eS eI U ∧ va_Nc eS eA U
theorem NC3.moved {u U : State} (hvm : u.vm.Alike U.vm) (h : NC3 u) : NC3 U := ⟨va_Nc.moved hvm h.1, va_Nc.moved hvm h.2.1, va_Nc.moved hvm h.2.2⟩
abbrev pL (sa : Nat → Nat) (wa sw : Nat) (ad aK aV : Nat → Nat) (D : va_G) (tys : List (ClassId × FieldType)) (sz : Nat) (av : List Value) (ws : va_W) : Array Value → State → Prop := va_Pc av (fun U => U.heap.size = sz ∧ va_P D vwCl ws U.heap ∧ va_K D vwCl tys U ∧ va_D (fun _ => True) ws ∧ IMM wa sw ad aK aV (va_A ws sz) U U.heap ∧ va_Nw nwW U ∧ XIM sa (va_A ws sz) U U.heap ∧ NC3 U)
variable {sa : Nat → Nat} {wa sw : Nat} {ad aK aV : Nat → Nat} {D : va_G} {tys : List (ClassId × FieldType)} {s : State} {H : Heap} {C : String} {b : Addr} {As : List Value} {ws ws' : va_W}
theorem pL_bl {sz : Nat} {av : List Value} : FrameBlind (pL sa wa sw ad aK aV D tys sz av ws) := fun a U g mk q => ⟨q.1, q.2.1, q.2.2.1, va_K.moved (u := U) (U := U.calling g mk a) (Vm.Alike.refl U.vm) q.2.2.2.1, q.2.2.2.2.1, IMM.moved (u := U) (U := U.calling g mk a) (Vm.Alike.refl U.vm) q.2.2.2.2.2.1, va_Nw.same rfl (u := U) (U := U.calling g mk a) rfl q.2.2.2.2.2.2.1, XIM.same (u := U) (U := U.calling g mk a) rfl q.2.2.2.2.2.2.2.1, NC3.moved (u := U) (U := U.calling g mk a) (Vm.Alike.refl U.vm) q.2.2.2.2.2.2.2.2⟩
theorem pL_V {A : Nat → Prop} (hK : va_K D vwCl tys s) (hI : IMM wa sw ad aK aV (va_A ws' H.size) s H) (hN : va_Nw nwW s) (hX : XIM sa (va_A ws' H.size) s H) (hC3 : NC3 s) (hPc : va_P D vwCl ws' H) (hDc : va_D A ws') (q0 ci : Nat) {q : vw_C} {fs : List Value} (hc : vwCl[ci]? = some q) (hC : q.1 = C) (he : ws'[q0]? = some (b, .inr (ci, fs))) : PreV s H C b (pL sa wa sw ad aK aV D tys H.size (.ref b :: As) ws') As :=
  ⟨pL_bl, hC ▸ va_recv hK hPc hc he, fun U hU hW => ⟨rfl, by rw [hU], by rw [hU]; exact hPc, va_K.moved hW.alike hK, hDc.weaken (fun _ _ _ _ => trivial), by rw [hU]; exact IMM.moved hW.alike hI, va_Nw.warmF hW hN, by rw [hU]; exact hX.warm hW, NC3.moved hW.alike hC3⟩⟩
theorem pL_S {A : Nat → Prop} (hK : va_K D vwCl tys s) (hI : IMM wa sw ad aK aV (va_A ws' H.size) s H) (hN : va_Nw nwW s) (hX : XIM sa (va_A ws' H.size) s H) (hC3 : NC3 s) (hPc : va_P D vwCl ws' H) (hDc : va_D A ws') : PreS s H (pL sa wa sw ad aK aV D tys H.size As ws') As :=
  ⟨pL_bl, fun U hU hW => ⟨rfl, by rw [hU], by rw [hU]; exact hPc, va_K.moved hW.alike hK, hDc.weaken (fun _ _ _ _ => trivial), by rw [hU]; exact IMM.moved hW.alike hI, va_Nw.warmF hW hN, by rw [hU]; exact hX.warm hW, NC3.moved hW.alike hC3⟩⟩
end LWORLD
section FRAMES
abbrev qL (D : va_G) (A : Nat → Prop) (ws : va_W) (t : State) : Prop := va_P D vwCl ws t.heap ∧ va_D A ws
theorem vx_mono {l : Launch} {y : MethodName} {ws : List Cond} {rm : Room} {Pc Pc2 : Array Value → State → Prop} {Qc Qc2 : Array Value → State → Outcome → State → Prop} {XC XC2 : String → State → State → Prop} {mc ms : Nat} {free free2 : Addr → Prop} (hM : vx_Met l y ws rm Pc Qc XC mc ms free) (hp : ∀ a U, Pc2 a U → Pc a U) (hq : ∀ a st o t, Pc2 a st → Qc a st o t → Qc2 a st o t) (hx : ∀ a E st t, Pc2 a st → XC E st t → XC2 E st t) (hf : ∀ q, free q → free2 q) : vx_Met l y ws rm Pc2 Qc2 XC2 mc ms free2 := by
  intro p e ha hc hk s m args below h1 h2 h3 h4
  obtain ⟨n, o, g1, g2, g3, g4⟩ := hM p e ha hc hk s m args below h1 h2 (hp _ _ h3) trivial
  refine ⟨n, o, g1, g2, g3, ?_⟩
  rcases g4 with ⟨q1, L, q2, q3⟩ | ⟨q, e1, E, ce, L, x1, x2, x3, x4, x5, x6, x7⟩
  · exact Or.inl ⟨hq _ _ _ _ h3 q1, L, q2, fun z hz => hf _ (q3 z hz)⟩
  · exact Or.inr ⟨q, e1, E, ce, L, hx _ _ _ _ h3 x1, x2, x3, x4, x5, x6, fun z hz => hf _ (x7 z hz)⟩
theorem met_mono {l : Launch} {y : MethodName} {ws : List Cond} {rm : Room} {Pc Pc2 : Array Value → State → Prop} {Qc Qc2 : Array Value → State → Outcome → State → Prop} {mc ms : Nat} {free free2 : Addr → Prop} (hM : Met l y ws rm Pc Qc mc ms free) (hp : ∀ a U, Pc2 a U → Pc a U) (hq : ∀ a st o t, Pc2 a st → Qc a st o t → Qc2 a st o t) (hf : ∀ q, free q → free2 q) : Met l y ws rm Pc2 Qc2 mc ms free2 := by
  intro p e ha hc hk s m args below h1 h2 h3 h4
  obtain ⟨n, o, g1, g2, g3, q1, L, q2, q3⟩ := hM p e ha hc hk s m args below h1 h2 (hp _ _ h3) trivial
  exact ⟨n, o, g1, g2, g3, hq _ _ _ _ h3 q1, L, q2, fun z hz => hf _ (q3 z hz)⟩
theorem mp_at {W wc : va_W} {isC : List Nat} (hC : isC.map (fun i => W[i]?) = wc.map some) {k : Nat} {q : Nat × va_E} (hq : wc[k]? = some q) : ∃ i, isC[k]? = some i ∧ W[i]? = some q := by
  have h1 : (isC.map (fun i => W[i]?))[k]? = some (some q) := by rw [hC, List.getElem?_map, hq]; rfl
  rw [List.getElem?_map] at h1
  cases hi : isC[k]? with
  | none => rw [hi] at h1; cases h1
  | some i => rw [hi] at h1; exact ⟨i, rfl, Option.some.inj h1⟩
theorem mp_P {D : va_G} {W wc : va_W} {H : Heap} {isC : List Nat} (hC : isC.map (fun i => W[i]?) = wc.map some) (hP : va_P D vwCl W H) : va_P D vwCl wc H := fun k q hq => by
  obtain ⟨i, -, h⟩ := mp_at hC hq
  exact hP i q h
theorem mp_A {W wc : va_W} {sz : Nat} {isC : List Nat} (hC : isC.map (fun i => W[i]?) = wc.map some) : ∀ q, va_A wc sz q → va_A W sz q := by
  intro q hq
  rcases hq with ⟨k, e, h⟩ | h
  · obtain ⟨i, -, h2⟩ := mp_at hC h
    exact Or.inl ⟨i, e, h2⟩
  · exact Or.inr h
def fS (w1 W : va_W) : Bool × Nat → Option (Nat × va_E)
  | (true, j) => w1[j]?
  | (false, i) => W[i]?
def fN : Bool × Nat → Nat
  | (true, j) => 2 * j + 1
  | (false, i) => 2 * i
def fO (isC : List Nat) : Bool × Nat → Bool
  | (true, _) => true
  | (false, i) => !isC.contains i
theorem fN_inj {x y : Bool × Nat} (h : fN x = fN y) : x = y := by
  obtain ⟨bx, ix⟩ := x
  obtain ⟨by', iy⟩ := y
  cases bx <;> cases by' <;> simp only [fN] at h
  · rw [show ix = iy by omega]
  · omega
  · omega
  · rw [show ix = iy by omega]
/-- the frame of a whole contract: the cells that it doesn't name stay -/
theorem FRB {D : va_G} {tys : List (ClassId × FieldType)} {W wc w1 W1 : va_W} {sz : Nat} {st t : State} (hsz : st.heap.size = sz) (hP : va_P D vwCl W st.heap) (hD : va_D (fun _ => True) W) (isC : List Nat) (hC : isC.map (fun i => W[i]?) = wc.map some) (src : List (Bool × Nat)) (hs : src.map (fS w1 W) = W1.map some) (hn : va_nd (src.map fN) = true) (hdis : src.all (fO isC) = true) (hq : qB D tys (va_A wc sz) w1 t) (hF : va_F (va_A wc sz) st t) : qL D (va_A W sz) W1 t ∧ va_F (va_A W sz) st t := by
  have hFc := mp_A (sz := sz) hC
  have at1 : ∀ (k : Nat) (q : Nat × va_E), W1[k]? = some q → ∃ x, src[k]? = some x ∧ fS w1 W x = some q := by
    intro k q hk
    have h1 : (src.map (fS w1 W))[k]? = some (some q) := by rw [hs, List.getElem?_map, hk]; rfl
    rw [List.getElem?_map] at h1
    cases hi : src[k]? with
    | none => rw [hi] at h1; cases h1
    | some i => rw [hi] at h1; exact ⟨i, rfl, Option.some.inj h1⟩
  have old : ∀ (k i : Nat) (q : Nat × va_E), src[k]? = some (false, i) → W[i]? = some q → ¬ va_A wc sz q.1 := by
    intro k i q hk hi hA
    have hl := (hP i q hi).lt
    rcases hA with ⟨k2, e, h⟩ | h
    · obtain ⟨j, hj, h2⟩ := mp_at hC h
      have := hD.1 i j q (q.1, e) hi h2 rfl
      subst this
      have h3 := List.all_eq_true.mp hdis _ (List.mem_of_getElem? hk)
      simp only [fO, Bool.not_eq_true', List.contains_eq_mem, decide_eq_false_iff_not] at h3
      exact h3 (List.mem_of_getElem? hj)
    · omega
  have apart : ∀ (i j : Nat) (x : Bool × Nat), src[i]? = some x → src[j]? = some x → i = j := by
    intro i j x hi hj
    refine va_nd_inj _ hn i j (fN x) ?_ ?_
    · rw [List.getElem?_map, hi]; rfl
    · rw [List.getElem?_map, hj]; rfl
  refine ⟨⟨fun k q hk => ?_, fun i j p q hi hj hpq => ?_, fun k q hk => ?_⟩, hF.1, fun q h1 h2 => hF.2 q h1 (fun h => h2 (hFc q h))⟩
  · obtain ⟨⟨b, i⟩, h1, h2⟩ := at1 k q hk
    cases b with
    | true => exact hq.1 i q h2
    | false => exact (hP i q h2).kept (hF.2 q.1 (hP i q h2).lt (old k i q h1 h2))
  · obtain ⟨⟨b, x⟩, h1, h2⟩ := at1 i p hi
    obtain ⟨⟨b', y⟩, h3, h4⟩ := at1 j q hj
    cases b with
    | true =>
      cases b' with
      | true =>
        have := hq.2.2.1 x y p q h2 h4 hpq
        subst this
        exact apart i j _ h1 h3
      | false =>
        have h5 := hq.2.2.2 x p h2
        rw [hpq] at h5
        exact absurd h5 (old j y q h3 h4)
    | false =>
      cases b' with
      | true =>
        have h5 := hq.2.2.2 y q h4
        rw [← hpq] at h5
        exact absurd h5 (old i x p h1 h2)
      | false =>
        have := hD.1 x y p q h2 h4 hpq
        subst this
        exact apart i j _ h1 h3
  · obtain ⟨⟨b, i⟩, h1, h2⟩ := at1 k q hk
    cases b with
    | true => exact hFc _ (hq.2.2.2 i q h2)
    | false => exact va_A.in h2
variable {l : Launch} {y : MethodName} {wsY : List Cond} {rm : Room} {sa : Nat → Nat} {wa sw : Nat} {ad aK aV : Nat → Nat} {D : va_G} {cI cV cW cL : ClassId} {sz : Nat} {av : List Value} {W wc w1 wX W1 WX : va_W} {mc ms : Nat}
theorem pL_x {a : Array Value} {U : State} (h : pL sa wa sw ad aK aV D (tyL cI cV cW cL) sz av W a U) (isC : List Nat) (hC : isC.map (fun i => W[i]?) = wc.map some) (hn : va_nd isC = true) : pWx sa wa sw ad aK aV D (tyS cI cV cW) sz av wc a U :=
  ⟨h.1, h.2.1, mp_P hC h.2.2.1, h.2.2.2.1.sub [0, 1, 2] rfl, h.2.2.2.2.1.sub isC hn hC, h.2.2.2.2.2.1.narrow (mp_A hC), h.2.2.2.2.2.2.1, h.2.2.2.2.2.2.2.1.at va_S.rf (mp_A hC)⟩
/-- a contract that may throw, over the whole world -/
theorem FRx {post : Int32 → Unit → Prop} {bx : String → Prop} (hM : vx_Met l y wsY rm (pWx sa wa sw ad aK aV D (tyS cI cV cW) sz av wc) (va_Qi post (fun (_ : Unit) t => qB D (tyS cI cV cW) (va_A wc sz) w1 t) (va_A wc sz)) (vx_X (fun (_ : Unit) => True) (fun E _ t => bx E ∧ qB D (tyS cI cV cW) (va_A wc sz) wX t) (va_A wc sz)) mc ms (va_A wc sz))
    (isC : List Nat) (hC : isC.map (fun i => W[i]?) = wc.map some) (hn : va_nd isC = true) (src : List (Bool × Nat)) (hs : src.map (fS w1 W) = W1.map some) (hns : va_nd (src.map fN) = true) (hd : src.all (fO isC) = true) (srX : List (Bool × Nat)) (hsX : srX.map (fS wX W) = WX.map some) (hnX : va_nd (srX.map fN) = true) (hdX : srX.all (fO isC) = true) :
    vx_Met l y wsY rm (pL sa wa sw ad aK aV D (tyL cI cV cW cL) sz av W) (va_Qi post (fun (_ : Unit) t => qL D (va_A W sz) W1 t) (va_A W sz)) (vx_X (fun (_ : Unit) => True) (fun E _ t => bx E ∧ qL D (va_A W sz) WX t) (va_A W sz)) mc ms (va_A W sz) := by
  refine vx_mono hM (fun a U h => pL_x h isC hC hn) (fun a st o t h q => ?_) (fun a E st t h q => ?_) (mp_A hC)
  · obtain ⟨⟨r, u, e1, e2, e3⟩, hF⟩ := q
    obtain ⟨g1, g2⟩ := FRB h.2.1 h.2.2.1 h.2.2.2.2.1 isC hC src hs hns hd e3 hF
    exact ⟨⟨r, u, e1, e2, g1⟩, g2⟩
  · obtain ⟨u, e1, ⟨e2, e3⟩, hF⟩ := q
    obtain ⟨g1, g2⟩ := FRB h.2.1 h.2.2.1 h.2.2.2.2.1 isC hC srX hsX hnX hdX e3 hF
    exact ⟨u, e1, ⟨e2, g1⟩, g2⟩
/-- what writes, over the whole world -/
theorem FRw {post : Int32 → Unit → Prop} (hM : Met l y wsY rm (pW D (tyS cI cV cW) sz av wc) (va_Qi post (fun (_ : Unit) t => qB D (tyS cI cV cW) (va_A wc sz) w1 t) (va_A wc sz)) mc ms (va_A wc sz))
    (isC : List Nat) (hC : isC.map (fun i => W[i]?) = wc.map some) (hn : va_nd isC = true) (src : List (Bool × Nat)) (hs : src.map (fS w1 W) = W1.map some) (hns : va_nd (src.map fN) = true) (hd : src.all (fO isC) = true) :
    Met l y wsY rm (pL sa wa sw ad aK aV D (tyL cI cV cW cL) sz av W) (va_Qi post (fun (_ : Unit) t => qL D (va_A W sz) W1 t) (va_A W sz)) mc ms (va_A W sz) := by
  refine met_mono hM (fun a U h => by have := pL_x h isC hC hn; exact ⟨this.1, this.2.1, this.2.2.1, this.2.2.2.1, this.2.2.2.2.1⟩) (fun a st o t h q => ?_) (mp_A hC)
  obtain ⟨⟨r, u, e1, e2, e3⟩, hF⟩ := q
  obtain ⟨g1, g2⟩ := FRB h.2.1 h.2.2.1 h.2.2.2.2.1 isC hC src hs hns hd e3 hF
  exact ⟨⟨r, u, e1, e2, g1⟩, g2⟩
theorem FRi {post : Int32 → Unit → Prop} (hM : Met l y wsY rm (pWi wa sw ad aK aV D (tyS cI cV cW) sz av wc) (va_Qi post (fun (_ : Unit) t => qB D (tyS cI cV cW) (va_A wc sz) w1 t) (va_A wc sz)) mc ms (va_A wc sz))
    (isC : List Nat) (hC : isC.map (fun i => W[i]?) = wc.map some) (hn : va_nd isC = true) (src : List (Bool × Nat)) (hs : src.map (fS w1 W) = W1.map some) (hns : va_nd (src.map fN) = true) (hd : src.all (fO isC) = true) :
    Met l y wsY rm (pL sa wa sw ad aK aV D (tyL cI cV cW cL) sz av W) (va_Qi post (fun (_ : Unit) t => qL D (va_A W sz) W1 t) (va_A W sz)) mc ms (va_A W sz) := by
  refine met_mono hM (fun a U h => by have := pL_x h isC hC hn; exact ⟨this.1, this.2.1, this.2.2.1, this.2.2.2.1, this.2.2.2.2.1, this.2.2.2.2.2.1, this.2.2.2.2.2.2.1⟩) (fun a st o t h q => ?_) (mp_A hC)
  obtain ⟨⟨r, u, e1, e2, e3⟩, hF⟩ := q
  obtain ⟨g1, g2⟩ := FRB h.2.1 h.2.2.1 h.2.2.2.2.1 isC hC src hs hns hd e3 hF
  exact ⟨⟨r, u, e1, e2, g1⟩, g2⟩
theorem FRl {post : Int64 → Unit → Prop} (hM : Met l y wsY rm (pW D (tyS cI cV cW) sz av wc) (va_Ql post (fun (_ : Unit) t => qB D (tyS cI cV cW) (va_A wc sz) w1 t) (va_A wc sz)) mc ms (va_A wc sz))
    (isC : List Nat) (hC : isC.map (fun i => W[i]?) = wc.map some) (hn : va_nd isC = true) (src : List (Bool × Nat)) (hs : src.map (fS w1 W) = W1.map some) (hns : va_nd (src.map fN) = true) (hd : src.all (fO isC) = true) :
    Met l y wsY rm (pL sa wa sw ad aK aV D (tyL cI cV cW cL) sz av W) (va_Ql post (fun (_ : Unit) t => qL D (va_A W sz) W1 t) (va_A W sz)) mc ms (va_A W sz) := by
  refine met_mono hM (fun a U h => by have := pL_x h isC hC hn; exact ⟨this.1, this.2.1, this.2.2.1, this.2.2.2.1, this.2.2.2.2.1⟩) (fun a st o t h q => ?_) (mp_A hC)
  obtain ⟨⟨r, u, e1, e2, e3⟩, hF⟩ := q
  obtain ⟨g1, g2⟩ := FRB h.2.1 h.2.2.1 h.2.2.2.2.1 isC hC src hs hns hd e3 hF
  exact ⟨⟨r, u, e1, e2, g1⟩, g2⟩
theorem FRd {post : UInt64 → Unit → Prop} (hM : Met l y wsY rm (pW D (tyS cI cV cW) sz av wc) (va_Qd post (fun (_ : Unit) t => qB D (tyS cI cV cW) (va_A wc sz) w1 t) (va_A wc sz)) mc ms (va_A wc sz))
    (isC : List Nat) (hC : isC.map (fun i => W[i]?) = wc.map some) (hn : va_nd isC = true) (src : List (Bool × Nat)) (hs : src.map (fS w1 W) = W1.map some) (hns : va_nd (src.map fN) = true) (hd : src.all (fO isC) = true) :
    Met l y wsY rm (pL sa wa sw ad aK aV D (tyL cI cV cW cL) sz av W) (va_Qd post (fun (_ : Unit) t => qL D (va_A W sz) W1 t) (va_A W sz)) mc ms (va_A W sz) := by
  refine met_mono hM (fun a U h => by have := pL_x h isC hC hn; exact ⟨this.1, this.2.1, this.2.2.1, this.2.2.2.1, this.2.2.2.2.1⟩) (fun a st o t h q => ?_) (mp_A hC)
  obtain ⟨⟨r, u, e1, e2, e3⟩, hF⟩ := q
  obtain ⟨g1, g2⟩ := FRB h.2.1 h.2.2.1 h.2.2.2.2.1 isC hC src hs hns hd e3 hF
  exact ⟨⟨r, u, e1, e2, g1⟩, g2⟩
theorem qL_same {a : Array Value} {U t : State} (h : pL sa wa sw ad aK aV D (tyL cI cV cW cL) sz av W a U) (hh : t.heap = U.heap) : qL D (va_A W sz) W t ∧ va_F (va_A W sz) U t :=
  ⟨⟨by rw [hh]; exact h.2.2.1, h.2.2.2.2.1.self⟩, Nat.le_of_eq (by rw [hh]), fun _ _ _ => by rw [hh]⟩
theorem FRr {post : Int32 → Prop} (hM : Met l y wsY rm (pR D (tyS cI cV cW) av wc) (vp_Si post) mc ms (fun _ => False)) (isC : List Nat) (hC : isC.map (fun i => W[i]?) = wc.map some) (hn : va_nd isC = true) :
    Met l y wsY rm (pL sa wa sw ad aK aV D (tyL cI cV cW cL) sz av W) (va_Qi (fun r (_ : Unit) => post r) (fun (_ : Unit) t => qL D (va_A W sz) W t) (va_A W sz)) mc ms (va_A W sz) := by
  refine met_mono hM (fun a U h => by have := pL_x h isC hC hn; exact ⟨this.1, this.2.2.1, this.2.2.2.1⟩) (fun a st o t h q => ?_) (fun _ h => h.elim)
  obtain ⟨r, e1, e2, e3⟩ := q
  have := qL_same h e3
  exact ⟨⟨r, (), e1, e2, this.1⟩, this.2⟩
theorem FRrd {post : UInt64 → Prop} (hM : Met l y wsY rm (pR D (tyS cI cV cW) av wc) (vp_Sd post) mc ms (fun _ => False)) (isC : List Nat) (hC : isC.map (fun i => W[i]?) = wc.map some) (hn : va_nd isC = true) :
    Met l y wsY rm (pL sa wa sw ad aK aV D (tyL cI cV cW cL) sz av W) (va_Qd (fun r (_ : Unit) => post r) (fun (_ : Unit) t => qL D (va_A W sz) W t) (va_A W sz)) mc ms (va_A W sz) := by
  refine met_mono hM (fun a U h => by have := pL_x h isC hC hn; exact ⟨this.1, this.2.2.1, this.2.2.2.1⟩) (fun a st o t h q => ?_) (fun _ h => h.elim)
  obtain ⟨r, e1, e2, e3⟩ := q
  have := qL_same h e3
  exact ⟨⟨r, (), e1, e2, this.1⟩, this.2⟩
end FRAMES
