def wLn : List Nat := [3, 4, 4, 5, 5]
def wBy : List (List Int32) := [[97, 100, 100], [99, 97, 108, 108], [108, 111, 115, 101], [109, 111, 110, 116, 104], [110, 105, 103, 104, 116]]
def wLe (i : Nat) : Int32 := ([1, 0, 0, -1, 1] : List Int32).getD i 0
def wMo (i : Nat) : Int32 := ([30, 15, 15, -1, 20] : List Int32).getD i 0
def wHb (i : Nat) : Bool := ([true, false, true, false, false] : List Bool).getD i false
/-- the words, their texts, the table of the switch: what no call changes, and what lies outside A -/
def IMM (wa sw : Nat) (ad aK aV : Nat → Nat) (A : Nat → Prop) (U : State) (H : Heap) : Prop :=
  va_Z "VaultShelves" "WORDS" "[LVaultShelves$Word;" (.ref wa) A U H ∧ va_T (.object "VaultShelves$Word") wa 5 (fun j => .ref (ad j)) A U H ∧
  (∀ i, i < 5 → va_O "VaultShelves$Word" (ad i) A U H ∧ va_OF "VaultShelves$Word" "letters" "Ljava/lang/String;" (.ref (aK i)) (ad i) A U H ∧ va_OF "VaultShelves$Word" "least" "I" (.int (wLe i)) (ad i) A U H ∧ va_OF "VaultShelves$Word" "most" "I" (.int (wMo i)) (ad i) A U H ∧ va_OF "VaultShelves$Word" "hasShelf" "Z" (.int (bI (wHb i))) (ad i) A U H ∧ va_OF "java/lang/Enum" "ordinal" "I" (.int (nI i)) (ad i) A U H) ∧
  vk_S 5 wLn wBy aK aV A U H ∧ va_Z "java/lang/String" "COMPACT_STRINGS" "Z" (.int 1) A U H ∧ va_Zq "jdk/internal/util/Preconditions" "SIOOBE_FORMATTER" "Ljava/util/function/BiFunction;" A U H ∧
  va_Z "VaultShelves$1" "$SwitchMap$VaultShelves$Word" "[I" (.ref sw) A U H ∧ va_T .int sw 5 (fun j => .int (nI (j + 1))) A U H
theorem IMM.moved {wa sw : Nat} {ad aK aV : Nat → Nat} {A : Nat → Prop} {u U : State} {H : Heap} (hvm : u.vm.Alike U.vm) (h : IMM wa sw ad aK aV A u H) : IMM wa sw ad aK aV A U H :=
  ⟨va_Z.moved hvm h.1, va_T.moved hvm h.2.1, fun i hi => let q := h.2.2.1 i hi; ⟨va_O.moved hvm q.1, va_OF.moved hvm q.2.1, va_OF.moved hvm q.2.2.1, va_OF.moved hvm q.2.2.2.1, va_OF.moved hvm q.2.2.2.2.1, va_OF.moved hvm q.2.2.2.2.2⟩, vk_S.moved hvm h.2.2.2.1, va_Z.moved hvm h.2.2.2.2.1, va_Zq.moved hvm h.2.2.2.2.2.1, va_Z.moved hvm h.2.2.2.2.2.2.1, va_T.moved hvm h.2.2.2.2.2.2.2⟩
theorem IMM.kept {wa sw : Nat} {ad aK aV : Nat → Nat} {A : Nat → Prop} {U : State} {H H1 : Heap} (h : IMM wa sw ad aK aV A U H) (hq : ∀ a : Nat, a < H.size → ¬ A a → H1[a]? = H[a]?) : IMM wa sw ad aK aV A U H1 :=
  ⟨h.1.kept hq, h.2.1.kept hq, fun i hi => let q := h.2.2.1 i hi; ⟨q.1.kept hq, q.2.1.kept hq, q.2.2.1.kept hq, q.2.2.2.1.kept hq, q.2.2.2.2.1.kept hq, q.2.2.2.2.2.kept hq⟩, h.2.2.2.1.kept hq, h.2.2.2.2.1.kept hq, h.2.2.2.2.2.1.kept hq, h.2.2.2.2.2.2.1.kept hq, h.2.2.2.2.2.2.2.kept hq⟩
theorem IMM.narrow {wa sw : Nat} {ad aK aV : Nat → Nat} {A B : Nat → Prop} {U : State} {H : Heap} (h : IMM wa sw ad aK aV A U H) (hAB : ∀ q, B q → A q) : IMM wa sw ad aK aV B U H :=
  ⟨h.1.narrow hAB, h.2.1.narrow hAB, fun i hi => let q := h.2.2.1 i hi; ⟨q.1.narrow hAB, q.2.1.narrow hAB, q.2.2.1.narrow hAB, q.2.2.2.1.narrow hAB, q.2.2.2.2.1.narrow hAB, q.2.2.2.2.2.narrow hAB⟩, h.2.2.2.1.narrow hAB, h.2.2.2.2.1.narrow hAB, h.2.2.2.2.2.1.narrow hAB, h.2.2.2.2.2.2.1.narrow hAB, h.2.2.2.2.2.2.2.narrow hAB⟩
/-- a nested class reads its outer class's private WORDS -/
abbrev nwW : Cond := .fieldLinkNest "VaultShelves$OrderText" 75 "VaultShelves" "WORDS" "[LVaultShelves$Word;" "VaultShelves"
abbrev noA : Nat → Prop := fun _ => False
section IMM2
abbrev pRi (wa sw : Nat) (ad aK aV : Nat → Nat) (D : va_G) (tys : List (ClassId × FieldType)) (av : List Value) (ws : va_W) : Array Value → State → Prop := va_Pc av (fun U => va_P D vwCl ws U.heap ∧ va_K D vwCl tys U ∧ IMM wa sw ad aK aV noA U U.heap ∧ va_Nw nwW U)
abbrev pWi (wa sw : Nat) (ad aK aV : Nat → Nat) (D : va_G) (tys : List (ClassId × FieldType)) (sz : Nat) (av : List Value) (ws : va_W) : Array Value → State → Prop := va_Pc av (fun U => U.heap.size = sz ∧ va_P D vwCl ws U.heap ∧ va_K D vwCl tys U ∧ va_D (fun _ => True) ws ∧ IMM wa sw ad aK aV (va_A ws sz) U U.heap ∧ va_Nw nwW U)
variable {wa sw : Nat} {ad aK aV : Nat → Nat} {D : va_G} {tys : List (ClassId × FieldType)} {s : State} {H : Heap} {C : String} {b : Addr} {As : List Value} {ws ws' : va_W}
theorem pRi_bl {av : List Value} : FrameBlind (pRi wa sw ad aK aV D tys av ws) := fun a U g mk q => ⟨q.1, q.2.1, va_K.moved (u := U) (U := U.calling g mk a) (Vm.Alike.refl U.vm) q.2.2.1, IMM.moved (u := U) (U := U.calling g mk a) (Vm.Alike.refl U.vm) q.2.2.2.1, va_Nw.same rfl (u := U) (U := U.calling g mk a) rfl q.2.2.2.2⟩
theorem pWi_bl {sz : Nat} {av : List Value} : FrameBlind (pWi wa sw ad aK aV D tys sz av ws) := fun a U g mk q => ⟨q.1, q.2.1, q.2.2.1, va_K.moved (u := U) (U := U.calling g mk a) (Vm.Alike.refl U.vm) q.2.2.2.1, q.2.2.2.2.1, IMM.moved (u := U) (U := U.calling g mk a) (Vm.Alike.refl U.vm) q.2.2.2.2.2.1, va_Nw.same rfl (u := U) (U := U.calling g mk a) rfl q.2.2.2.2.2.2⟩
theorem pRi_V (hK : va_K D vwCl tys s) (hP : va_P D vwCl ws H) (hI : IMM wa sw ad aK aV noA s H) (hN : va_Nw nwW s) (q0 ci : Nat) {q : vw_C} {fs : List Value} (hc : vwCl[ci]? = some q) (hC : q.1 = C) (he : ws[q0]? = some (b, .inr (ci, fs))) (is : List Nat) (hs : is.filterMap (fun i => ws[i]?) = ws') : PreV s H C b (pRi wa sw ad aK aV D tys (.ref b :: As) ws') As :=
  ⟨pRi_bl, hC ▸ va_recv hK hP hc he, fun U hU hW => ⟨rfl, by rw [hU]; exact hP.sub is hs, va_K.moved hW.alike hK, by rw [hU]; exact IMM.moved hW.alike hI, va_Nw.warmF hW hN⟩⟩
theorem pRi_O (hK : va_K D vwCl tys s) (hP : va_P D vwCl ws H) (hI : IMM wa sw ad aK aV noA s H) (hN : va_Nw nwW s) (hO : va_O C b noA s H) (is : List Nat) (hs : is.filterMap (fun i => ws[i]?) = ws') : PreV s H C b (pRi wa sw ad aK aV D tys (.ref b :: As) ws') As :=
  ⟨pRi_bl, by obtain ⟨cell, h1, h2, h3, -⟩ := hO; exact ⟨cell, h1, h2, h3⟩, fun U hU hW => ⟨rfl, by rw [hU]; exact hP.sub is hs, va_K.moved hW.alike hK, by rw [hU]; exact IMM.moved hW.alike hI, va_Nw.warmF hW hN⟩⟩
theorem pRi_S (hK : va_K D vwCl tys s) (hP : va_P D vwCl ws H) (hI : IMM wa sw ad aK aV noA s H) (hN : va_Nw nwW s) (is : List Nat) (hs : is.filterMap (fun i => ws[i]?) = ws') : PreS s H (pRi wa sw ad aK aV D tys As ws') As :=
  ⟨pRi_bl, fun U hU hW => ⟨rfl, by rw [hU]; exact hP.sub is hs, va_K.moved hW.alike hK, by rw [hU]; exact IMM.moved hW.alike hI, va_Nw.warmF hW hN⟩⟩
theorem pWi_V {A : Nat → Prop} (hK : va_K D vwCl tys s) (hP : va_P D vwCl ws H) (hI : IMM wa sw ad aK aV (va_A ws' H.size) s H) (hN : va_Nw nwW s) (hPc : va_P D vwCl ws' H) (hDc : va_D A ws') (q0 ci : Nat) {q : vw_C} {fs : List Value} (hc : vwCl[ci]? = some q) (hC : q.1 = C) (he : ws[q0]? = some (b, .inr (ci, fs))) : PreV s H C b (pWi wa sw ad aK aV D tys H.size (.ref b :: As) ws') As :=
  ⟨pWi_bl, hC ▸ va_recv hK hP hc he, fun U hU hW => ⟨rfl, by rw [hU], by rw [hU]; exact hPc, va_K.moved hW.alike hK, hDc.weaken (fun _ _ _ _ => trivial), by rw [hU]; exact IMM.moved hW.alike hI, va_Nw.warmF hW hN⟩⟩
theorem imR {A : Nat → Prop} {locs : List Loc} (hI : IMM wa sw ad aK aV A s s.heap) (hS : va_S A s.heap H locs) : IMM wa sw ad aK aV noA s H := (hI.kept hS.2.1).narrow (fun _ h => h.elim)
theorem imW {A : Nat → Prop} {locs : List Loc} (hI : IMM wa sw ad aK aV A s s.heap) (hS : va_S A s.heap H locs) (hF : ∀ q, va_A ws' H.size q → A q) : IMM wa sw ad aK aV (va_A ws' H.size) s H := (hI.kept hS.2.1).narrow hF
end IMM2
/-- the sign j of the word i -/
def wCh (i j : Nat) : Int32 := (wBy.getD i []).getD j 0
theorem wCh_and : ∀ i, i < 5 → ∀ j, j < wLn.getD i 0 → wCh i j &&& nI 255 = wCh i j ∧ ((wCh i j).toUInt32 % 65536).toInt32 = wCh i j := by decide +kernel
theorem wLn_le : ∀ i, i < 5 → wLn.getD i 0 ≤ 5 ∧ 1 ≤ wLn.getD i 0 := by decide +kernel
theorem wCh_char : ∀ i, i < 5 → ∀ j, j < wLn.getD i 0 → narrow .char (.int (wCh i j)) = .int (wCh i j) := by decide +kernel
