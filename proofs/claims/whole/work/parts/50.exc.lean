abbrev eI : String := "java/lang/IndexOutOfBoundsException"
abbrev eA : String := "java/lang/IllegalArgumentException"
abbrev eS : String := "java/lang/IllegalStateException"
abbrev eNs : List String := ["java/lang/RuntimeException", "java/lang/Exception"]
/-- the words of the three exceptions that aren't good ones -/
def nwE : List Cond := [.declares (Bundle.initS "java/lang/RuntimeException"), .declares (Bundle.initS "java/lang/Exception"), .declares (Bundle.initS Bundle.tN), .castable eI eI, .castable eA eA, .castable eS eS]
theorem nwE_I : ∀ w ∈ (vx_atS RX5 225 eI eNs).filter (fun w => !goodWord w), w ∈ nwE := by decide +kernel
theorem nwE_A : ∀ w ∈ (vx_atS RX5 45 eA eNs).filter (fun w => !goodWord w), w ∈ nwE := by decide +kernel
theorem nwE_S : ∀ w ∈ (vx_atS RX5 58 eS eNs).filter (fun w => !goodWord w), w ∈ nwE := by decide +kernel
theorem otE_I (ik : Nat) : ∀ w ∈ Cond.classLink RX5 ik eI :: Cond.initialized eI :: vx_atS RX5 225 eI eNs, vx_ot w = true := by
  intro w hw
  rcases List.mem_cons.mp hw with rfl | hw
  · rfl
  · exact (show ∀ w ∈ Cond.initialized eI :: vx_atS RX5 225 eI eNs, vx_ot w = true by decide +kernel) w hw
theorem otE_A (ik : Nat) : ∀ w ∈ Cond.classLink RX5 ik eA :: Cond.initialized eA :: vx_atS RX5 45 eA eNs, vx_ot w = true := by
  intro w hw
  rcases List.mem_cons.mp hw with rfl | hw
  · rfl
  · exact (show ∀ w ∈ Cond.initialized eA :: vx_atS RX5 45 eA eNs, vx_ot w = true by decide +kernel) w hw
theorem otE_S (ik : Nat) : ∀ w ∈ Cond.classLink RX5 ik eS :: Cond.initialized eS :: vx_atS RX5 58 eS eNs, vx_ot w = true := by
  intro w hw
  rcases List.mem_cons.mp hw with rfl | hw
  · rfl
  · exact (show ∀ w ∈ Cond.initialized eS :: vx_atS RX5 58 eS eNs, vx_ot w = true by decide +kernel) w hw
theorem fitE : Bundle.fit eI = true ∧ Bundle.fit eA = true ∧ Bundle.fit eS = true ∧ ∀ n ∈ eNs, Bundle.fit n = true := by decide +kernel
def EXW (U : State) : Prop := ∀ w ∈ nwE, va_Nw w U
theorem nwE_on : ∀ w ∈ nwE, w.onTables = true := by decide +kernel
theorem EXW.same {u U : State} (h : u.vm = U.vm) (hE : EXW u) : EXW U := fun w hw => va_Nw.same (nwE_on w hw) h (hE w hw)
theorem EXW.use {A : Array Value} {U : State} (hE : EXW U) : ∀ w ∈ nwE, w.before A U = true := fun w hw => va_Nw.use (nwE_on w hw) (hE w hw)
theorem nw_cast {a b : String} {s U : State} (hW : s.WarmedH U.vm) (h : va_Nw (.castable a b) s) : va_Nw (.castable a b) U := va_tabs rfl (rfl : (s.setVm U.vm).vm = U.vm) (by rw [Cond.castable_setVm hW.alike]; exact h)
theorem EXW.warm {s U : State} (hW : s.WarmedH U.vm) (hE : EXW s) : EXW U := by
  intro w hw
  have h := hE w hw
  simp only [nwE, List.mem_cons, List.not_mem_nil, or_false] at hw
  rcases hw with rfl | rfl | rfl | rfl | rfl | rfl
  · exact va_Nw.warmD hW h
  · exact va_Nw.warmD hW h
  · exact va_Nw.warmD hW h
  · exact nw_cast hW h
  · exact nw_cast hW h
  · exact nw_cast hW h
def txt : List (Nat × String) := [(113, "the shelf has no room for the record"), (162, "the code is not 33 to 126"), (167, "the buffer is full"), (182, "the buffer is not a complete order text"), (193, "no state is saved"), (223, "there is no such shelf"), (229, "there is no such record"), (231, "the width is not 1 to 30"), (233, "the steps are not 1 to 20"), (43, "the room is not 10 to 99"), (48, "the reach is not 1 to 99"), (56, "the records on the shelf need more room"), (79, "the vault or the shelf has no room for the record")]
def STR (sa : Nat → Nat) (U : State) : Prop := ∀ q ∈ txt, vk_R RX5 q.1 q.2 (sa q.1) U
theorem STR.same {sa : Nat → Nat} {u U : State} (h : U.vm = u.vm) (hE : STR sa u) : STR sa U := fun q hq => vk_R.same h (hE q hq)
theorem STR.warm {sa : Nat → Nat} {s U : State} (hW : s.WarmedH U.vm) (hE : STR sa s) : STR sa U := fun q hq => vk_R.warm hW (hE q hq)
def ZQS (A : Nat → Prop) (U : State) (H : Heap) : Prop := vx_Zq Bundle.tN "UNASSIGNED_STACK" Bundle.steD A U H ∧ vx_Zq Bundle.tN "SUPPRESSED_SENTINEL" Bundle.listD A U H
def XIM (sa : Nat → Nat) (A : Nat → Prop) (U : State) (H : Heap) : Prop := EXW U ∧ ZQS A U H ∧ STR sa U
theorem XIM.same {sa : Nat → Nat} {A : Nat → Prop} {u U : State} {H : Heap} (h : u.vm = U.vm) (x : XIM sa A u H) : XIM sa A U H := ⟨x.1.same h, ⟨x.2.1.1.moved (by rw [h]; exact Vm.Alike.refl U.vm), x.2.1.2.moved (by rw [h]; exact Vm.Alike.refl U.vm)⟩, x.2.2.same h.symm⟩
theorem XIM.warm {sa : Nat → Nat} {A : Nat → Prop} {s U : State} {H : Heap} (hW : s.WarmedH U.vm) (x : XIM sa A s H) : XIM sa A U H := ⟨x.1.warm hW, ⟨x.2.1.1.moved hW.alike, x.2.1.2.moved hW.alike⟩, x.2.2.warm hW⟩
theorem XIM.at {sa : Nat → Nat} {A B : Nat → Prop} {s : State} {H : Heap} {locs : List Loc} (x : XIM sa A s s.heap) (hS : va_S A s.heap H locs) (hF : ∀ q, B q → A q) : XIM sa B s H := ⟨x.1, ⟨(x.2.1.1.kept hS.2.1).narrow hF, (x.2.1.2.kept hS.2.1).narrow hF⟩, x.2.2⟩
theorem xF {A : Nat → Prop} {s t : State} {H : Heap} {locs : List Loc} (hS : va_S A s.heap H locs) (h1 : H.size ≤ t.heap.size) (h2 : ∀ q : Nat, q < H.size → t.heap[q]? = H[q]?) : va_F A s t :=
  ⟨Nat.le_trans hS.1 h1, fun q hq hA => by rw [h2 q (Nat.lt_of_lt_of_le hq hS.1)]; exact hS.2.1 q hq hA⟩
theorem xP {D : va_G} {ws : va_W} {t : State} {H : Heap} (hP : va_P D vwCl ws H) (h2 : ∀ q : Nat, q < H.size → t.heap[q]? = H[q]?) : va_P D vwCl ws t.heap := hP.kept (fun k q hk => h2 q.1 (vx_lt hP hk))
section EXC2
abbrev pWx (sa : Nat → Nat) (wa sw : Nat) (ad aK aV : Nat → Nat) (D : va_G) (tys : List (ClassId × FieldType)) (sz : Nat) (av : List Value) (ws : va_W) : Array Value → State → Prop := va_Pc av (fun U => U.heap.size = sz ∧ va_P D vwCl ws U.heap ∧ va_K D vwCl tys U ∧ va_D (fun _ => True) ws ∧ IMM wa sw ad aK aV (va_A ws sz) U U.heap ∧ va_Nw nwW U ∧ XIM sa (va_A ws sz) U U.heap)
variable {sa : Nat → Nat} {wa sw : Nat} {ad aK aV : Nat → Nat} {D : va_G} {tys : List (ClassId × FieldType)} {s : State} {H : Heap} {C : String} {b : Addr} {As : List Value} {ws ws' : va_W}
theorem pWx_bl {sz : Nat} {av : List Value} : FrameBlind (pWx sa wa sw ad aK aV D tys sz av ws) := fun a U g mk q => ⟨q.1, q.2.1, q.2.2.1, va_K.moved (u := U) (U := U.calling g mk a) (Vm.Alike.refl U.vm) q.2.2.2.1, q.2.2.2.2.1, IMM.moved (u := U) (U := U.calling g mk a) (Vm.Alike.refl U.vm) q.2.2.2.2.2.1, va_Nw.same rfl (u := U) (U := U.calling g mk a) rfl q.2.2.2.2.2.2.1, XIM.same (u := U) (U := U.calling g mk a) rfl q.2.2.2.2.2.2.2⟩
theorem pWx_V {A : Nat → Prop} (hK : va_K D vwCl tys s) (hP : va_P D vwCl ws H) (hI : IMM wa sw ad aK aV (va_A ws' H.size) s H) (hN : va_Nw nwW s) (hX : XIM sa (va_A ws' H.size) s H) (hPc : va_P D vwCl ws' H) (hDc : va_D A ws') (q0 ci : Nat) {q : vw_C} {fs : List Value} (hc : vwCl[ci]? = some q) (hC : q.1 = C) (he : ws[q0]? = some (b, .inr (ci, fs))) : PreV s H C b (pWx sa wa sw ad aK aV D tys H.size (.ref b :: As) ws') As :=
  ⟨pWx_bl, hC ▸ va_recv hK hP hc he, fun U hU hW => ⟨rfl, by rw [hU], by rw [hU]; exact hPc, va_K.moved hW.alike hK, hDc.weaken (fun _ _ _ _ => trivial), by rw [hU]; exact IMM.moved hW.alike hI, va_Nw.warmF hW hN, by rw [hU]; exact hX.warm hW⟩⟩
theorem pWx_S {A : Nat → Prop} (hK : va_K D vwCl tys s) (hI : IMM wa sw ad aK aV (va_A ws' H.size) s H) (hN : va_Nw nwW s) (hX : XIM sa (va_A ws' H.size) s H) (hPc : va_P D vwCl ws' H) (hDc : va_D A ws') : PreS s H (pWx sa wa sw ad aK aV D tys H.size As ws') As :=
  ⟨pWx_bl, fun U hU hW => ⟨rfl, by rw [hU], by rw [hU]; exact hPc, va_K.moved hW.alike hK, hDc.weaken (fun _ _ _ _ => trivial), by rw [hU]; exact IMM.moved hW.alike hI, va_Nw.warmF hW hN, by rw [hU]; exact hX.warm hW⟩⟩
end EXC2
