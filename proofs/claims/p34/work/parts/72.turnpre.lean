theorem freeW {A0 : Nat → Prop} {ws : va_W} {H0 H : Heap} {locs : List Loc} (hD : va_D A0 ws) (hS : va_S A0 H0 H locs) (hA : ∀ q, H0.size ≤ q → A0 q) : ∀ q, va_A ws H.size q → A0 q := by
  intro q h
  rcases h with ⟨k, e, h⟩ | h
  · exact hD.2 k (q, e) h
  · exact hA q (Nat.le_trans hS.1 h)
abbrev Fr (s : State) : Nat → Prop := fun q => s.heap.size ≤ q
/-- the law reads its script -/
abbrev pX (b0 L : Nat) (xs : Nat → Int32) (av : List Value) : Array Value → State → Prop := va_Pc av (fun U => va_X b0 L xs U U.heap ∧ b0 < U.heap.size)
theorem pX_bl {b0 L : Nat} {xs : Nat → Int32} {av : List Value} : FrameBlind (pX b0 L xs av) := fun a U g mk q => ⟨q.1, va_X.moved (u := U) (U := U.calling g mk a) (Vm.Alike.refl U.vm) q.2.1, q.2.2⟩
theorem kL_cell (l : Launch) (b0 L k : Nat) (xs : Nat → Int32) (hL : L ≤ 260) (hk : k < 100) : Met l yL_cell wsL_cell ({ frames := 0, cells := 0, slots := 0, locals := 0 }) (pX b0 L xs [.ref b0, .int (nI k)]) (vp_Si (fun _ => True)) 0 0 (fun _ => False) := by
  refine Met.ofW (cc := cL_cell) (maxL := 2) (ret := (some .int)) (by decide) rfl ?_
  intro p e s m args below meth c s₁ B hml hv
  obtain ⟨rfl, hX, hbl⟩ := hv
  have hx := B.exec
  have hb := B.bytes
  have hr := B.returns
  have hlocks := B.notSynchronized
  have hS : va_S (fun _ => False) s.heap s.heap [] := va_S.rf
  have hl := lv_entry ([.ref b0, .int (nI k)]) (n := 2) (Nat.le_of_ble_eq_true rfl)
  rw [lg_entry_eq]
  generalize (lg_sl ([.ref b0, .int (nI k)]) ++ List.replicate (2 - (lg_sl ([.ref b0, .int (nI k)])).length) Slot.unset).toArray = ls at hl ⊢
  replace hl : lv_has ls 2 [(0, .ref b0), (1, .int (nI k))] := hl
  refine lv_iload_n hx hb dL_cell_0 rfl (lv_at hl 1 rfl) ?_
  refine lv_aload_n hx hb dL_cell_1 rfl (lv_at hl 0 rfl) ?_
  refine va_slen hx hb hX hbl (fun h => h) hS dL_cell_2 ?_
  refine n_icmp_ge (a := k) (b := L) (tgt := 12) hx hb dL_cell_3 (by decide) (by omega) (by omega) (fun c_3 => ?_) (fun c_3 => ?_)
  · refine lv_sipush (v := nI 7919) hx hb dL_cell_12 (by decide) ?_
    refine lv_iload_n hx hb dL_cell_15 rfl (lv_at hl 1 rfl) ?_
    refine lv_iconst (v := nI 3) hx hb dL_cell_16 (by decide) ?_
    refine lv_iadd hx hb dL_cell_17 ?_
    refine lv_imul hx hb dL_cell_18 ?_
    refine lv_iload_n hx hb dL_cell_19 rfl (lv_at hl 1 rfl) ?_
    refine lv_bipush (v := nI 11) hx hb dL_cell_20 (by decide) ?_
    refine lv_iadd hx hb dL_cell_22 ?_
    refine lv_imul hx hb dL_cell_23 ?_
    exact W.iret hx hb hr (fun t ht hW => ⟨_, rfl, trivial, ht⟩) (fun q hq => absurd hq List.not_mem_nil) dL_cell_24
  · refine lv_aload_n hx hb dL_cell_6 rfl (lv_at hl 0 rfl) ?_
    refine lv_iload_n hx hb dL_cell_7 rfl (lv_at hl 1 rfl) ?_
    refine va_sld hx hb hX hbl (fun h => h) hS (vp_in_nI c_3 (by omega)) dL_cell_8 ?_
    refine lv_goto (tgt := 24) hx hb dL_cell_9 (by decide) ?_
    exact W.iret hx hb hr (fun t ht hW => ⟨_, rfl, trivial, ht⟩) (fun q hq => absurd hq List.not_mem_nil) dL_cell_24
/-- what stands all through the law -/
abbrev LC0 (p : Program) (l : Launch) (s : State) (m : MethodId) (args : Array Value) (c : Code) (b0 L : Nat) (xs : Nat → Int32) (dC : Nat → ClassId) (dI : Nat → Nat → Nat) (cI cV cW : ClassId) : Prop :=
  p.tables.exec = Jvm.exec ∧ c.code = cL_law ∧ c.maxLocals = 12 ∧ s.vm.findClass RL = some m.cls ∧ (∀ w ∈ wsL_law, w.before args s = true) ∧ va_X b0 L xs s s.heap ∧ b0 < s.heap.size ∧ L ≤ 260 ∧ va_K (dC, dI) vwCl (tyS cI cV cW) s
/-- the law's world at a point -/
abbrev LSt (s : State) (dC : Nat → ClassId) (dI : Nat → Nat → Nat) (cI cV cW : ClassId) (a : Nat → Nat) (A : Nat → Nat → Nat) (X : XS) (H : Heap) (locs : List Loc) : Prop :=
  va_P (dC, dI) vwCl (LW cI cV cW a A X) H ∧ va_D (Fr s) (LW cI cV cW a A X) ∧ va_S (Fr s) s.heap H locs
/-- the present vault and the saved ones stand -/
def GI (B : Nat) (X : XS) : Prop := X.2.2.1 ≤ 6 ∧ INV B (X.1 6) ∧ ∀ j, j < X.2.2.1 → INV B (X.1 j)
theorem GI.up {B B2 : Nat} {X : XS} (h : GI B X) (h1 : B ≤ B2) (h2 : B2 ≤ 1000) : GI B2 X := ⟨h.1, h.2.1.up h1 h2, fun j hj => (h.2.2 j hj).up h1 h2⟩
theorem GI.sm {B : Nat} {X x : XS} (h : GI B X) (hs : SM X.1 X.2.2.1 x) : GI B x := by
  obtain ⟨h1, h2, h3⟩ := hs
  refine ⟨by rw [h2]; exact h.1, by rw [h1]; exact h.2.1, fun j hj => ?_⟩
  rw [h2] at hj
  rw [h3 j hj]; exact h.2.2 j hj
theorem GI.und {B : Nat} {X x : XS} (h : GI B X) (hn : 1 ≤ X.2.2.1) (hs : pUnd X.1 (X.2.2.1 - 1) x) : GI B x := by
  obtain ⟨h1, h2, h3⟩ := hs
  have h4 := h.1
  refine ⟨by rw [h2]; omega, by rw [h1]; exact h.2.2 _ (by omega), fun j hj => ?_⟩
  rw [h2] at hj
  rw [h3 j hj]; exact h.2.2 j (by omega)
theorem GI.act {B : Nat} {X x : XS} (h : GI B X) (hn : X.2.2.1 < 6) (hB : B + 1 ≤ 1000) (h1 : x.2.2.1 = X.2.2.1 + 1) (h2 : INV (B + 1) (x.1 6)) (h3 : x.1 X.2.2.1 = X.1 6) (h4 : ∀ j, j < X.2.2.1 → x.1 j = X.1 j) : GI (B + 1) x := by
  refine ⟨by rw [h1]; omega, h2, fun j hj => ?_⟩
  rw [h1] at hj
  by_cases e : j = X.2.2.1
  · subst e; rw [h3]; exact h.2.1.up (by omega) hB
  · rw [h4 j (by omega)]; exact (h.2.2 j (by omega)).up (by omega) hB
theorem hdL_cell : yL_cell.cls ≠ "java/lang/invoke/MethodHandle" ∧ yL_cell.cls ≠ "java/lang/invoke/VarHandle" ∧ (parseMethodDescriptor yL_cell.desc).map (fun d => d.parameters.length) = some 2 := by decide +kernel
theorem hdX5_savedStates : yX5_savedStates.cls = RX5 ∧ yX5_savedStates.cls ≠ "java/lang/invoke/MethodHandle" ∧ yX5_savedStates.cls ≠ "java/lang/invoke/VarHandle" ∧ (parseMethodDescriptor yX5_savedStates.desc).map (fun d => d.parameters.length) = some 0 := by decide +kernel
theorem hdL_act : yL_act.cls ≠ "java/lang/invoke/MethodHandle" ∧ yL_act.cls ≠ "java/lang/invoke/VarHandle" ∧ (parseMethodDescriptor yL_act.desc).map (fun d => d.parameters.length) = some 3 := by decide +kernel
theorem hdL_holds : yL_holds.cls ≠ "java/lang/invoke/MethodHandle" ∧ yL_holds.cls ≠ "java/lang/invoke/VarHandle" ∧ (parseMethodDescriptor yL_holds.desc).map (fun d => d.parameters.length) = some 1 := by decide +kernel
theorem hdL_isNight : yL_isNight.cls ≠ "java/lang/invoke/MethodHandle" ∧ yL_isNight.cls ≠ "java/lang/invoke/VarHandle" ∧ (parseMethodDescriptor yL_isNight.desc).map (fun d => d.parameters.length) = some 3 := by decide +kernel
theorem hdL_isCall : yL_isCall.cls ≠ "java/lang/invoke/MethodHandle" ∧ yL_isCall.cls ≠ "java/lang/invoke/VarHandle" ∧ (parseMethodDescriptor yL_isCall.desc).map (fun d => d.parameters.length) = some 2 := by decide +kernel
