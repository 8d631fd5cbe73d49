/-- new rows: zeros, no references -/
abbrev z0 : Nat → Int32 := fun _ => 0
abbrev no0 : Nat → Option Nat := fun _ => none
/-- what the constructors ask beside the good words -/
def cnW (U : State) : Prop := va_AO RX3 U ∧ va_AO RX4 U ∧ va_Nw (.methodLinkNest RX5 21 yX2_init RX5) U ∧ va_Nw (.methodLinkNest RX5 28 yX1_init RX5) U
theorem cnW.same {u U : State} (h : u.vm = U.vm) (x : cnW u) : cnW U := ⟨x.1.moved (by rw [h]; exact Vm.Alike.refl U.vm), x.2.1.moved (by rw [h]; exact Vm.Alike.refl U.vm), va_Nw.same rfl h x.2.2.1, va_Nw.same rfl h x.2.2.2⟩
theorem cnW.warm {s U : State} (hW : s.WarmedH U.vm) (x : cnW s) : cnW U := ⟨x.1.moved hW.alike, x.2.1.moved hW.alike, va_Nw.warmM hW x.2.2.1, va_Nw.warmM hW x.2.2.2⟩
section CONS
abbrev pWc (D : va_G) (tys : List (ClassId × FieldType)) (sz : Nat) (av : List Value) (ws : va_W) : Array Value → State → Prop := va_Pc av (fun U => U.heap.size = sz ∧ va_P D vwCl ws U.heap ∧ va_K D vwCl tys U ∧ va_D (fun _ => True) ws ∧ cnW U)
variable {D : va_G} {tys : List (ClassId × FieldType)} {s : State} {H : Heap} {C : String} {b : Addr} {As : List Value} {ws ws' : va_W}
theorem pWc_bl {sz : Nat} {av : List Value} : FrameBlind (pWc D tys sz av ws) := fun a U g mk q => ⟨q.1, q.2.1, q.2.2.1, va_K.moved (u := U) (U := U.calling g mk a) (Vm.Alike.refl U.vm) q.2.2.2.1, q.2.2.2.2.1, cnW.same rfl (u := U) (U := U.calling g mk a) q.2.2.2.2.2⟩
theorem pWc_S {A : Nat → Prop} (hK : va_K D vwCl tys s) (hC : cnW s) (hPc : va_P D vwCl ws' H) (hDc : va_D A ws') : PreS s H (pWc D tys H.size As ws') As :=
  ⟨pWc_bl, fun U hU hW => ⟨rfl, by rw [hU], by rw [hU]; exact hPc, va_K.moved hW.alike hK, hDc.weaken (fun _ _ _ _ => trivial), hC.warm hW⟩⟩
variable {p : Program} {l : Launch} {e : Env} {R : Room} {m : MethodId} {args : Array Value} {below : List Frame} {meth : Method} {c : Code} {locs : List Loc} {cells slots : Nat} {Q : State → Prop} {cc : ByteArray} {pc : Nat} {ls : Array Slot} {rest : List Value} {cl : List vw_C} {A : Nat → Prop} {H0 : Heap}
theorem n_newa (hx : p.tables.exec = Jvm.exec) (hb : c.code = cc) (harr : (Cond.arrayClass .int).before args s = true) (hK : va_K D cl tys s) (hP : va_P D cl ws H) (hD : va_D A ws) (hS : va_S A H0 H locs) (hA : ∀ q, H0.size ≤ q → A q) (t0 : Nat) {cA : ClassId} (ht : tys[t0]? = some (cA, .int)) {n : Nat} (hn : n < 1000000) (hby : n * 4 ≤ 536870912) (hcells : cells + 1 ≤ R.cells) (hslots : slots + n ≤ R.slots) (d : decode cc pc = .ok (.newarray .int, 2))
    (kk : ∀ (q : Nat) (H1 : Heap), va_P D cl (ws ++ [(q, .inl (cA, n, .inl z0))]) H1 → va_D A (ws ++ [(q, .inl (cA, n, .inl z0))]) → va_S A H0 H1 locs → W p l e R s m args below meth c H1 locs (cells + 1) (slots + n) Q (F0 m (pc + 2) ls (.ref q :: rest))) : W p l e R s m args below meth c H locs cells slots Q (F0 m pc ls (.int (nI n) :: rest)) := by
  refine va_newa (atype := .int) hx hb harr (ty := .int) rfl hK hP hD hS hA (n := nI n) (N' := n) (a0 := (n, .inl z0)) (fun _ => rfl) (fun q => (vp_in_nI (Nat.lt_succ_self n) (by omega)) (Or.inl q)) (nI_clamp (by omega)) hby hcells hslots d (fun q cB H1 hK1 hP1 hD1 hS1 => ?_)
  have h1 := (hK.2 t0 _ ht).2
  have h2 := (hK1.2 tys.length (cB, .int) (by simp)).2
  have h3 : cB = cA := Option.some.inj (h2.symm.trans h1)
  subst h3
  exact kk q H1 hP1 hD1 hS1
theorem n_newq (hx : p.tables.exec = Jvm.exec) (hb : c.code = cc) {own C : String} {index : Nat} (hown : s.vm.findClass own = some m.cls) (hcl : (Cond.classLink own index C).before args s = true) (hov : va_AO C s) (hK : va_K D cl tys s) (hP : va_P D cl ws H) (hD : va_D A ws) (hS : va_S A H0 H locs) (hA : ∀ q, H0.size ≤ q → A q) (t0 : Nat) {cA : ClassId} (ht : tys[t0]? = some (cA, .object C)) {n : Nat} (hn : n < 1000000) (hby : n * 4 ≤ 536870912) (hcells : cells + 1 ≤ R.cells) (hslots : slots + n ≤ R.slots) (d : decode cc pc = .ok (.anewarray index, 3))
    (kk : ∀ (q : Nat) (H1 : Heap), va_P D cl (ws ++ [(q, .inl (cA, n, .inr (.inr (.inr (.inr no0)))))]) H1 → va_D A (ws ++ [(q, .inl (cA, n, .inr (.inr (.inr (.inr no0)))))]) → va_S A H0 H1 locs → W p l e R s m args below meth c H1 locs (cells + 1) (slots + n) Q (F0 m (pc + 3) ls (.ref q :: rest))) : W p l e R s m args below meth c H locs cells slots Q (F0 m pc ls (.int (nI n) :: rest)) := by
  refine va_newq hx hb hown hcl hov hK hP hD hS hA (n := nI n) (N' := n) (fun q => (vp_in_nI (Nat.lt_succ_self n) (by omega)) (Or.inl q)) (nI_clamp (by omega)) hby hcells hslots d (fun q cB H1 hK1 hP1 hD1 hS1 => ?_)
  obtain ⟨-, -, -, -, -, h1⟩ := (hK.2 t0 _ ht).2
  obtain ⟨-, -, -, -, -, h2⟩ := (hK1.2 tys.length (cB, .object C) (by simp)).2
  have h3 : cB = cA := Option.some.inj (h2.symm.trans h1)
  subst h3
  exact kk q H1 hP1 hD1 hS1
end CONS
/-- a new vault's rooms and reaches -/
def vRm : Nat → Nat → Int32
  | 0 => z0
  | i + 1 => upd (vRm i) i (nI 30)
def vQm : Nat → Nat → Int32
  | 0 => z0
  | i + 1 => upd (vQm i) i (nI (10 * (i + 1)))
theorem va_6_ini {a b c d e f : Nat} : va_up (va_up (va_up (va_up (va_up (va_up no0 0 (some a)) 1 (some b)) 2 (some c)) 3 (some d)) 4 (some e)) 5 (some f) = va_6 a b c d e f := by
  funext k
  match k with
  | 0 => rfl
  | 1 => rfl
  | 2 => rfl
  | 3 => rfl
  | 4 => rfl
  | 5 => rfl
  | k + 6 => simp [va_up, va_6]
set_option maxHeartbeats 4000000 in
set_option maxRecDepth 100000 in
theorem kX2_init (l : Launch) (dC : Nat → ClassId) (dI : Nat → Nat → Nat) (cI cV cW : ClassId) (sz : Nat) (bs : Nat)  : Met l yX2_init wsX2_init ({ frames := 1, cells := 0, slots := 0, locals := 12 }) (pW (dC, dI) (tyS cI cV cW) sz [.ref bs] [(bs, .inr (1, [.int 0, .int 0, .int 0, .int 0]))]) (va_Qv (fun (_ : Unit) => True) (fun (_ : Unit) t => qB (dC, dI) (tyS cI cV cW) (va_A [(bs, .inr (1, [.int 0, .int 0, .int 0, .int 0]))] sz) [(bs, .inr (1, [.int 0, .int 0, .int 0, .int 0]))] t) (va_A [(bs, .inr (1, [.int 0, .int 0, .int 0, .int 0]))] sz)) 0 0 (va_A [(bs, .inr (1, [.int 0, .int 0, .int 0, .int 0]))] sz) := by
  refine Met.ofW (cc := cX2_init) (maxL := 1) (ret := none) (by decide) rfl ?_
  intro p e s m args below meth c s₁ B hml hv
  obtain ⟨rfl, hsz, hP, hK, hD0⟩ := hv
  have hx := B.exec
  have hb := B.bytes
  have hr := B.returns
  have hts := atoms_spec (ws := wsX2_init) B.pre
  have hown : s.vm.findClass RX2 = some m.cls := findClass_of_methodNamed B.named
  have hlocks := B.notSynchronized
  have hin : meth.name = "<init>" := (name_of_methodNamed B.named B.method).1
  subst hsz
  have hD := hD0.self (sz := s.heap.size)
  generalize hAe : va_A [(bs, .inr (1, [.int 0, .int 0, .int 0, .int 0]))] s.heap.size = A at hD ⊢
  have hA : ∀ q : Nat, s.heap.size ≤ q → A q := fun q h => by rw [← hAe]; exact Or.inr h
  have hS : va_S A s.heap s.heap [] := va_S.rf
  refine w_gen hP hS (fun H locs hP hS => ?_)
  have hl := lv_entry ([.ref bs]) (n := 1) (Nat.le_of_ble_eq_true rfl)
  rw [lg_entry_eq]
  generalize (lg_sl ([.ref bs]) ++ List.replicate (1 - (lg_sl ([.ref bs])).length) Slot.unset).toArray = ls at hl ⊢
  replace hl : lv_has ls 1 [(0, .ref bs)] := hl
  refine lv_aload_n hx hb dX2_init_0 rfl (lv_at hl 0 rfl) ?_
  refine W.objInit hx hb hown (hts (.methodLink RX2 1 objectInit) (by decide +kernel)) (hts (.instanceMethod objectInit) (by decide +kernel)) (hts (.code objectInit ⟨#[0xb1]⟩ 1 none) (List.mem_of_getElem? (i := 3) rfl)) rfl (by rw [hml]; exact hl.1) rfl dX2_init_1 (Nat.le_of_ble_eq_true rfl) (Nat.le_of_ble_eq_true rfl) ?_
  refine W.eq (g2 := F0 m 4 ls []) rfl ?_
  have hP9 := hP
  have hD9 := hD
  exact W.vret hx hb hr (fun t ht hW => ⟨⟨(), rfl, trivial, by rw [ht]; exact hP9, va_K.moved hW.alike hK, hD9⟩, hS.F ht⟩) hS.2.2 dX2_init_4
set_option maxHeartbeats 4000000 in
set_option maxRecDepth 100000 in
theorem kX3_init (l : Launch) (dC : Nat → ClassId) (dI : Nat → Nat → Nat) (cI cV cW : ClassId) (sz : Nat) (h : Nat)  : Met l yX3_init wsX3_init ({ frames := 1, cells := 8, slots := 98, locals := 12 }) (pW (dC, dI) (tyS cI cV cW) sz [.ref h] [(h, .inr (2, [.null, .null, .null, .null, .null, .null, .null, .null, .int 0, .int 0, .int 0]))]) (va_Qv (fun (u : Nat × Nat × Nat × Nat × Nat × Nat × Nat × Nat) => match u with | (vR, vQ, vF, vW, vP, vH, vN, vO) => True) (fun (u : Nat × Nat × Nat × Nat × Nat × Nat × Nat × Nat) t => match u with | (vR, vQ, vF, vW, vP, vH, vN, vO) => qB (dC, dI) (tyS cI cV cW) (va_A [(h, .inr (2, [.null, .null, .null, .null, .null, .null, .null, .null, .int 0, .int 0, .int 0]))] sz) [(h, .inr (2, [.ref vR, .ref vQ, .ref vF, .ref vW, .ref vP, .ref vH, .ref vN, .ref vO, .int (nI 0), .int 0, .int 0])), (vR, .inl (cI, 6, .inl (vRm 6))), (vQ, .inl (cI, 6, .inl (vQm 6))), (vF, .inl (cI, 6, .inl z0)), (vW, .inl (cI, 16, .inl z0)), (vP, .inl (cI, 16, .inl z0)), (vH, .inl (cI, 16, .inl z0)), (vN, .inl (cI, 16, .inl z0)), (vO, .inl (cI, 16, .inl z0))] t) (va_A [(h, .inr (2, [.null, .null, .null, .null, .null, .null, .null, .null, .int 0, .int 0, .int 0]))] sz)) 8 98 (va_A [(h, .inr (2, [.null, .null, .null, .null, .null, .null, .null, .null, .int 0, .int 0, .int 0]))] sz) := by
  refine Met.ofW (cc := cX3_init) (maxL := 2) (ret := none) (by decide) rfl ?_
  intro p e s m args below meth c s₁ B hml hv
  obtain ⟨rfl, hsz, hP, hK, hD0⟩ := hv
  have hx := B.exec
  have hb := B.bytes
  have hr := B.returns
  have hts := atoms_spec (ws := wsX3_init) B.pre
  have hown : s.vm.findClass RX3 = some m.cls := findClass_of_methodNamed B.named
  have hlocks := B.notSynchronized
  have hin : meth.name = "<init>" := (name_of_methodNamed B.named B.method).1
  subst hsz
  have hD := hD0.self (sz := s.heap.size)
  generalize hAe : va_A [(h, .inr (2, [.null, .null, .null, .null, .null, .null, .null, .null, .int 0, .int 0, .int 0]))] s.heap.size = A at hD ⊢
  have hA : ∀ q : Nat, s.heap.size ≤ q → A q := fun q h => by rw [← hAe]; exact Or.inr h
  have hS : va_S A s.heap s.heap [] := va_S.rf
  refine w_gen hP hS (fun H locs hP hS => ?_)
  have hf9 := hts (.fieldLink RX3 9 "VaultShelves$Vault" "rooms" "[I") (by decide +kernel)
  have hf15 := hts (.fieldLink RX3 15 "VaultShelves$Vault" "reaches" "[I") (by decide +kernel)
  have hf18 := hts (.fieldLink RX3 18 "VaultShelves$Vault" "filled" "[I") (by decide +kernel)
  have hf21 := hts (.fieldLink RX3 21 "VaultShelves$Vault" "widths" "[I") (by decide +kernel)
  have hf24 := hts (.fieldLink RX3 24 "VaultShelves$Vault" "places" "[I") (by decide +kernel)
  have hf27 := hts (.fieldLink RX3 27 "VaultShelves$Vault" "homes" "[I") (by decide +kernel)
  have hf30 := hts (.fieldLink RX3 30 "VaultShelves$Vault" "newCalls" "[I") (by decide +kernel)
  have hf33 := hts (.fieldLink RX3 33 "VaultShelves$Vault" "oldCalls" "[I") (by decide +kernel)
  have hiX3 : ∀ w ∈ u_ws RX3 TX3 11, w ∈ wsX3_init := by decide +kernel
  have hl := lv_entry ([.ref h]) (n := 2) (Nat.le_of_ble_eq_true rfl)
  rw [lg_entry_eq]
  generalize (lg_sl ([.ref h]) ++ List.replicate (2 - (lg_sl ([.ref h])).length) Slot.unset).toArray = ls at hl ⊢
  replace hl : lv_has ls 2 [(0, .ref h)] := hl
  refine lv_aload_n hx hb dX3_init_0 rfl (lv_at hl 0 rfl) ?_
  refine W.objInit hx hb hown (hts (.methodLink RX3 3 objectInit) (by decide +kernel)) (hts (.instanceMethod objectInit) (by decide +kernel)) (hts (.code objectInit ⟨#[0xb1]⟩ 1 none) (List.mem_of_getElem? (i := 3) rfl)) rfl (by rw [hml]; exact hl.1) rfl dX3_init_1 (Nat.le_of_ble_eq_true rfl) (Nat.le_of_ble_eq_true rfl) ?_
  refine W.eq (g2 := F0 m 4 ls []) rfl ?_
  refine lv_aload_n hx hb dX3_init_4 rfl (lv_at hl 0 rfl) ?_
  refine lv_bipush (v := (nI 6)) hx hb dX3_init_5 (by decide) ?_
  refine n_newa hx hb (hts (.arrayClass .int) (by decide +kernel)) hK hP hD hS hA 0 rfl (n := 6) (by decide) (by decide) (Nat.le_of_ble_eq_true rfl) (Nat.le_of_ble_eq_true rfl) dX3_init_7 (fun vR H hP hD hS => ?_)
  replace hP : va_P (dC, dI) vwCl [(h, .inr (2, [.null, .null, .null, .null, .null, .null, .null, .null, .int 0, .int 0, .int 0])), (vR, .inl (cI, 6, .inl z0))] H := hP
  replace hD : va_D A [(h, .inr (2, [.null, .null, .null, .null, .null, .null, .null, .null, .int 0, .int 0, .int 0])), (vR, .inl (cI, 6, .inl z0))] := hD
  refine W.widen (k := 1) (n := 6) (by decide) (by decide) ?_
  refine va_putF (D := (dC, dI)) (ci := 2) (v := .ref vR) (ty := tyX3 0) (C := RX3) (T := TX3) (N := 11) hx hb hts hiX3 tyX3 tyX3_ok nmX3 hown hK hP hD hS 0 rfl rfl 0 (by decide) hf9 (fun _ h9 => h9) rfl hin rfl (by decide +kernel) rfl rfl (Nat.le_of_ble_eq_true rfl) dX3_init_9 (fun H locs hP hD hS => ?_)
  replace hP : va_P (dC, dI) vwCl [(h, .inr (2, [.ref vR, .null, .null, .null, .null, .null, .null, .null, .int 0, .int 0, .int 0])), (vR, .inl (cI, 6, .inl z0))] H := hP
  replace hD : va_D A [(h, .inr (2, [.ref vR, .null, .null, .null, .null, .null, .null, .null, .int 0, .int 0, .int 0])), (vR, .inl (cI, 6, .inl z0))] := hD
  refine lv_aload_n hx hb dX3_init_12 rfl (lv_at hl 0 rfl) ?_
  refine lv_bipush (v := (nI 6)) hx hb dX3_init_13 (by decide) ?_
  refine n_newa hx hb (hts (.arrayClass .int) (by decide +kernel)) hK hP hD hS hA 0 rfl (n := 6) (by decide) (by decide) (Nat.le_of_ble_eq_true rfl) (Nat.le_of_ble_eq_true rfl) dX3_init_15 (fun vQ H hP hD hS => ?_)
  replace hP : va_P (dC, dI) vwCl [(h, .inr (2, [.ref vR, .null, .null, .null, .null, .null, .null, .null, .int 0, .int 0, .int 0])), (vR, .inl (cI, 6, .inl z0)), (vQ, .inl (cI, 6, .inl z0))] H := hP
  replace hD : va_D A [(h, .inr (2, [.ref vR, .null, .null, .null, .null, .null, .null, .null, .int 0, .int 0, .int 0])), (vR, .inl (cI, 6, .inl z0)), (vQ, .inl (cI, 6, .inl z0))] := hD
  refine W.widen (k := 2) (n := 12) (by decide) (by decide) ?_
  refine va_putF (D := (dC, dI)) (ci := 2) (v := .ref vQ) (ty := tyX3 1) (C := RX3) (T := TX3) (N := 11) hx hb hts hiX3 tyX3 tyX3_ok nmX3 hown hK hP hD hS 0 rfl rfl 1 (by decide) hf15 (fun _ h9 => h9) rfl hin rfl (by decide +kernel) rfl rfl (Nat.le_of_ble_eq_true rfl) dX3_init_17 (fun H locs hP hD hS => ?_)
  replace hP : va_P (dC, dI) vwCl [(h, .inr (2, [.ref vR, .ref vQ, .null, .null, .null, .null, .null, .null, .int 0, .int 0, .int 0])), (vR, .inl (cI, 6, .inl z0)), (vQ, .inl (cI, 6, .inl z0))] H := hP
  replace hD : va_D A [(h, .inr (2, [.ref vR, .ref vQ, .null, .null, .null, .null, .null, .null, .int 0, .int 0, .int 0])), (vR, .inl (cI, 6, .inl z0)), (vQ, .inl (cI, 6, .inl z0))] := hD
  refine lv_aload_n hx hb dX3_init_20 rfl (lv_at hl 0 rfl) ?_
  refine lv_bipush (v := (nI 6)) hx hb dX3_init_21 (by decide) ?_
  refine n_newa hx hb (hts (.arrayClass .int) (by decide +kernel)) hK hP hD hS hA 0 rfl (n := 6) (by decide) (by decide) (Nat.le_of_ble_eq_true rfl) (Nat.le_of_ble_eq_true rfl) dX3_init_23 (fun vF H hP hD hS => ?_)
  replace hP : va_P (dC, dI) vwCl [(h, .inr (2, [.ref vR, .ref vQ, .null, .null, .null, .null, .null, .null, .int 0, .int 0, .int 0])), (vR, .inl (cI, 6, .inl z0)), (vQ, .inl (cI, 6, .inl z0)), (vF, .inl (cI, 6, .inl z0))] H := hP
  replace hD : va_D A [(h, .inr (2, [.ref vR, .ref vQ, .null, .null, .null, .null, .null, .null, .int 0, .int 0, .int 0])), (vR, .inl (cI, 6, .inl z0)), (vQ, .inl (cI, 6, .inl z0)), (vF, .inl (cI, 6, .inl z0))] := hD
  refine W.widen (k := 3) (n := 18) (by decide) (by decide) ?_
  refine va_putF (D := (dC, dI)) (ci := 2) (v := .ref vF) (ty := tyX3 2) (C := RX3) (T := TX3) (N := 11) hx hb hts hiX3 tyX3 tyX3_ok nmX3 hown hK hP hD hS 0 rfl rfl 2 (by decide) hf18 (fun _ h9 => h9) rfl hin rfl (by decide +kernel) rfl rfl (Nat.le_of_ble_eq_true rfl) dX3_init_25 (fun H locs hP hD hS => ?_)
  replace hP : va_P (dC, dI) vwCl [(h, .inr (2, [.ref vR, .ref vQ, .ref vF, .null, .null, .null, .null, .null, .int 0, .int 0, .int 0])), (vR, .inl (cI, 6, .inl z0)), (vQ, .inl (cI, 6, .inl z0)), (vF, .inl (cI, 6, .inl z0))] H := hP
  replace hD : va_D A [(h, .inr (2, [.ref vR, .ref vQ, .ref vF, .null, .null, .null, .null, .null, .int 0, .int 0, .int 0])), (vR, .inl (cI, 6, .inl z0)), (vQ, .inl (cI, 6, .inl z0)), (vF, .inl (cI, 6, .inl z0))] := hD
  refine lv_aload_n hx hb dX3_init_28 rfl (lv_at hl 0 rfl) ?_
  refine lv_bipush (v := (nI 16)) hx hb dX3_init_29 (by decide) ?_
  refine n_newa hx hb (hts (.arrayClass .int) (by decide +kernel)) hK hP hD hS hA 0 rfl (n := 16) (by decide) (by decide) (Nat.le_of_ble_eq_true rfl) (Nat.le_of_ble_eq_true rfl) dX3_init_31 (fun vW H hP hD hS => ?_)
  replace hP : va_P (dC, dI) vwCl [(h, .inr (2, [.ref vR, .ref vQ, .ref vF, .null, .null, .null, .null, .null, .int 0, .int 0, .int 0])), (vR, .inl (cI, 6, .inl z0)), (vQ, .inl (cI, 6, .inl z0)), (vF, .inl (cI, 6, .inl z0)), (vW, .inl (cI, 16, .inl z0))] H := hP
  replace hD : va_D A [(h, .inr (2, [.ref vR, .ref vQ, .ref vF, .null, .null, .null, .null, .null, .int 0, .int 0, .int 0])), (vR, .inl (cI, 6, .inl z0)), (vQ, .inl (cI, 6, .inl z0)), (vF, .inl (cI, 6, .inl z0)), (vW, .inl (cI, 16, .inl z0))] := hD
  refine W.widen (k := 4) (n := 34) (by decide) (by decide) ?_
  refine va_putF (D := (dC, dI)) (ci := 2) (v := .ref vW) (ty := tyX3 3) (C := RX3) (T := TX3) (N := 11) hx hb hts hiX3 tyX3 tyX3_ok nmX3 hown hK hP hD hS 0 rfl rfl 3 (by decide) hf21 (fun _ h9 => h9) rfl hin rfl (by decide +kernel) rfl rfl (Nat.le_of_ble_eq_true rfl) dX3_init_33 (fun H locs hP hD hS => ?_)
  replace hP : va_P (dC, dI) vwCl [(h, .inr (2, [.ref vR, .ref vQ, .ref vF, .ref vW, .null, .null, .null, .null, .int 0, .int 0, .int 0])), (vR, .inl (cI, 6, .inl z0)), (vQ, .inl (cI, 6, .inl z0)), (vF, .inl (cI, 6, .inl z0)), (vW, .inl (cI, 16, .inl z0))] H := hP
  replace hD : va_D A [(h, .inr (2, [.ref vR, .ref vQ, .ref vF, .ref vW, .null, .null, .null, .null, .int 0, .int 0, .int 0])), (vR, .inl (cI, 6, .inl z0)), (vQ, .inl (cI, 6, .inl z0)), (vF, .inl (cI, 6, .inl z0)), (vW, .inl (cI, 16, .inl z0))] := hD
  refine lv_aload_n hx hb dX3_init_36 rfl (lv_at hl 0 rfl) ?_
  refine lv_bipush (v := (nI 16)) hx hb dX3_init_37 (by decide) ?_
  refine n_newa hx hb (hts (.arrayClass .int) (by decide +kernel)) hK hP hD hS hA 0 rfl (n := 16) (by decide) (by decide) (Nat.le_of_ble_eq_true rfl) (Nat.le_of_ble_eq_true rfl) dX3_init_39 (fun vP H hP hD hS => ?_)
  replace hP : va_P (dC, dI) vwCl [(h, .inr (2, [.ref vR, .ref vQ, .ref vF, .ref vW, .null, .null, .null, .null, .int 0, .int 0, .int 0])), (vR, .inl (cI, 6, .inl z0)), (vQ, .inl (cI, 6, .inl z0)), (vF, .inl (cI, 6, .inl z0)), (vW, .inl (cI, 16, .inl z0)), (vP, .inl (cI, 16, .inl z0))] H := hP
  replace hD : va_D A [(h, .inr (2, [.ref vR, .ref vQ, .ref vF, .ref vW, .null, .null, .null, .null, .int 0, .int 0, .int 0])), (vR, .inl (cI, 6, .inl z0)), (vQ, .inl (cI, 6, .inl z0)), (vF, .inl (cI, 6, .inl z0)), (vW, .inl (cI, 16, .inl z0)), (vP, .inl (cI, 16, .inl z0))] := hD
  refine W.widen (k := 5) (n := 50) (by decide) (by decide) ?_
  refine va_putF (D := (dC, dI)) (ci := 2) (v := .ref vP) (ty := tyX3 4) (C := RX3) (T := TX3) (N := 11) hx hb hts hiX3 tyX3 tyX3_ok nmX3 hown hK hP hD hS 0 rfl rfl 4 (by decide) hf24 (fun _ h9 => h9) rfl hin rfl (by decide +kernel) rfl rfl (Nat.le_of_ble_eq_true rfl) dX3_init_41 (fun H locs hP hD hS => ?_)
  replace hP : va_P (dC, dI) vwCl [(h, .inr (2, [.ref vR, .ref vQ, .ref vF, .ref vW, .ref vP, .null, .null, .null, .int 0, .int 0, .int 0])), (vR, .inl (cI, 6, .inl z0)), (vQ, .inl (cI, 6, .inl z0)), (vF, .inl (cI, 6, .inl z0)), (vW, .inl (cI, 16, .inl z0)), (vP, .inl (cI, 16, .inl z0))] H := hP
  replace hD : va_D A [(h, .inr (2, [.ref vR, .ref vQ, .ref vF, .ref vW, .ref vP, .null, .null, .null, .int 0, .int 0, .int 0])), (vR, .inl (cI, 6, .inl z0)), (vQ, .inl (cI, 6, .inl z0)), (vF, .inl (cI, 6, .inl z0)), (vW, .inl (cI, 16, .inl z0)), (vP, .inl (cI, 16, .inl z0))] := hD
  refine lv_aload_n hx hb dX3_init_44 rfl (lv_at hl 0 rfl) ?_
  refine lv_bipush (v := (nI 16)) hx hb dX3_init_45 (by decide) ?_
  refine n_newa hx hb (hts (.arrayClass .int) (by decide +kernel)) hK hP hD hS hA 0 rfl (n := 16) (by decide) (by decide) (Nat.le_of_ble_eq_true rfl) (Nat.le_of_ble_eq_true rfl) dX3_init_47 (fun vH H hP hD hS => ?_)
  replace hP : va_P (dC, dI) vwCl [(h, .inr (2, [.ref vR, .ref vQ, .ref vF, .ref vW, .ref vP, .null, .null, .null, .int 0, .int 0, .int 0])), (vR, .inl (cI, 6, .inl z0)), (vQ, .inl (cI, 6, .inl z0)), (vF, .inl (cI, 6, .inl z0)), (vW, .inl (cI, 16, .inl z0)), (vP, .inl (cI, 16, .inl z0)), (vH, .inl (cI, 16, .inl z0))] H := hP
  replace hD : va_D A [(h, .inr (2, [.ref vR, .ref vQ, .ref vF, .ref vW, .ref vP, .null, .null, .null, .int 0, .int 0, .int 0])), (vR, .inl (cI, 6, .inl z0)), (vQ, .inl (cI, 6, .inl z0)), (vF, .inl (cI, 6, .inl z0)), (vW, .inl (cI, 16, .inl z0)), (vP, .inl (cI, 16, .inl z0)), (vH, .inl (cI, 16, .inl z0))] := hD
  refine W.widen (k := 6) (n := 66) (by decide) (by decide) ?_
  refine va_putF (D := (dC, dI)) (ci := 2) (v := .ref vH) (ty := tyX3 5) (C := RX3) (T := TX3) (N := 11) hx hb hts hiX3 tyX3 tyX3_ok nmX3 hown hK hP hD hS 0 rfl rfl 5 (by decide) hf27 (fun _ h9 => h9) rfl hin rfl (by decide +kernel) rfl rfl (Nat.le_of_ble_eq_true rfl) dX3_init_49 (fun H locs hP hD hS => ?_)
  replace hP : va_P (dC, dI) vwCl [(h, .inr (2, [.ref vR, .ref vQ, .ref vF, .ref vW, .ref vP, .ref vH, .null, .null, .int 0, .int 0, .int 0])), (vR, .inl (cI, 6, .inl z0)), (vQ, .inl (cI, 6, .inl z0)), (vF, .inl (cI, 6, .inl z0)), (vW, .inl (cI, 16, .inl z0)), (vP, .inl (cI, 16, .inl z0)), (vH, .inl (cI, 16, .inl z0))] H := hP
  replace hD : va_D A [(h, .inr (2, [.ref vR, .ref vQ, .ref vF, .ref vW, .ref vP, .ref vH, .null, .null, .int 0, .int 0, .int 0])), (vR, .inl (cI, 6, .inl z0)), (vQ, .inl (cI, 6, .inl z0)), (vF, .inl (cI, 6, .inl z0)), (vW, .inl (cI, 16, .inl z0)), (vP, .inl (cI, 16, .inl z0)), (vH, .inl (cI, 16, .inl z0))] := hD
  refine lv_aload_n hx hb dX3_init_52 rfl (lv_at hl 0 rfl) ?_
  refine lv_bipush (v := (nI 16)) hx hb dX3_init_53 (by decide) ?_
  refine n_newa hx hb (hts (.arrayClass .int) (by decide +kernel)) hK hP hD hS hA 0 rfl (n := 16) (by decide) (by decide) (Nat.le_of_ble_eq_true rfl) (Nat.le_of_ble_eq_true rfl) dX3_init_55 (fun vN H hP hD hS => ?_)
  replace hP : va_P (dC, dI) vwCl [(h, .inr (2, [.ref vR, .ref vQ, .ref vF, .ref vW, .ref vP, .ref vH, .null, .null, .int 0, .int 0, .int 0])), (vR, .inl (cI, 6, .inl z0)), (vQ, .inl (cI, 6, .inl z0)), (vF, .inl (cI, 6, .inl z0)), (vW, .inl (cI, 16, .inl z0)), (vP, .inl (cI, 16, .inl z0)), (vH, .inl (cI, 16, .inl z0)), (vN, .inl (cI, 16, .inl z0))] H := hP
  replace hD : va_D A [(h, .inr (2, [.ref vR, .ref vQ, .ref vF, .ref vW, .ref vP, .ref vH, .null, .null, .int 0, .int 0, .int 0])), (vR, .inl (cI, 6, .inl z0)), (vQ, .inl (cI, 6, .inl z0)), (vF, .inl (cI, 6, .inl z0)), (vW, .inl (cI, 16, .inl z0)), (vP, .inl (cI, 16, .inl z0)), (vH, .inl (cI, 16, .inl z0)), (vN, .inl (cI, 16, .inl z0))] := hD
  refine W.widen (k := 7) (n := 82) (by decide) (by decide) ?_
  refine va_putF (D := (dC, dI)) (ci := 2) (v := .ref vN) (ty := tyX3 6) (C := RX3) (T := TX3) (N := 11) hx hb hts hiX3 tyX3 tyX3_ok nmX3 hown hK hP hD hS 0 rfl rfl 6 (by decide) hf30 (fun _ h9 => h9) rfl hin rfl (by decide +kernel) rfl rfl (Nat.le_of_ble_eq_true rfl) dX3_init_57 (fun H locs hP hD hS => ?_)
  replace hP : va_P (dC, dI) vwCl [(h, .inr (2, [.ref vR, .ref vQ, .ref vF, .ref vW, .ref vP, .ref vH, .ref vN, .null, .int 0, .int 0, .int 0])), (vR, .inl (cI, 6, .inl z0)), (vQ, .inl (cI, 6, .inl z0)), (vF, .inl (cI, 6, .inl z0)), (vW, .inl (cI, 16, .inl z0)), (vP, .inl (cI, 16, .inl z0)), (vH, .inl (cI, 16, .inl z0)), (vN, .inl (cI, 16, .inl z0))] H := hP
  replace hD : va_D A [(h, .inr (2, [.ref vR, .ref vQ, .ref vF, .ref vW, .ref vP, .ref vH, .ref vN, .null, .int 0, .int 0, .int 0])), (vR, .inl (cI, 6, .inl z0)), (vQ, .inl (cI, 6, .inl z0)), (vF, .inl (cI, 6, .inl z0)), (vW, .inl (cI, 16, .inl z0)), (vP, .inl (cI, 16, .inl z0)), (vH, .inl (cI, 16, .inl z0)), (vN, .inl (cI, 16, .inl z0))] := hD
  refine lv_aload_n hx hb dX3_init_60 rfl (lv_at hl 0 rfl) ?_
  refine lv_bipush (v := (nI 16)) hx hb dX3_init_61 (by decide) ?_
  refine n_newa hx hb (hts (.arrayClass .int) (by decide +kernel)) hK hP hD hS hA 0 rfl (n := 16) (by decide) (by decide) (Nat.le_of_ble_eq_true rfl) (Nat.le_of_ble_eq_true rfl) dX3_init_63 (fun vO H hP hD hS => ?_)
  replace hP : va_P (dC, dI) vwCl [(h, .inr (2, [.ref vR, .ref vQ, .ref vF, .ref vW, .ref vP, .ref vH, .ref vN, .null, .int 0, .int 0, .int 0])), (vR, .inl (cI, 6, .inl z0)), (vQ, .inl (cI, 6, .inl z0)), (vF, .inl (cI, 6, .inl z0)), (vW, .inl (cI, 16, .inl z0)), (vP, .inl (cI, 16, .inl z0)), (vH, .inl (cI, 16, .inl z0)), (vN, .inl (cI, 16, .inl z0)), (vO, .inl (cI, 16, .inl z0))] H := hP
  replace hD : va_D A [(h, .inr (2, [.ref vR, .ref vQ, .ref vF, .ref vW, .ref vP, .ref vH, .ref vN, .null, .int 0, .int 0, .int 0])), (vR, .inl (cI, 6, .inl z0)), (vQ, .inl (cI, 6, .inl z0)), (vF, .inl (cI, 6, .inl z0)), (vW, .inl (cI, 16, .inl z0)), (vP, .inl (cI, 16, .inl z0)), (vH, .inl (cI, 16, .inl z0)), (vN, .inl (cI, 16, .inl z0)), (vO, .inl (cI, 16, .inl z0))] := hD
  refine W.widen (k := 8) (n := 98) (by decide) (by decide) ?_
  refine va_putF (D := (dC, dI)) (ci := 2) (v := .ref vO) (ty := tyX3 7) (C := RX3) (T := TX3) (N := 11) hx hb hts hiX3 tyX3 tyX3_ok nmX3 hown hK hP hD hS 0 rfl rfl 7 (by decide) hf33 (fun _ h9 => h9) rfl hin rfl (by decide +kernel) rfl rfl (Nat.le_of_ble_eq_true rfl) dX3_init_65 (fun H locs hP hD hS => ?_)
  replace hP : va_P (dC, dI) vwCl [(h, .inr (2, [.ref vR, .ref vQ, .ref vF, .ref vW, .ref vP, .ref vH, .ref vN, .ref vO, .int 0, .int 0, .int 0])), (vR, .inl (cI, 6, .inl z0)), (vQ, .inl (cI, 6, .inl z0)), (vF, .inl (cI, 6, .inl z0)), (vW, .inl (cI, 16, .inl z0)), (vP, .inl (cI, 16, .inl z0)), (vH, .inl (cI, 16, .inl z0)), (vN, .inl (cI, 16, .inl z0)), (vO, .inl (cI, 16, .inl z0))] H := hP
  replace hD : va_D A [(h, .inr (2, [.ref vR, .ref vQ, .ref vF, .ref vW, .ref vP, .ref vH, .ref vN, .ref vO, .int 0, .int 0, .int 0])), (vR, .inl (cI, 6, .inl z0)), (vQ, .inl (cI, 6, .inl z0)), (vF, .inl (cI, 6, .inl z0)), (vW, .inl (cI, 16, .inl z0)), (vP, .inl (cI, 16, .inl z0)), (vH, .inl (cI, 16, .inl z0)), (vN, .inl (cI, 16, .inl z0)), (vO, .inl (cI, 16, .inl z0))] := hD
  refine lv_iconst (v := (nI 0)) hx hb dX3_init_68 (by decide) ?_
  refine lv_istore_n (lv' := [(1, .int (nI 0)), (0, .ref h)]) hx hb dX3_init_69 rfl hl (by decide) rfl (fun ls hl => ?_)
  have ec_i70_vR : z0 = (vRm 0) := by rfl
  have ec_i70_vQ : z0 = (vQm 0) := by rfl
  have ew_i70 : ([(h, .inr (2, [.ref vR, .ref vQ, .ref vF, .ref vW, .ref vP, .ref vH, .ref vN, .ref vO, .int 0, .int 0, .int 0])), (vR, .inl (cI, 6, .inl z0)), (vQ, .inl (cI, 6, .inl z0)), (vF, .inl (cI, 6, .inl z0)), (vW, .inl (cI, 16, .inl z0)), (vP, .inl (cI, 16, .inl z0)), (vH, .inl (cI, 16, .inl z0)), (vN, .inl (cI, 16, .inl z0)), (vO, .inl (cI, 16, .inl z0))] : va_W) = [(h, .inr (2, [.ref vR, .ref vQ, .ref vF, .ref vW, .ref vP, .ref vH, .ref vN, .ref vO, .int 0, .int 0, .int 0])), (vR, .inl (cI, 6, .inl (vRm 0))), (vQ, .inl (cI, 6, .inl (vQm 0))), (vF, .inl (cI, 6, .inl z0)), (vW, .inl (cI, 16, .inl z0)), (vP, .inl (cI, 16, .inl z0)), (vH, .inl (cI, 16, .inl z0)), (vN, .inl (cI, 16, .inl z0)), (vO, .inl (cI, 16, .inl z0))] := ((congrArg (fun z_ => ([(h, .inr (2, [.ref vR, .ref vQ, .ref vF, .ref vW, .ref vP, .ref vH, .ref vN, .ref vO, .int 0, .int 0, .int 0])), (vR, .inl (cI, 6, .inl z_)), (vQ, .inl (cI, 6, .inl z0)), (vF, .inl (cI, 6, .inl z0)), (vW, .inl (cI, 16, .inl z0)), (vP, .inl (cI, 16, .inl z0)), (vH, .inl (cI, 16, .inl z0)), (vN, .inl (cI, 16, .inl z0)), (vO, .inl (cI, 16, .inl z0))] : va_W)) ec_i70_vR).trans (congrArg (fun z_ => ([(h, .inr (2, [.ref vR, .ref vQ, .ref vF, .ref vW, .ref vP, .ref vH, .ref vN, .ref vO, .int 0, .int 0, .int 0])), (vR, .inl (cI, 6, .inl (vRm 0))), (vQ, .inl (cI, 6, .inl z_)), (vF, .inl (cI, 6, .inl z0)), (vW, .inl (cI, 16, .inl z0)), (vP, .inl (cI, 16, .inl z0)), (vH, .inl (cI, 16, .inl z0)), (vN, .inl (cI, 16, .inl z0)), (vO, .inl (cI, 16, .inl z0))] : va_W)) ec_i70_vQ))
  have hI0 : (fun (i : Nat) ls H locs => (i ≤ 6) ∧ (va_P (dC, dI) vwCl [(h, .inr (2, [.ref vR, .ref vQ, .ref vF, .ref vW, .ref vP, .ref vH, .ref vN, .ref vO, .int 0, .int 0, .int 0])), (vR, .inl (cI, 6, .inl (vRm i))), (vQ, .inl (cI, 6, .inl (vQm i))), (vF, .inl (cI, 6, .inl z0)), (vW, .inl (cI, 16, .inl z0)), (vP, .inl (cI, 16, .inl z0)), (vH, .inl (cI, 16, .inl z0)), (vN, .inl (cI, 16, .inl z0)), (vO, .inl (cI, 16, .inl z0))] H) ∧ (va_D A [(h, .inr (2, [.ref vR, .ref vQ, .ref vF, .ref vW, .ref vP, .ref vH, .ref vN, .ref vO, .int 0, .int 0, .int 0])), (vR, .inl (cI, 6, .inl (vRm i))), (vQ, .inl (cI, 6, .inl (vQm i))), (vF, .inl (cI, 6, .inl z0)), (vW, .inl (cI, 16, .inl z0)), (vP, .inl (cI, 16, .inl z0)), (vH, .inl (cI, 16, .inl z0)), (vN, .inl (cI, 16, .inl z0)), (vO, .inl (cI, 16, .inl z0))]) ∧ (va_S A s.heap H locs) ∧ (lv_has ls 2 [(0, .ref h), (1, .int (nI i))])) 0 ls H locs := ⟨by omega, (w_cgP ew_i70 hP), (w_cgD ew_i70 hD), hS, lv_sub hl [1, 0] rfl⟩
  clear hl hP hD hS
  revert ls
  revert locs
  revert H
  refine lp_H (fun (i : Nat) ls H locs => (i ≤ 6) ∧ (va_P (dC, dI) vwCl [(h, .inr (2, [.ref vR, .ref vQ, .ref vF, .ref vW, .ref vP, .ref vH, .ref vN, .ref vO, .int 0, .int 0, .int 0])), (vR, .inl (cI, 6, .inl (vRm i))), (vQ, .inl (cI, 6, .inl (vQm i))), (vF, .inl (cI, 6, .inl z0)), (vW, .inl (cI, 16, .inl z0)), (vP, .inl (cI, 16, .inl z0)), (vH, .inl (cI, 16, .inl z0)), (vN, .inl (cI, 16, .inl z0)), (vO, .inl (cI, 16, .inl z0))] H) ∧ (va_D A [(h, .inr (2, [.ref vR, .ref vQ, .ref vF, .ref vW, .ref vP, .ref vH, .ref vN, .ref vO, .int 0, .int 0, .int 0])), (vR, .inl (cI, 6, .inl (vRm i))), (vQ, .inl (cI, 6, .inl (vQm i))), (vF, .inl (cI, 6, .inl z0)), (vW, .inl (cI, 16, .inl z0)), (vP, .inl (cI, 16, .inl z0)), (vH, .inl (cI, 16, .inl z0)), (vN, .inl (cI, 16, .inl z0)), (vO, .inl (cI, 16, .inl z0))]) ∧ (va_S A s.heap H locs) ∧ (lv_has ls 2 [(0, .ref h), (1, .int (nI i))])) (fun (i : Nat) => 6 - i) 0 (fun q_ H locs ls hI ih70 => ?_)
  obtain ⟨i, rfl⟩ : ∃ z, z = q_ := ⟨_, rfl⟩
  obtain ⟨hi, hP, hD, hS, hl⟩ := hI
  refine lv_iload_n hx hb dX3_init_70 rfl (lv_at hl 1 rfl) ?_
  refine lv_bipush (v := (nI 6)) hx hb dX3_init_71 (by decide) ?_
  refine n_icmp_ge (tgt := 102) hx hb dX3_init_73 (by decide) (by omega) (by omega) (fun c_73 => ?_) (fun c_73 => ?_)
  · obtain rfl : i = 6 := by omega
    have ec_r102_1_h_8 : 0 = (nI 0) := by first | rfl | (rfl)
    have ew_r102_1 : ([(h, .inr (2, [.ref vR, .ref vQ, .ref vF, .ref vW, .ref vP, .ref vH, .ref vN, .ref vO, .int 0, .int 0, .int 0])), (vR, .inl (cI, 6, .inl (vRm 6))), (vQ, .inl (cI, 6, .inl (vQm 6))), (vF, .inl (cI, 6, .inl z0)), (vW, .inl (cI, 16, .inl z0)), (vP, .inl (cI, 16, .inl z0)), (vH, .inl (cI, 16, .inl z0)), (vN, .inl (cI, 16, .inl z0)), (vO, .inl (cI, 16, .inl z0))] : va_W) = [(h, .inr (2, [.ref vR, .ref vQ, .ref vF, .ref vW, .ref vP, .ref vH, .ref vN, .ref vO, .int (nI 0), .int 0, .int 0])), (vR, .inl (cI, 6, .inl (vRm 6))), (vQ, .inl (cI, 6, .inl (vQm 6))), (vF, .inl (cI, 6, .inl z0)), (vW, .inl (cI, 16, .inl z0)), (vP, .inl (cI, 16, .inl z0)), (vH, .inl (cI, 16, .inl z0)), (vN, .inl (cI, 16, .inl z0)), (vO, .inl (cI, 16, .inl z0))] := (congrArg (fun z_ => ([(h, .inr (2, [.ref vR, .ref vQ, .ref vF, .ref vW, .ref vP, .ref vH, .ref vN, .ref vO, .int z_, .int 0, .int 0])), (vR, .inl (cI, 6, .inl (vRm 6))), (vQ, .inl (cI, 6, .inl (vQm 6))), (vF, .inl (cI, 6, .inl z0)), (vW, .inl (cI, 16, .inl z0)), (vP, .inl (cI, 16, .inl z0)), (vH, .inl (cI, 16, .inl z0)), (vN, .inl (cI, 16, .inl z0)), (vO, .inl (cI, 16, .inl z0))] : va_W)) ec_r102_1_h_8)
    have hP9 := (w_cgP ew_r102_1 hP)
    have hD9 := (w_cgD ew_r102_1 hD)
    exact W.vret hx hb hr (fun t ht hW => ⟨⟨(vR, vQ, vF, vW, vP, vH, vN, vO), rfl, trivial, by rw [ht]; exact hP9, va_K.moved hW.alike hK, hD9⟩, hS.F ht⟩) hS.2.2 dX3_init_102
  · refine lv_aload_n hx hb dX3_init_76 rfl (lv_at hl 0 rfl) ?_
    refine va_get (D := (dC, dI)) (ci := 2) (v := .ref vR) (C := RX3) (T := TX3) (N := 11) hx hb hts hiX3 hown hK hP 0 rfl rfl 0 (by decide) hf9 (fun _ h9 => h9) rfl dX3_init_77 ?_
    refine lv_iload_n hx hb dX3_init_80 rfl (lv_at hl 1 rfl) ?_
    refine lv_bipush (v := (nI 30)) hx hb dX3_init_81 (by decide) ?_
    refine n_iast hx hb hK hP hD hS 1 0 rfl rfl (show i < 6 from by omega) (by decide) dX3_init_83 (fun H locs hP hD hS => ?_)
    replace hP : va_P (dC, dI) vwCl [(h, .inr (2, [.ref vR, .ref vQ, .ref vF, .ref vW, .ref vP, .ref vH, .ref vN, .ref vO, .int 0, .int 0, .int 0])), (vR, .inl (cI, 6, .inl (upd (vRm i) i (nI 30)))), (vQ, .inl (cI, 6, .inl (vQm i))), (vF, .inl (cI, 6, .inl z0)), (vW, .inl (cI, 16, .inl z0)), (vP, .inl (cI, 16, .inl z0)), (vH, .inl (cI, 16, .inl z0)), (vN, .inl (cI, 16, .inl z0)), (vO, .inl (cI, 16, .inl z0))] H := hP
    replace hD : va_D A [(h, .inr (2, [.ref vR, .ref vQ, .ref vF, .ref vW, .ref vP, .ref vH, .ref vN, .ref vO, .int 0, .int 0, .int 0])), (vR, .inl (cI, 6, .inl (upd (vRm i) i (nI 30)))), (vQ, .inl (cI, 6, .inl (vQm i))), (vF, .inl (cI, 6, .inl z0)), (vW, .inl (cI, 16, .inl z0)), (vP, .inl (cI, 16, .inl z0)), (vH, .inl (cI, 16, .inl z0)), (vN, .inl (cI, 16, .inl z0)), (vO, .inl (cI, 16, .inl z0))] := hD
    refine lv_aload_n hx hb dX3_init_84 rfl (lv_at hl 0 rfl) ?_
    refine va_get (D := (dC, dI)) (ci := 2) (v := .ref vQ) (C := RX3) (T := TX3) (N := 11) hx hb hts hiX3 hown hK hP 0 rfl rfl 1 (by decide) hf15 (fun _ h9 => h9) rfl dX3_init_85 ?_
    refine lv_iload_n hx hb dX3_init_88 rfl (lv_at hl 1 rfl) ?_
    refine lv_bipush (v := (nI 10)) hx hb dX3_init_89 (by decide) ?_
    refine lv_iload_n hx hb dX3_init_91 rfl (lv_at hl 1 rfl) ?_
    refine lv_iconst (v := (nI 1)) hx hb dX3_init_92 (by decide) ?_
    refine n_iadd hx hb dX3_init_93 ?_
    refine n_imul hx hb dX3_init_94 ?_
    refine n_iast hx hb hK hP hD hS 2 0 rfl rfl (show i < 6 from by omega) (by decide) dX3_init_95 (fun H locs hP hD hS => ?_)
    replace hP : va_P (dC, dI) vwCl [(h, .inr (2, [.ref vR, .ref vQ, .ref vF, .ref vW, .ref vP, .ref vH, .ref vN, .ref vO, .int 0, .int 0, .int 0])), (vR, .inl (cI, 6, .inl (upd (vRm i) i (nI 30)))), (vQ, .inl (cI, 6, .inl (upd (vQm i) i (nI (10 * (i + 1)))))), (vF, .inl (cI, 6, .inl z0)), (vW, .inl (cI, 16, .inl z0)), (vP, .inl (cI, 16, .inl z0)), (vH, .inl (cI, 16, .inl z0)), (vN, .inl (cI, 16, .inl z0)), (vO, .inl (cI, 16, .inl z0))] H := hP
    replace hD : va_D A [(h, .inr (2, [.ref vR, .ref vQ, .ref vF, .ref vW, .ref vP, .ref vH, .ref vN, .ref vO, .int 0, .int 0, .int 0])), (vR, .inl (cI, 6, .inl (upd (vRm i) i (nI 30)))), (vQ, .inl (cI, 6, .inl (upd (vQm i) i (nI (10 * (i + 1)))))), (vF, .inl (cI, 6, .inl z0)), (vW, .inl (cI, 16, .inl z0)), (vP, .inl (cI, 16, .inl z0)), (vH, .inl (cI, 16, .inl z0)), (vN, .inl (cI, 16, .inl z0)), (vO, .inl (cI, 16, .inl z0))] := hD
    refine lv_iinc (v := (nI (i + 1))) (lv' := [(1, .int (nI (i + 1))), (0, .ref h)]) hx hb dX3_init_96 hl (k := 1) rfl (n_inc _ 1) (by decide) rfl (fun ls hl => ?_)
    refine lv_goto (tgt := 70) hx hb dX3_init_99 (by decide) ?_
    have ec_b70_2_vR : (upd (vRm i) i (nI 30)) = (vRm (i + 1)) := by rfl
    have ec_b70_2_vQ : (upd (vQm i) i (nI (10 * (i + 1)))) = (vQm (i + 1)) := by rfl
    have ew_b70_2 : ([(h, .inr (2, [.ref vR, .ref vQ, .ref vF, .ref vW, .ref vP, .ref vH, .ref vN, .ref vO, .int 0, .int 0, .int 0])), (vR, .inl (cI, 6, .inl (upd (vRm i) i (nI 30)))), (vQ, .inl (cI, 6, .inl (upd (vQm i) i (nI (10 * (i + 1)))))), (vF, .inl (cI, 6, .inl z0)), (vW, .inl (cI, 16, .inl z0)), (vP, .inl (cI, 16, .inl z0)), (vH, .inl (cI, 16, .inl z0)), (vN, .inl (cI, 16, .inl z0)), (vO, .inl (cI, 16, .inl z0))] : va_W) = [(h, .inr (2, [.ref vR, .ref vQ, .ref vF, .ref vW, .ref vP, .ref vH, .ref vN, .ref vO, .int 0, .int 0, .int 0])), (vR, .inl (cI, 6, .inl (vRm (i + 1)))), (vQ, .inl (cI, 6, .inl (vQm (i + 1)))), (vF, .inl (cI, 6, .inl z0)), (vW, .inl (cI, 16, .inl z0)), (vP, .inl (cI, 16, .inl z0)), (vH, .inl (cI, 16, .inl z0)), (vN, .inl (cI, 16, .inl z0)), (vO, .inl (cI, 16, .inl z0))] := ((congrArg (fun z_ => ([(h, .inr (2, [.ref vR, .ref vQ, .ref vF, .ref vW, .ref vP, .ref vH, .ref vN, .ref vO, .int 0, .int 0, .int 0])), (vR, .inl (cI, 6, .inl z_)), (vQ, .inl (cI, 6, .inl (upd (vQm i) i (nI (10 * (i + 1)))))), (vF, .inl (cI, 6, .inl z0)), (vW, .inl (cI, 16, .inl z0)), (vP, .inl (cI, 16, .inl z0)), (vH, .inl (cI, 16, .inl z0)), (vN, .inl (cI, 16, .inl z0)), (vO, .inl (cI, 16, .inl z0))] : va_W)) ec_b70_2_vR).trans (congrArg (fun z_ => ([(h, .inr (2, [.ref vR, .ref vQ, .ref vF, .ref vW, .ref vP, .ref vH, .ref vN, .ref vO, .int 0, .int 0, .int 0])), (vR, .inl (cI, 6, .inl (vRm (i + 1)))), (vQ, .inl (cI, 6, .inl z_)), (vF, .inl (cI, 6, .inl z0)), (vW, .inl (cI, 16, .inl z0)), (vP, .inl (cI, 16, .inl z0)), (vH, .inl (cI, 16, .inl z0)), (vN, .inl (cI, 16, .inl z0)), (vO, .inl (cI, 16, .inl z0))] : va_W)) ec_b70_2_vQ))
    exact ih70 (i + 1) H locs ls ⟨by omega, (w_cgP ew_b70_2 hP), (w_cgD ew_b70_2 hD), hS, lv_sub hl [1, 0] rfl⟩ (by first | omega | (dsimp only; omega))
set_option maxHeartbeats 4000000 in
set_option maxRecDepth 100000 in
theorem kX1_init (l : Launch) (dC : Nat → ClassId) (dI : Nat → Nat → Nat) (cI cV cW : ClassId) (sz : Nat) (x : Nat)  : Met l yX1_init wsX1_init ({ frames := 1, cells := 4, slots := 240, locals := 12 }) (pWc (dC, dI) (tyS cI cV cW) sz [.ref x] [(x, .inr (0, [.null, .null, .null, .null, .int 0, .int 0, .int 0]))]) (va_Qv (fun (u : Nat × Nat × Nat × Nat) => match u with | (xS, xW, xN, xH) => True) (fun (u : Nat × Nat × Nat × Nat) t => match u with | (xS, xW, xN, xH) => qB (dC, dI) (tyS cI cV cW) (va_A [(x, .inr (0, [.null, .null, .null, .null, .int 0, .int 0, .int 0]))] sz) [(x, .inr (0, [.ref xS, .ref xW, .ref xN, .ref xH, .int (nI 0), .int (nI 0), .int (nI 0)])), (xS, .inl (cI, 60, .inl z0)), (xW, .inl (cW, 60, .inr (.inr (.inr (.inr no0))))), (xN, .inl (cI, 60, .inl z0)), (xH, .inl (cI, 60, .inl z0))] t) (va_A [(x, .inr (0, [.null, .null, .null, .null, .int 0, .int 0, .int 0]))] sz)) 4 240 (va_A [(x, .inr (0, [.null, .null, .null, .null, .int 0, .int 0, .int 0]))] sz) := by
  refine Met.ofW (cc := cX1_init) (maxL := 1) (ret := none) (by decide) rfl ?_
  intro p e s m args below meth c s₁ B hml hv
  obtain ⟨rfl, hsz, hP, hK, hD0, hCn⟩ := hv
  have hx := B.exec
  have hb := B.bytes
  have hr := B.returns
  have hts := atoms_spec (ws := wsX1_init) B.pre
  have hown : s.vm.findClass RX1 = some m.cls := findClass_of_methodNamed B.named
  have hlocks := B.notSynchronized
  have hin : meth.name = "<init>" := (name_of_methodNamed B.named B.method).1
  subst hsz
  have hD := hD0.self (sz := s.heap.size)
  generalize hAe : va_A [(x, .inr (0, [.null, .null, .null, .null, .int 0, .int 0, .int 0]))] s.heap.size = A at hD ⊢
  have hA : ∀ q : Nat, s.heap.size ≤ q → A q := fun q h => by rw [← hAe]; exact Or.inr h
  have hS : va_S A s.heap s.heap [] := va_S.rf
  refine w_gen hP hS (fun H locs hP hS => ?_)
  have hf9 := hts (.fieldLink RX1 9 "VaultShelves$OrderText" "signs" "[I") (by decide +kernel)
  have hf17 := hts (.fieldLink RX1 17 "VaultShelves$OrderText" "words" "[LVaultShelves$Word;") (by decide +kernel)
  have hf21 := hts (.fieldLink RX1 21 "VaultShelves$OrderText" "numbers" "[I") (by decide +kernel)
  have hf24 := hts (.fieldLink RX1 24 "VaultShelves$OrderText" "shelves" "[I") (by decide +kernel)
  have hiX1 : ∀ w ∈ u_ws RX1 TX1 7, w ∈ wsX1_init := by decide +kernel
  have hl := lv_entry ([.ref x]) (n := 1) (Nat.le_of_ble_eq_true rfl)
  rw [lg_entry_eq]
  generalize (lg_sl ([.ref x]) ++ List.replicate (1 - (lg_sl ([.ref x])).length) Slot.unset).toArray = ls at hl ⊢
  replace hl : lv_has ls 1 [(0, .ref x)] := hl
  refine lv_aload_n hx hb dX1_init_0 rfl (lv_at hl 0 rfl) ?_
  refine W.objInit hx hb hown (hts (.methodLink RX1 3 objectInit) (by decide +kernel)) (hts (.instanceMethod objectInit) (by decide +kernel)) (hts (.code objectInit ⟨#[0xb1]⟩ 1 none) (List.mem_of_getElem? (i := 3) rfl)) rfl (by rw [hml]; exact hl.1) rfl dX1_init_1 (Nat.le_of_ble_eq_true rfl) (Nat.le_of_ble_eq_true rfl) ?_
  refine W.eq (g2 := F0 m 4 ls []) rfl ?_
  refine lv_aload_n hx hb dX1_init_4 rfl (lv_at hl 0 rfl) ?_
  refine lv_bipush (v := (nI 60)) hx hb dX1_init_5 (by decide) ?_
  refine n_newa hx hb (hts (.arrayClass .int) (by decide +kernel)) hK hP hD hS hA 0 rfl (n := 60) (by decide) (by decide) (Nat.le_of_ble_eq_true rfl) (Nat.le_of_ble_eq_true rfl) dX1_init_7 (fun xS H hP hD hS => ?_)
  replace hP : va_P (dC, dI) vwCl [(x, .inr (0, [.null, .null, .null, .null, .int 0, .int 0, .int 0])), (xS, .inl (cI, 60, .inl z0))] H := hP
  replace hD : va_D A [(x, .inr (0, [.null, .null, .null, .null, .int 0, .int 0, .int 0])), (xS, .inl (cI, 60, .inl z0))] := hD
  refine W.widen (k := 1) (n := 60) (by decide) (by decide) ?_
  refine va_putF (D := (dC, dI)) (ci := 0) (v := .ref xS) (ty := tyX1 0) (C := RX1) (T := TX1) (N := 7) hx hb hts hiX1 tyX1 tyX1_ok nmX1 hown hK hP hD hS 0 rfl rfl 0 (by decide) hf9 (fun _ h9 => h9) rfl hin rfl (by decide +kernel) rfl rfl (Nat.le_of_ble_eq_true rfl) dX1_init_9 (fun H locs hP hD hS => ?_)
  replace hP : va_P (dC, dI) vwCl [(x, .inr (0, [.ref xS, .null, .null, .null, .int 0, .int 0, .int 0])), (xS, .inl (cI, 60, .inl z0))] H := hP
  replace hD : va_D A [(x, .inr (0, [.ref xS, .null, .null, .null, .int 0, .int 0, .int 0])), (xS, .inl (cI, 60, .inl z0))] := hD
  refine lv_aload_n hx hb dX1_init_12 rfl (lv_at hl 0 rfl) ?_
  refine lv_bipush (v := (nI 60)) hx hb dX1_init_13 (by decide) ?_
  refine n_newq hx hb hown (hts (.classLink RX1 15 RX4) (by decide +kernel)) hCn.2.1 hK hP hD hS hA 2 rfl (n := 60) (by decide) (by decide) (Nat.le_of_ble_eq_true rfl) (Nat.le_of_ble_eq_true rfl) dX1_init_15 (fun xW H hP hD hS => ?_)
  replace hP : va_P (dC, dI) vwCl [(x, .inr (0, [.ref xS, .null, .null, .null, .int 0, .int 0, .int 0])), (xS, .inl (cI, 60, .inl z0)), (xW, .inl (cW, 60, .inr (.inr (.inr (.inr no0)))))] H := hP
  replace hD : va_D A [(x, .inr (0, [.ref xS, .null, .null, .null, .int 0, .int 0, .int 0])), (xS, .inl (cI, 60, .inl z0)), (xW, .inl (cW, 60, .inr (.inr (.inr (.inr no0)))))] := hD
  refine W.widen (k := 2) (n := 120) (by decide) (by decide) ?_
  refine va_putF (D := (dC, dI)) (ci := 0) (v := .ref xW) (ty := tyX1 1) (C := RX1) (T := TX1) (N := 7) hx hb hts hiX1 tyX1 tyX1_ok nmX1 hown hK hP hD hS 0 rfl rfl 1 (by decide) hf17 (fun _ h9 => h9) rfl hin rfl (by decide +kernel) rfl rfl (Nat.le_of_ble_eq_true rfl) dX1_init_18 (fun H locs hP hD hS => ?_)
  replace hP : va_P (dC, dI) vwCl [(x, .inr (0, [.ref xS, .ref xW, .null, .null, .int 0, .int 0, .int 0])), (xS, .inl (cI, 60, .inl z0)), (xW, .inl (cW, 60, .inr (.inr (.inr (.inr no0)))))] H := hP
  replace hD : va_D A [(x, .inr (0, [.ref xS, .ref xW, .null, .null, .int 0, .int 0, .int 0])), (xS, .inl (cI, 60, .inl z0)), (xW, .inl (cW, 60, .inr (.inr (.inr (.inr no0)))))] := hD
  refine lv_aload_n hx hb dX1_init_21 rfl (lv_at hl 0 rfl) ?_
  refine lv_bipush (v := (nI 60)) hx hb dX1_init_22 (by decide) ?_
  refine n_newa hx hb (hts (.arrayClass .int) (by decide +kernel)) hK hP hD hS hA 0 rfl (n := 60) (by decide) (by decide) (Nat.le_of_ble_eq_true rfl) (Nat.le_of_ble_eq_true rfl) dX1_init_24 (fun xN H hP hD hS => ?_)
  replace hP : va_P (dC, dI) vwCl [(x, .inr (0, [.ref xS, .ref xW, .null, .null, .int 0, .int 0, .int 0])), (xS, .inl (cI, 60, .inl z0)), (xW, .inl (cW, 60, .inr (.inr (.inr (.inr no0))))), (xN, .inl (cI, 60, .inl z0))] H := hP
  replace hD : va_D A [(x, .inr (0, [.ref xS, .ref xW, .null, .null, .int 0, .int 0, .int 0])), (xS, .inl (cI, 60, .inl z0)), (xW, .inl (cW, 60, .inr (.inr (.inr (.inr no0))))), (xN, .inl (cI, 60, .inl z0))] := hD
  refine W.widen (k := 3) (n := 180) (by decide) (by decide) ?_
  refine va_putF (D := (dC, dI)) (ci := 0) (v := .ref xN) (ty := tyX1 2) (C := RX1) (T := TX1) (N := 7) hx hb hts hiX1 tyX1 tyX1_ok nmX1 hown hK hP hD hS 0 rfl rfl 2 (by decide) hf21 (fun _ h9 => h9) rfl hin rfl (by decide +kernel) rfl rfl (Nat.le_of_ble_eq_true rfl) dX1_init_26 (fun H locs hP hD hS => ?_)
  replace hP : va_P (dC, dI) vwCl [(x, .inr (0, [.ref xS, .ref xW, .ref xN, .null, .int 0, .int 0, .int 0])), (xS, .inl (cI, 60, .inl z0)), (xW, .inl (cW, 60, .inr (.inr (.inr (.inr no0))))), (xN, .inl (cI, 60, .inl z0))] H := hP
  replace hD : va_D A [(x, .inr (0, [.ref xS, .ref xW, .ref xN, .null, .int 0, .int 0, .int 0])), (xS, .inl (cI, 60, .inl z0)), (xW, .inl (cW, 60, .inr (.inr (.inr (.inr no0))))), (xN, .inl (cI, 60, .inl z0))] := hD
  refine lv_aload_n hx hb dX1_init_29 rfl (lv_at hl 0 rfl) ?_
  refine lv_bipush (v := (nI 60)) hx hb dX1_init_30 (by decide) ?_
  refine n_newa hx hb (hts (.arrayClass .int) (by decide +kernel)) hK hP hD hS hA 0 rfl (n := 60) (by decide) (by decide) (Nat.le_of_ble_eq_true rfl) (Nat.le_of_ble_eq_true rfl) dX1_init_32 (fun xH H hP hD hS => ?_)
  replace hP : va_P (dC, dI) vwCl [(x, .inr (0, [.ref xS, .ref xW, .ref xN, .null, .int 0, .int 0, .int 0])), (xS, .inl (cI, 60, .inl z0)), (xW, .inl (cW, 60, .inr (.inr (.inr (.inr no0))))), (xN, .inl (cI, 60, .inl z0)), (xH, .inl (cI, 60, .inl z0))] H := hP
  replace hD : va_D A [(x, .inr (0, [.ref xS, .ref xW, .ref xN, .null, .int 0, .int 0, .int 0])), (xS, .inl (cI, 60, .inl z0)), (xW, .inl (cW, 60, .inr (.inr (.inr (.inr no0))))), (xN, .inl (cI, 60, .inl z0)), (xH, .inl (cI, 60, .inl z0))] := hD
  refine W.widen (k := 4) (n := 240) (by decide) (by decide) ?_
  refine va_putF (D := (dC, dI)) (ci := 0) (v := .ref xH) (ty := tyX1 3) (C := RX1) (T := TX1) (N := 7) hx hb hts hiX1 tyX1 tyX1_ok nmX1 hown hK hP hD hS 0 rfl rfl 3 (by decide) hf24 (fun _ h9 => h9) rfl hin rfl (by decide +kernel) rfl rfl (Nat.le_of_ble_eq_true rfl) dX1_init_34 (fun H locs hP hD hS => ?_)
  replace hP : va_P (dC, dI) vwCl [(x, .inr (0, [.ref xS, .ref xW, .ref xN, .ref xH, .int 0, .int 0, .int 0])), (xS, .inl (cI, 60, .inl z0)), (xW, .inl (cW, 60, .inr (.inr (.inr (.inr no0))))), (xN, .inl (cI, 60, .inl z0)), (xH, .inl (cI, 60, .inl z0))] H := hP
  replace hD : va_D A [(x, .inr (0, [.ref xS, .ref xW, .ref xN, .ref xH, .int 0, .int 0, .int 0])), (xS, .inl (cI, 60, .inl z0)), (xW, .inl (cW, 60, .inr (.inr (.inr (.inr no0))))), (xN, .inl (cI, 60, .inl z0)), (xH, .inl (cI, 60, .inl z0))] := hD
  have ec_r37_1_x_4 : 0 = (nI 0) := by first | rfl | (rfl)
  have ec_r37_1_x_5 : 0 = (nI 0) := by first | rfl | (rfl)
  have ec_r37_1_x_6 : 0 = (nI 0) := by first | rfl | (rfl)
  have ew_r37_1 : ([(x, .inr (0, [.ref xS, .ref xW, .ref xN, .ref xH, .int 0, .int 0, .int 0])), (xS, .inl (cI, 60, .inl z0)), (xW, .inl (cW, 60, .inr (.inr (.inr (.inr no0))))), (xN, .inl (cI, 60, .inl z0)), (xH, .inl (cI, 60, .inl z0))] : va_W) = [(x, .inr (0, [.ref xS, .ref xW, .ref xN, .ref xH, .int (nI 0), .int (nI 0), .int (nI 0)])), (xS, .inl (cI, 60, .inl z0)), (xW, .inl (cW, 60, .inr (.inr (.inr (.inr no0))))), (xN, .inl (cI, 60, .inl z0)), (xH, .inl (cI, 60, .inl z0))] := (((congrArg (fun z_ => ([(x, .inr (0, [.ref xS, .ref xW, .ref xN, .ref xH, .int z_, .int 0, .int 0])), (xS, .inl (cI, 60, .inl z0)), (xW, .inl (cW, 60, .inr (.inr (.inr (.inr no0))))), (xN, .inl (cI, 60, .inl z0)), (xH, .inl (cI, 60, .inl z0))] : va_W)) ec_r37_1_x_4).trans (congrArg (fun z_ => ([(x, .inr (0, [.ref xS, .ref xW, .ref xN, .ref xH, .int (nI 0), .int z_, .int 0])), (xS, .inl (cI, 60, .inl z0)), (xW, .inl (cW, 60, .inr (.inr (.inr (.inr no0))))), (xN, .inl (cI, 60, .inl z0)), (xH, .inl (cI, 60, .inl z0))] : va_W)) ec_r37_1_x_5)).trans (congrArg (fun z_ => ([(x, .inr (0, [.ref xS, .ref xW, .ref xN, .ref xH, .int (nI 0), .int (nI 0), .int z_])), (xS, .inl (cI, 60, .inl z0)), (xW, .inl (cW, 60, .inr (.inr (.inr (.inr no0))))), (xN, .inl (cI, 60, .inl z0)), (xH, .inl (cI, 60, .inl z0))] : va_W)) ec_r37_1_x_6))
  have hP9 := (w_cgP ew_r37_1 hP)
  have hD9 := (w_cgD ew_r37_1 hD)
  exact W.vret hx hb hr (fun t ht hW => ⟨⟨(xS, xW, xN, xH), rfl, trivial, by rw [ht]; exact hP9, va_K.moved hW.alike hK, hD9⟩, hS.F ht⟩) hS.2.2 dX1_init_37
