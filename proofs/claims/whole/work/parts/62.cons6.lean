/-- the check's first row -/
def mS0 : Nat → Nat → Int32
  | 0 => z0
  | i + 1 => upd (upd (mS0 i) (3 + i) (nI 30)) (9 + i) (nI (10 + 10 * i))
set_option maxHeartbeats 4000000 in
set_option maxRecDepth 100000 in
theorem kX6_init (l : Launch) (dC : Nat → ClassId) (dI : Nat → Nat → Nat) (cI cV cW : ClassId) (sz : Nat) (o : Nat)  : Met l yX6_init wsX6_init ({ frames := 1, cells := 5, slots := 876, locals := 12 }) (pW (dC, dI) (tyS cI cV cW) sz [.ref o] [(o, .inr (4, [.int 0, .null, .null, .null, .int 0, .null, .int 0, .int 0, .int (bI false), .null, .int 0, .int 0, .int 0, .int 0, .int (bI false), .long 0]))]) (va_Qv (fun (u : Nat × Nat × Nat × Nat × Nat) => match u with | (cS, cX, cA, cB, cR) => True) (fun (u : Nat × Nat × Nat × Nat × Nat) t => match u with | (cS, cX, cA, cB, cR) => qB (dC, dI) (tyS cI cV cW) (va_A [(o, .inr (4, [.int 0, .null, .null, .null, .int 0, .null, .int 0, .int 0, .int (bI false), .null, .int 0, .int 0, .int 0, .int 0, .int (bI false), .long 0]))] sz) [(o, .inr (4, [.int 0, .ref cS, .ref cX, .ref cA, .int 0, .ref cB, .int 0, .int 0, .int (bI false), .ref cR, .int 0, .int 0, .int 0, .int 0, .int (bI false), .long 0])), (cS, .inl (cI, 96, .inl (mS0 6))), (cX, .inl (cI, 96, .inl z0)), (cA, .inl (cI, 576, .inl z0)), (cB, .inl (cI, 60, .inl z0)), (cR, .inl (cI, 48, .inl z0))] t) (va_A [(o, .inr (4, [.int 0, .null, .null, .null, .int 0, .null, .int 0, .int 0, .int (bI false), .null, .int 0, .int 0, .int 0, .int 0, .int (bI false), .long 0]))] sz)) 5 876 (va_A [(o, .inr (4, [.int 0, .null, .null, .null, .int 0, .null, .int 0, .int 0, .int (bI false), .null, .int 0, .int 0, .int 0, .int 0, .int (bI false), .long 0]))] sz) := by
  refine Met.ofW (cc := cX6_init) (maxL := 2) (ret := none) (by decide) rfl ?_
  intro p e s m args below meth c s₁ B hml hv
  obtain ⟨rfl, hsz, hP, hK, hD0⟩ := hv
  have hx := B.exec
  have hb := B.bytes
  have hr := B.returns
  have hts := atoms_spec (ws := wsX6_init) B.pre
  have hown : s.vm.findClass RX6 = some m.cls := findClass_of_methodNamed B.named
  have hlocks := B.notSynchronized
  have hin : meth.name = "<init>" := (name_of_methodNamed B.named B.method).1
  subst hsz
  have hD := hD0.self (sz := s.heap.size)
  generalize hAe : va_A [(o, .inr (4, [.int 0, .null, .null, .null, .int 0, .null, .int 0, .int 0, .int (bI false), .null, .int 0, .int 0, .int 0, .int 0, .int (bI false), .long 0]))] s.heap.size = A at hD ⊢
  have hA : ∀ q : Nat, s.heap.size ≤ q → A q := fun q h => by rw [← hAe]; exact Or.inr h
  have hS : va_S A s.heap s.heap [] := va_S.rf
  refine w_gen hP hS (fun H locs hP hS => ?_)
  have hf7 := hts (.fieldLink RX6 7 "VaultShelvesModel" "s" "[I") (by decide +kernel)
  have hf13 := hts (.fieldLink RX6 13 "VaultShelvesModel" "aside" "[I") (by decide +kernel)
  have hf16 := hts (.fieldLink RX6 16 "VaultShelvesModel" "saved" "[I") (by decide +kernel)
  have hf19 := hts (.fieldLink RX6 19 "VaultShelvesModel" "buffer" "[I") (by decide +kernel)
  have hf22 := hts (.fieldLink RX6 22 "VaultShelvesModel" "read" "[I") (by decide +kernel)
  have hf25 := hts (.fieldLink RX6 25 "VaultShelvesModel" "thrown" "I") (by decide +kernel)
  have hiX6 : ∀ w ∈ u_ws RX6 TX6 16, w ∈ wsX6_init := by decide +kernel
  have hl := lv_entry ([.ref o]) (n := 2) (Nat.le_of_ble_eq_true rfl)
  rw [lg_entry_eq]
  generalize (lg_sl ([.ref o]) ++ List.replicate (2 - (lg_sl ([.ref o])).length) Slot.unset).toArray = ls at hl ⊢
  replace hl : lv_has ls 2 [(0, .ref o)] := hl
  refine lv_aload_n hx hb dX6_init_0 rfl (lv_at hl 0 rfl) ?_
  refine W.objInit hx hb hown (hts (.methodLink RX6 1 objectInit) (by decide +kernel)) (hts (.instanceMethod objectInit) (by decide +kernel)) (hts (.code objectInit ⟨#[0xb1]⟩ 1 none) (List.mem_of_getElem? (i := 3) rfl)) rfl (by rw [hml]; exact hl.1) rfl dX6_init_1 (Nat.le_of_ble_eq_true rfl) (Nat.le_of_ble_eq_true rfl) ?_
  refine W.eq (g2 := F0 m 4 ls []) rfl ?_
  refine lv_aload_n hx hb dX6_init_4 rfl (lv_at hl 0 rfl) ?_
  refine lv_bipush (v := (nI 96)) hx hb dX6_init_5 (by decide) ?_
  refine n_newa hx hb (hts (.arrayClass .int) (by decide +kernel)) hK hP hD hS hA 0 rfl (n := 96) (by decide) (by decide) (Nat.le_of_ble_eq_true rfl) (Nat.le_of_ble_eq_true rfl) dX6_init_7 (fun cS H hP hD hS => ?_)
  replace hP : va_P (dC, dI) vwCl [(o, .inr (4, [.int 0, .null, .null, .null, .int 0, .null, .int 0, .int 0, .int (bI false), .null, .int 0, .int 0, .int 0, .int 0, .int (bI false), .long 0])), (cS, .inl (cI, 96, .inl z0))] H := hP
  replace hD : va_D A [(o, .inr (4, [.int 0, .null, .null, .null, .int 0, .null, .int 0, .int 0, .int (bI false), .null, .int 0, .int 0, .int 0, .int 0, .int (bI false), .long 0])), (cS, .inl (cI, 96, .inl z0))] := hD
  refine W.widen (k := 1) (n := 96) (by decide) (by decide) ?_
  refine va_putF (D := (dC, dI)) (ci := 4) (v := .ref cS) (ty := tyX6 1) (C := RX6) (T := TX6) (N := 16) hx hb hts hiX6 tyX6 tyX6_ok nmX6 hown hK hP hD hS 0 rfl rfl 1 (by decide) hf7 (fun _ h9 => h9) rfl hin rfl (by decide +kernel) rfl rfl (Nat.le_of_ble_eq_true rfl) dX6_init_9 (fun H locs hP hD hS => ?_)
  replace hP : va_P (dC, dI) vwCl [(o, .inr (4, [.int 0, .ref cS, .null, .null, .int 0, .null, .int 0, .int 0, .int (bI false), .null, .int 0, .int 0, .int 0, .int 0, .int (bI false), .long 0])), (cS, .inl (cI, 96, .inl z0))] H := hP
  replace hD : va_D A [(o, .inr (4, [.int 0, .ref cS, .null, .null, .int 0, .null, .int 0, .int 0, .int (bI false), .null, .int 0, .int 0, .int 0, .int 0, .int (bI false), .long 0])), (cS, .inl (cI, 96, .inl z0))] := hD
  refine lv_aload_n hx hb dX6_init_12 rfl (lv_at hl 0 rfl) ?_
  refine lv_bipush (v := (nI 96)) hx hb dX6_init_13 (by decide) ?_
  refine n_newa hx hb (hts (.arrayClass .int) (by decide +kernel)) hK hP hD hS hA 0 rfl (n := 96) (by decide) (by decide) (Nat.le_of_ble_eq_true rfl) (Nat.le_of_ble_eq_true rfl) dX6_init_15 (fun cX H hP hD hS => ?_)
  replace hP : va_P (dC, dI) vwCl [(o, .inr (4, [.int 0, .ref cS, .null, .null, .int 0, .null, .int 0, .int 0, .int (bI false), .null, .int 0, .int 0, .int 0, .int 0, .int (bI false), .long 0])), (cS, .inl (cI, 96, .inl z0)), (cX, .inl (cI, 96, .inl z0))] H := hP
  replace hD : va_D A [(o, .inr (4, [.int 0, .ref cS, .null, .null, .int 0, .null, .int 0, .int 0, .int (bI false), .null, .int 0, .int 0, .int 0, .int 0, .int (bI false), .long 0])), (cS, .inl (cI, 96, .inl z0)), (cX, .inl (cI, 96, .inl z0))] := hD
  refine W.widen (k := 2) (n := 192) (by decide) (by decide) ?_
  refine va_putF (D := (dC, dI)) (ci := 4) (v := .ref cX) (ty := tyX6 2) (C := RX6) (T := TX6) (N := 16) hx hb hts hiX6 tyX6 tyX6_ok nmX6 hown hK hP hD hS 0 rfl rfl 2 (by decide) hf13 (fun _ h9 => h9) rfl hin rfl (by decide +kernel) rfl rfl (Nat.le_of_ble_eq_true rfl) dX6_init_17 (fun H locs hP hD hS => ?_)
  replace hP : va_P (dC, dI) vwCl [(o, .inr (4, [.int 0, .ref cS, .ref cX, .null, .int 0, .null, .int 0, .int 0, .int (bI false), .null, .int 0, .int 0, .int 0, .int 0, .int (bI false), .long 0])), (cS, .inl (cI, 96, .inl z0)), (cX, .inl (cI, 96, .inl z0))] H := hP
  replace hD : va_D A [(o, .inr (4, [.int 0, .ref cS, .ref cX, .null, .int 0, .null, .int 0, .int 0, .int (bI false), .null, .int 0, .int 0, .int 0, .int 0, .int (bI false), .long 0])), (cS, .inl (cI, 96, .inl z0)), (cX, .inl (cI, 96, .inl z0))] := hD
  refine lv_aload_n hx hb dX6_init_20 rfl (lv_at hl 0 rfl) ?_
  refine lv_sipush (v := (nI 576)) hx hb dX6_init_21 (by decide) ?_
  refine n_newa hx hb (hts (.arrayClass .int) (by decide +kernel)) hK hP hD hS hA 0 rfl (n := 576) (by decide) (by decide) (Nat.le_of_ble_eq_true rfl) (Nat.le_of_ble_eq_true rfl) dX6_init_24 (fun cA H hP hD hS => ?_)
  replace hP : va_P (dC, dI) vwCl [(o, .inr (4, [.int 0, .ref cS, .ref cX, .null, .int 0, .null, .int 0, .int 0, .int (bI false), .null, .int 0, .int 0, .int 0, .int 0, .int (bI false), .long 0])), (cS, .inl (cI, 96, .inl z0)), (cX, .inl (cI, 96, .inl z0)), (cA, .inl (cI, 576, .inl z0))] H := hP
  replace hD : va_D A [(o, .inr (4, [.int 0, .ref cS, .ref cX, .null, .int 0, .null, .int 0, .int 0, .int (bI false), .null, .int 0, .int 0, .int 0, .int 0, .int (bI false), .long 0])), (cS, .inl (cI, 96, .inl z0)), (cX, .inl (cI, 96, .inl z0)), (cA, .inl (cI, 576, .inl z0))] := hD
  refine W.widen (k := 3) (n := 768) (by decide) (by decide) ?_
  refine va_putF (D := (dC, dI)) (ci := 4) (v := .ref cA) (ty := tyX6 3) (C := RX6) (T := TX6) (N := 16) hx hb hts hiX6 tyX6 tyX6_ok nmX6 hown hK hP hD hS 0 rfl rfl 3 (by decide) hf16 (fun _ h9 => h9) rfl hin rfl (by decide +kernel) rfl rfl (Nat.le_of_ble_eq_true rfl) dX6_init_26 (fun H locs hP hD hS => ?_)
  replace hP : va_P (dC, dI) vwCl [(o, .inr (4, [.int 0, .ref cS, .ref cX, .ref cA, .int 0, .null, .int 0, .int 0, .int (bI false), .null, .int 0, .int 0, .int 0, .int 0, .int (bI false), .long 0])), (cS, .inl (cI, 96, .inl z0)), (cX, .inl (cI, 96, .inl z0)), (cA, .inl (cI, 576, .inl z0))] H := hP
  replace hD : va_D A [(o, .inr (4, [.int 0, .ref cS, .ref cX, .ref cA, .int 0, .null, .int 0, .int 0, .int (bI false), .null, .int 0, .int 0, .int 0, .int 0, .int (bI false), .long 0])), (cS, .inl (cI, 96, .inl z0)), (cX, .inl (cI, 96, .inl z0)), (cA, .inl (cI, 576, .inl z0))] := hD
  refine lv_aload_n hx hb dX6_init_29 rfl (lv_at hl 0 rfl) ?_
  refine lv_bipush (v := (nI 60)) hx hb dX6_init_30 (by decide) ?_
  refine n_newa hx hb (hts (.arrayClass .int) (by decide +kernel)) hK hP hD hS hA 0 rfl (n := 60) (by decide) (by decide) (Nat.le_of_ble_eq_true rfl) (Nat.le_of_ble_eq_true rfl) dX6_init_32 (fun cB H hP hD hS => ?_)
  replace hP : va_P (dC, dI) vwCl [(o, .inr (4, [.int 0, .ref cS, .ref cX, .ref cA, .int 0, .null, .int 0, .int 0, .int (bI false), .null, .int 0, .int 0, .int 0, .int 0, .int (bI false), .long 0])), (cS, .inl (cI, 96, .inl z0)), (cX, .inl (cI, 96, .inl z0)), (cA, .inl (cI, 576, .inl z0)), (cB, .inl (cI, 60, .inl z0))] H := hP
  replace hD : va_D A [(o, .inr (4, [.int 0, .ref cS, .ref cX, .ref cA, .int 0, .null, .int 0, .int 0, .int (bI false), .null, .int 0, .int 0, .int 0, .int 0, .int (bI false), .long 0])), (cS, .inl (cI, 96, .inl z0)), (cX, .inl (cI, 96, .inl z0)), (cA, .inl (cI, 576, .inl z0)), (cB, .inl (cI, 60, .inl z0))] := hD
  refine W.widen (k := 4) (n := 828) (by decide) (by decide) ?_
  refine va_putF (D := (dC, dI)) (ci := 4) (v := .ref cB) (ty := tyX6 5) (C := RX6) (T := TX6) (N := 16) hx hb hts hiX6 tyX6 tyX6_ok nmX6 hown hK hP hD hS 0 rfl rfl 5 (by decide) hf19 (fun _ h9 => h9) rfl hin rfl (by decide +kernel) rfl rfl (Nat.le_of_ble_eq_true rfl) dX6_init_34 (fun H locs hP hD hS => ?_)
  replace hP : va_P (dC, dI) vwCl [(o, .inr (4, [.int 0, .ref cS, .ref cX, .ref cA, .int 0, .ref cB, .int 0, .int 0, .int (bI false), .null, .int 0, .int 0, .int 0, .int 0, .int (bI false), .long 0])), (cS, .inl (cI, 96, .inl z0)), (cX, .inl (cI, 96, .inl z0)), (cA, .inl (cI, 576, .inl z0)), (cB, .inl (cI, 60, .inl z0))] H := hP
  replace hD : va_D A [(o, .inr (4, [.int 0, .ref cS, .ref cX, .ref cA, .int 0, .ref cB, .int 0, .int 0, .int (bI false), .null, .int 0, .int 0, .int 0, .int 0, .int (bI false), .long 0])), (cS, .inl (cI, 96, .inl z0)), (cX, .inl (cI, 96, .inl z0)), (cA, .inl (cI, 576, .inl z0)), (cB, .inl (cI, 60, .inl z0))] := hD
  refine lv_aload_n hx hb dX6_init_37 rfl (lv_at hl 0 rfl) ?_
  refine lv_bipush (v := (nI 48)) hx hb dX6_init_38 (by decide) ?_
  refine n_newa hx hb (hts (.arrayClass .int) (by decide +kernel)) hK hP hD hS hA 0 rfl (n := 48) (by decide) (by decide) (Nat.le_of_ble_eq_true rfl) (Nat.le_of_ble_eq_true rfl) dX6_init_40 (fun cR H hP hD hS => ?_)
  replace hP : va_P (dC, dI) vwCl [(o, .inr (4, [.int 0, .ref cS, .ref cX, .ref cA, .int 0, .ref cB, .int 0, .int 0, .int (bI false), .null, .int 0, .int 0, .int 0, .int 0, .int (bI false), .long 0])), (cS, .inl (cI, 96, .inl z0)), (cX, .inl (cI, 96, .inl z0)), (cA, .inl (cI, 576, .inl z0)), (cB, .inl (cI, 60, .inl z0)), (cR, .inl (cI, 48, .inl z0))] H := hP
  replace hD : va_D A [(o, .inr (4, [.int 0, .ref cS, .ref cX, .ref cA, .int 0, .ref cB, .int 0, .int 0, .int (bI false), .null, .int 0, .int 0, .int 0, .int 0, .int (bI false), .long 0])), (cS, .inl (cI, 96, .inl z0)), (cX, .inl (cI, 96, .inl z0)), (cA, .inl (cI, 576, .inl z0)), (cB, .inl (cI, 60, .inl z0)), (cR, .inl (cI, 48, .inl z0))] := hD
  refine W.widen (k := 5) (n := 876) (by decide) (by decide) ?_
  refine va_putF (D := (dC, dI)) (ci := 4) (v := .ref cR) (ty := tyX6 9) (C := RX6) (T := TX6) (N := 16) hx hb hts hiX6 tyX6 tyX6_ok nmX6 hown hK hP hD hS 0 rfl rfl 9 (by decide) hf22 (fun _ h9 => h9) rfl hin rfl (by decide +kernel) rfl rfl (Nat.le_of_ble_eq_true rfl) dX6_init_42 (fun H locs hP hD hS => ?_)
  replace hP : va_P (dC, dI) vwCl [(o, .inr (4, [.int 0, .ref cS, .ref cX, .ref cA, .int 0, .ref cB, .int 0, .int 0, .int (bI false), .ref cR, .int 0, .int 0, .int 0, .int 0, .int (bI false), .long 0])), (cS, .inl (cI, 96, .inl z0)), (cX, .inl (cI, 96, .inl z0)), (cA, .inl (cI, 576, .inl z0)), (cB, .inl (cI, 60, .inl z0)), (cR, .inl (cI, 48, .inl z0))] H := hP
  replace hD : va_D A [(o, .inr (4, [.int 0, .ref cS, .ref cX, .ref cA, .int 0, .ref cB, .int 0, .int 0, .int (bI false), .ref cR, .int 0, .int 0, .int 0, .int 0, .int (bI false), .long 0])), (cS, .inl (cI, 96, .inl z0)), (cX, .inl (cI, 96, .inl z0)), (cA, .inl (cI, 576, .inl z0)), (cB, .inl (cI, 60, .inl z0)), (cR, .inl (cI, 48, .inl z0))] := hD
  refine lv_aload_n hx hb dX6_init_45 rfl (lv_at hl 0 rfl) ?_
  refine lv_iconst (v := (nI 0)) hx hb dX6_init_46 (by decide) ?_
  refine va_put (D := (dC, dI)) (ci := 4) (v := .int (nI 0)) (ty := .int) (C := RX6) (T := TX6) (N := 16) hx hb hts hiX6 tyX6 tyX6_ok nmX6 hown hK hP hD hS 0 rfl rfl 0 (by decide) hf25 (fun _ h9 => h9) rfl (by decide +kernel) rfl rfl (Nat.le_of_ble_eq_true rfl) dX6_init_47 (fun H locs hP hD hS => ?_)
  replace hP : va_P (dC, dI) vwCl [(o, .inr (4, [.int (nI 0), .ref cS, .ref cX, .ref cA, .int 0, .ref cB, .int 0, .int 0, .int (bI false), .ref cR, .int 0, .int 0, .int 0, .int 0, .int (bI false), .long 0])), (cS, .inl (cI, 96, .inl z0)), (cX, .inl (cI, 96, .inl z0)), (cA, .inl (cI, 576, .inl z0)), (cB, .inl (cI, 60, .inl z0)), (cR, .inl (cI, 48, .inl z0))] H := hP
  replace hD : va_D A [(o, .inr (4, [.int (nI 0), .ref cS, .ref cX, .ref cA, .int 0, .ref cB, .int 0, .int 0, .int (bI false), .ref cR, .int 0, .int 0, .int 0, .int 0, .int (bI false), .long 0])), (cS, .inl (cI, 96, .inl z0)), (cX, .inl (cI, 96, .inl z0)), (cA, .inl (cI, 576, .inl z0)), (cB, .inl (cI, 60, .inl z0)), (cR, .inl (cI, 48, .inl z0))] := hD
  refine lv_iconst (v := (nI 0)) hx hb dX6_init_50 (by decide) ?_
  refine lv_istore_n (lv' := [(1, .int (nI 0)), (0, .ref o)]) hx hb dX6_init_51 rfl hl (by decide) rfl (fun ls hl => ?_)
  have ec_i52_o_0 : (nI 0) = 0 := by rfl
  have ec_i52_cS : z0 = (mS0 0) := by rfl
  have ew_i52 : ([(o, .inr (4, [.int (nI 0), .ref cS, .ref cX, .ref cA, .int 0, .ref cB, .int 0, .int 0, .int (bI false), .ref cR, .int 0, .int 0, .int 0, .int 0, .int (bI false), .long 0])), (cS, .inl (cI, 96, .inl z0)), (cX, .inl (cI, 96, .inl z0)), (cA, .inl (cI, 576, .inl z0)), (cB, .inl (cI, 60, .inl z0)), (cR, .inl (cI, 48, .inl z0))] : va_W) = [(o, .inr (4, [.int 0, .ref cS, .ref cX, .ref cA, .int 0, .ref cB, .int 0, .int 0, .int (bI false), .ref cR, .int 0, .int 0, .int 0, .int 0, .int (bI false), .long 0])), (cS, .inl (cI, 96, .inl (mS0 0))), (cX, .inl (cI, 96, .inl z0)), (cA, .inl (cI, 576, .inl z0)), (cB, .inl (cI, 60, .inl z0)), (cR, .inl (cI, 48, .inl z0))] := ((congrArg (fun z_ => ([(o, .inr (4, [.int z_, .ref cS, .ref cX, .ref cA, .int 0, .ref cB, .int 0, .int 0, .int (bI false), .ref cR, .int 0, .int 0, .int 0, .int 0, .int (bI false), .long 0])), (cS, .inl (cI, 96, .inl z0)), (cX, .inl (cI, 96, .inl z0)), (cA, .inl (cI, 576, .inl z0)), (cB, .inl (cI, 60, .inl z0)), (cR, .inl (cI, 48, .inl z0))] : va_W)) ec_i52_o_0).trans (congrArg (fun z_ => ([(o, .inr (4, [.int 0, .ref cS, .ref cX, .ref cA, .int 0, .ref cB, .int 0, .int 0, .int (bI false), .ref cR, .int 0, .int 0, .int 0, .int 0, .int (bI false), .long 0])), (cS, .inl (cI, 96, .inl z_)), (cX, .inl (cI, 96, .inl z0)), (cA, .inl (cI, 576, .inl z0)), (cB, .inl (cI, 60, .inl z0)), (cR, .inl (cI, 48, .inl z0))] : va_W)) ec_i52_cS))
  have hI0 : (fun (i : Nat) ls H locs => (i ≤ 6) ∧ (va_P (dC, dI) vwCl [(o, .inr (4, [.int 0, .ref cS, .ref cX, .ref cA, .int 0, .ref cB, .int 0, .int 0, .int (bI false), .ref cR, .int 0, .int 0, .int 0, .int 0, .int (bI false), .long 0])), (cS, .inl (cI, 96, .inl (mS0 i))), (cX, .inl (cI, 96, .inl z0)), (cA, .inl (cI, 576, .inl z0)), (cB, .inl (cI, 60, .inl z0)), (cR, .inl (cI, 48, .inl z0))] H) ∧ (va_D A [(o, .inr (4, [.int 0, .ref cS, .ref cX, .ref cA, .int 0, .ref cB, .int 0, .int 0, .int (bI false), .ref cR, .int 0, .int 0, .int 0, .int 0, .int (bI false), .long 0])), (cS, .inl (cI, 96, .inl (mS0 i))), (cX, .inl (cI, 96, .inl z0)), (cA, .inl (cI, 576, .inl z0)), (cB, .inl (cI, 60, .inl z0)), (cR, .inl (cI, 48, .inl z0))]) ∧ (va_S A s.heap H locs) ∧ (lv_has ls 2 [(0, .ref o), (1, .int (nI i))])) 0 ls H locs := ⟨by omega, (w_cgP ew_i52 hP), (w_cgD ew_i52 hD), hS, lv_sub hl [1, 0] rfl⟩
  clear hl hP hD hS
  revert ls
  revert locs
  revert H
  refine lp_H (fun (i : Nat) ls H locs => (i ≤ 6) ∧ (va_P (dC, dI) vwCl [(o, .inr (4, [.int 0, .ref cS, .ref cX, .ref cA, .int 0, .ref cB, .int 0, .int 0, .int (bI false), .ref cR, .int 0, .int 0, .int 0, .int 0, .int (bI false), .long 0])), (cS, .inl (cI, 96, .inl (mS0 i))), (cX, .inl (cI, 96, .inl z0)), (cA, .inl (cI, 576, .inl z0)), (cB, .inl (cI, 60, .inl z0)), (cR, .inl (cI, 48, .inl z0))] H) ∧ (va_D A [(o, .inr (4, [.int 0, .ref cS, .ref cX, .ref cA, .int 0, .ref cB, .int 0, .int 0, .int (bI false), .ref cR, .int 0, .int 0, .int 0, .int 0, .int (bI false), .long 0])), (cS, .inl (cI, 96, .inl (mS0 i))), (cX, .inl (cI, 96, .inl z0)), (cA, .inl (cI, 576, .inl z0)), (cB, .inl (cI, 60, .inl z0)), (cR, .inl (cI, 48, .inl z0))]) ∧ (va_S A s.heap H locs) ∧ (lv_has ls 2 [(0, .ref o), (1, .int (nI i))])) (fun (i : Nat) => 6 - i) 0 (fun q_ H locs ls hI ih52 => ?_)
  obtain ⟨i, rfl⟩ : ∃ z, z = q_ := ⟨_, rfl⟩
  obtain ⟨hi, hP, hD, hS, hl⟩ := hI
  refine lv_iload_n hx hb dX6_init_52 rfl (lv_at hl 1 rfl) ?_
  refine lv_bipush (v := (nI 6)) hx hb dX6_init_53 (by decide) ?_
  refine n_icmp_ge (tgt := 90) hx hb dX6_init_55 (by decide) (by omega) (by omega) (fun c_55 => ?_) (fun c_55 => ?_)
  · obtain rfl : i = 6 := by omega
    have hP9 := hP
    have hD9 := hD
    exact W.vret hx hb hr (fun t ht hW => ⟨⟨(cS, cX, cA, cB, cR), rfl, trivial, by rw [ht]; exact hP9, va_K.moved hW.alike hK, hD9⟩, hS.F ht⟩) hS.2.2 dX6_init_90
  · refine lv_aload_n hx hb dX6_init_58 rfl (lv_at hl 0 rfl) ?_
    refine va_get (D := (dC, dI)) (ci := 4) (v := .ref cS) (C := RX6) (T := TX6) (N := 16) hx hb hts hiX6 hown hK hP 0 rfl rfl 1 (by decide) hf7 (fun _ h9 => h9) rfl dX6_init_59 ?_
    refine lv_iconst (v := (nI 3)) hx hb dX6_init_62 (by decide) ?_
    refine lv_iload_n hx hb dX6_init_63 rfl (lv_at hl 1 rfl) ?_
    refine n_iadd hx hb dX6_init_64 ?_
    refine lv_bipush (v := (nI 30)) hx hb dX6_init_65 (by decide) ?_
    refine n_iast hx hb hK hP hD hS 1 0 rfl rfl (show 3 + i < 96 from by omega) (by decide) dX6_init_67 (fun H locs hP hD hS => ?_)
    replace hP : va_P (dC, dI) vwCl [(o, .inr (4, [.int 0, .ref cS, .ref cX, .ref cA, .int 0, .ref cB, .int 0, .int 0, .int (bI false), .ref cR, .int 0, .int 0, .int 0, .int 0, .int (bI false), .long 0])), (cS, .inl (cI, 96, .inl (upd (mS0 i) (3 + i) (nI 30)))), (cX, .inl (cI, 96, .inl z0)), (cA, .inl (cI, 576, .inl z0)), (cB, .inl (cI, 60, .inl z0)), (cR, .inl (cI, 48, .inl z0))] H := hP
    replace hD : va_D A [(o, .inr (4, [.int 0, .ref cS, .ref cX, .ref cA, .int 0, .ref cB, .int 0, .int 0, .int (bI false), .ref cR, .int 0, .int 0, .int 0, .int 0, .int (bI false), .long 0])), (cS, .inl (cI, 96, .inl (upd (mS0 i) (3 + i) (nI 30)))), (cX, .inl (cI, 96, .inl z0)), (cA, .inl (cI, 576, .inl z0)), (cB, .inl (cI, 60, .inl z0)), (cR, .inl (cI, 48, .inl z0))] := hD
    refine lv_aload_n hx hb dX6_init_68 rfl (lv_at hl 0 rfl) ?_
    refine va_get (D := (dC, dI)) (ci := 4) (v := .ref cS) (C := RX6) (T := TX6) (N := 16) hx hb hts hiX6 hown hK hP 0 rfl rfl 1 (by decide) hf7 (fun _ h9 => h9) rfl dX6_init_69 ?_
    refine lv_bipush (v := (nI 9)) hx hb dX6_init_72 (by decide) ?_
    refine lv_iload_n hx hb dX6_init_74 rfl (lv_at hl 1 rfl) ?_
    refine n_iadd hx hb dX6_init_75 ?_
    refine lv_bipush (v := (nI 10)) hx hb dX6_init_76 (by decide) ?_
    refine lv_bipush (v := (nI 10)) hx hb dX6_init_78 (by decide) ?_
    refine lv_iload_n hx hb dX6_init_80 rfl (lv_at hl 1 rfl) ?_
    refine n_imul hx hb dX6_init_81 ?_
    refine n_iadd hx hb dX6_init_82 ?_
    refine n_iast hx hb hK hP hD hS 1 0 rfl rfl (show 9 + i < 96 from by omega) (by decide) dX6_init_83 (fun H locs hP hD hS => ?_)
    replace hP : va_P (dC, dI) vwCl [(o, .inr (4, [.int 0, .ref cS, .ref cX, .ref cA, .int 0, .ref cB, .int 0, .int 0, .int (bI false), .ref cR, .int 0, .int 0, .int 0, .int 0, .int (bI false), .long 0])), (cS, .inl (cI, 96, .inl (upd (upd (mS0 i) (3 + i) (nI 30)) (9 + i) (nI (10 + (10 * i)))))), (cX, .inl (cI, 96, .inl z0)), (cA, .inl (cI, 576, .inl z0)), (cB, .inl (cI, 60, .inl z0)), (cR, .inl (cI, 48, .inl z0))] H := hP
    replace hD : va_D A [(o, .inr (4, [.int 0, .ref cS, .ref cX, .ref cA, .int 0, .ref cB, .int 0, .int 0, .int (bI false), .ref cR, .int 0, .int 0, .int 0, .int 0, .int (bI false), .long 0])), (cS, .inl (cI, 96, .inl (upd (upd (mS0 i) (3 + i) (nI 30)) (9 + i) (nI (10 + (10 * i)))))), (cX, .inl (cI, 96, .inl z0)), (cA, .inl (cI, 576, .inl z0)), (cB, .inl (cI, 60, .inl z0)), (cR, .inl (cI, 48, .inl z0))] := hD
    refine lv_iinc (v := (nI (i + 1))) (lv' := [(1, .int (nI (i + 1))), (0, .ref o)]) hx hb dX6_init_84 hl (k := 1) rfl (n_inc _ 1) (by decide) rfl (fun ls hl => ?_)
    refine lv_goto (tgt := 52) hx hb dX6_init_87 (by decide) ?_
    have ec_b52_2_cS : (upd (upd (mS0 i) (3 + i) (nI 30)) (9 + i) (nI (10 + (10 * i)))) = (mS0 (i + 1)) := by rfl
    have ew_b52_2 : ([(o, .inr (4, [.int 0, .ref cS, .ref cX, .ref cA, .int 0, .ref cB, .int 0, .int 0, .int (bI false), .ref cR, .int 0, .int 0, .int 0, .int 0, .int (bI false), .long 0])), (cS, .inl (cI, 96, .inl (upd (upd (mS0 i) (3 + i) (nI 30)) (9 + i) (nI (10 + (10 * i)))))), (cX, .inl (cI, 96, .inl z0)), (cA, .inl (cI, 576, .inl z0)), (cB, .inl (cI, 60, .inl z0)), (cR, .inl (cI, 48, .inl z0))] : va_W) = [(o, .inr (4, [.int 0, .ref cS, .ref cX, .ref cA, .int 0, .ref cB, .int 0, .int 0, .int (bI false), .ref cR, .int 0, .int 0, .int 0, .int 0, .int (bI false), .long 0])), (cS, .inl (cI, 96, .inl (mS0 (i + 1)))), (cX, .inl (cI, 96, .inl z0)), (cA, .inl (cI, 576, .inl z0)), (cB, .inl (cI, 60, .inl z0)), (cR, .inl (cI, 48, .inl z0))] := (congrArg (fun z_ => ([(o, .inr (4, [.int 0, .ref cS, .ref cX, .ref cA, .int 0, .ref cB, .int 0, .int 0, .int (bI false), .ref cR, .int 0, .int 0, .int 0, .int 0, .int (bI false), .long 0])), (cS, .inl (cI, 96, .inl z_)), (cX, .inl (cI, 96, .inl z0)), (cA, .inl (cI, 576, .inl z0)), (cB, .inl (cI, 60, .inl z0)), (cR, .inl (cI, 48, .inl z0))] : va_W)) ec_b52_2_cS)
    exact ih52 (i + 1) H locs ls ⟨by omega, (w_cgP ew_b52_2 hP), (w_cgD ew_b52_2 hD), hS, lv_sub hl [1, 0] rfl⟩ (by first | omega | (dsimp only; omega))
