set_option maxHeartbeats 4000000 in
set_option maxRecDepth 100000 in
theorem kX1_signAhead (l : Launch) (dC : Nat → ClassId) (dI : Nat → Nat → Nat) (cI cV cW : ClassId) (x : Nat) (xS : Nat) (xW : Nat) (xN : Nat) (xH : Nat) (nn : Nat) (od : Int32) (tn : Nat) (B0 : Nat → Int32) (hnn : nn ≤ 60) (htn : tn ≤ nn) : Met l yX1_signAhead wsX1_signAhead ({ frames := 0, cells := 0, slots := 0, locals := 0 }) (pR (dC, dI) (tyS cI cV cW) [.ref x] [(x, .inr (0, [.ref xS, .ref xW, .ref xN, .ref xH, .int (nI nn), .int od, .int (nI tn)])), (xS, .inl (cI, 60, .inl B0))]) (vp_Si (fun r_ => r_ = (cSg B0 nn tn))) 0 0 (fun _ => False) := by
  refine Met.ofW (cc := cX1_signAhead) (maxL := 1) (ret := (some .int)) (by decide) rfl ?_
  intro p e s m args below meth c s₁ B hml hv
  obtain ⟨rfl, hP, hK⟩ := hv
  have hx := B.exec
  have hb := B.bytes
  have hr := B.returns
  have hts := atoms_spec (ws := wsX1_signAhead) B.pre
  have hown : s.vm.findClass RX1 = some m.cls := findClass_of_methodNamed B.named
  have hlocks := B.notSynchronized
  have hf31 := hts (.fieldLink RX1 31 "VaultShelves$OrderText" "position" "I") (by decide +kernel)
  have hf27 := hts (.fieldLink RX1 27 "VaultShelves$OrderText" "length" "I") (by decide +kernel)
  have hf9 := hts (.fieldLink RX1 9 "VaultShelves$OrderText" "signs" "[I") (by decide +kernel)
  have hiX1 : ∀ w ∈ u_ws RX1 TX1 7, w ∈ wsX1_signAhead := by decide +kernel
  have hl := lv_entry ([.ref x]) (n := 1) (Nat.le_of_ble_eq_true rfl)
  rw [lg_entry_eq]
  generalize (lg_sl ([.ref x]) ++ List.replicate (1 - (lg_sl ([.ref x])).length) Slot.unset).toArray = ls at hl ⊢
  replace hl : lv_has ls 1 [(0, .ref x)] := hl
  refine lv_aload_n hx hb dX1_signAhead_0 rfl (lv_at hl 0 rfl) ?_
  refine va_get (D := (dC, dI)) (ci := 0) (v := .int (nI tn)) (C := RX1) (T := TX1) (N := 7) hx hb hts hiX1 hown hK hP 0 rfl rfl 6 (by decide) hf31 (fun _ h9 => h9) rfl dX1_signAhead_1 ?_
  refine lv_aload_n hx hb dX1_signAhead_4 rfl (lv_at hl 0 rfl) ?_
  refine va_get (D := (dC, dI)) (ci := 0) (v := .int (nI nn)) (C := RX1) (T := TX1) (N := 7) hx hb hts hiX1 hown hK hP 0 rfl rfl 4 (by decide) hf27 (fun _ h9 => h9) rfl dX1_signAhead_5 ?_
  refine n_icmp_ge (tgt := 23) hx hb dX1_signAhead_8 (by decide) (by omega) (by omega) (fun c_8 => ?_) (fun c_8 => ?_)
  · refine lv_iconst (v := (-1)) hx hb dX1_signAhead_23 (by decide) ?_
    exact W.iret (v := (-1)) hx hb hr (fun t ht hW => ⟨_, rfl, (show (-1) = (cSg B0 nn tn) from by first | rfl | (simp [cSg, c_8, Nat.not_lt.mpr c_8])), ht⟩) (fun q hq => absurd hq List.not_mem_nil) dX1_signAhead_24
  · refine lv_aload_n hx hb dX1_signAhead_11 rfl (lv_at hl 0 rfl) ?_
    refine va_get (D := (dC, dI)) (ci := 0) (v := .ref xS) (C := RX1) (T := TX1) (N := 7) hx hb hts hiX1 hown hK hP 0 rfl rfl 0 (by decide) hf9 (fun _ h9 => h9) rfl dX1_signAhead_12 ?_
    refine lv_aload_n hx hb dX1_signAhead_15 rfl (lv_at hl 0 rfl) ?_
    refine va_get (D := (dC, dI)) (ci := 0) (v := .int (nI tn)) (C := RX1) (T := TX1) (N := 7) hx hb hts hiX1 hown hK hP 0 rfl rfl 6 (by decide) hf31 (fun _ h9 => h9) rfl dX1_signAhead_16 ?_
    refine n_iald hx hb hK hP 1 0 rfl rfl (show tn < 60 from by omega) (by decide) dX1_signAhead_19 ?_
    refine lv_goto (tgt := 24) hx hb dX1_signAhead_20 (by decide) ?_
    exact W.iret (v := (B0 tn)) hx hb hr (fun t ht hW => ⟨_, rfl, (show (B0 tn) = (cSg B0 nn tn) from by first | rfl | (simp [cSg, c_8, Nat.not_le.mpr c_8])), ht⟩) (fun q hq => absurd hq List.not_mem_nil) dX1_signAhead_24
theorem hdX1_signAhead : yX1_signAhead.cls = RX1 ∧ yX1_signAhead.cls ≠ "java/lang/invoke/MethodHandle" ∧ yX1_signAhead.cls ≠ "java/lang/invoke/VarHandle" ∧ (parseMethodDescriptor yX1_signAhead.desc).map (fun d => d.parameters.length) = some 0 := by decide +kernel
set_option maxHeartbeats 4000000 in
set_option maxRecDepth 100000 in
theorem kX1_digitAhead (l : Launch) (dC : Nat → ClassId) (dI : Nat → Nat → Nat) (cI cV cW : ClassId) (x : Nat) (xS : Nat) (xW : Nat) (xN : Nat) (xH : Nat) (nn : Nat) (od : Int32) (tn : Nat) (B0 : Nat → Int32) (hnn : nn ≤ 60) (htn : tn ≤ nn) : Met l yX1_digitAhead wsX1_digitAhead ({ frames := 1, cells := 0, slots := 0, locals := 20 }) (pR (dC, dI) (tyS cI cV cW) [.ref x] [(x, .inr (0, [.ref xS, .ref xW, .ref xN, .ref xH, .int (nI nn), .int od, .int (nI tn)])), (xS, .inl (cI, 60, .inl B0))]) (vp_Si (fun r_ => r_ = (cDg B0 nn tn))) 0 0 (fun _ => False) := by
  refine Met.ofW (cc := cX1_digitAhead) (maxL := 2) (ret := (some .int)) (by decide) rfl ?_
  intro p e s m args below meth c s₁ B hml hv
  obtain ⟨rfl, hP, hK⟩ := hv
  have hx := B.exec
  have hb := B.bytes
  have hr := B.returns
  have hts := atoms_spec (ws := wsX1_digitAhead) B.pre
  have hown : s.vm.findClass RX1 = some m.cls := findClass_of_methodNamed B.named
  have hlocks := B.notSynchronized
  have hiX1 : ∀ w ∈ u_ws RX1 TX1 7, w ∈ wsX1_digitAhead := by decide +kernel
  have hl := lv_entry ([.ref x]) (n := 2) (Nat.le_of_ble_eq_true rfl)
  rw [lg_entry_eq]
  generalize (lg_sl ([.ref x]) ++ List.replicate (2 - (lg_sl ([.ref x])).length) Slot.unset).toArray = ls at hl ⊢
  replace hl : lv_has ls 2 [(0, .ref x)] := hl
  refine lv_aload_n hx hb dX1_digitAhead_0 rfl (lv_at hl 0 rfl) ?_
  refine vp_callSi (W.runV (As := []) (rest := []) ⟨hx, hb, hml, hown, hts⟩ (kX1_signAhead l dC dI cI cV cW x xS xW xN xH nn od tn B0 (hnn) (htn)) (cwV 0 hts gX1_digitAhead_X1_signAhead rfl rfl rfl hdX1_signAhead ⟨Nat.le_of_ble_eq_true rfl, Nat.le_of_ble_eq_true rfl⟩) (pR_V hK hP 0 0 rfl rfl rfl [0, 1] rfl) rfl rfl hl.1 rfl (lv_room (Nat.le_of_ble_eq_true rfl)) dX1_digitAhead_1 ⟨Nat.zero_le _, Nat.zero_le _⟩) (fun r_1 hr_ => ?_)
  subst hr_
  refine lv_istore_n (lv' := [(1, .int (cSg B0 nn tn)), (0, .ref x)]) hx hb dX1_digitAhead_4 rfl hl (by decide) rfl (fun ls hl => ?_)
  refine lv_iload_n hx hb dX1_digitAhead_5 rfl (lv_at hl 0 rfl) ?_
  refine lv_bipush (v := (nI 48)) hx hb dX1_digitAhead_6 (by decide) ?_
  refine lv_icmp_lt (tgt := 17) hx hb dX1_digitAhead_8 (by decide) (fun c_8 => ?_) (fun c_8 => ?_)
  · refine lv_iconst (v := (-1)) hx hb dX1_digitAhead_17 (by decide) ?_
    refine lv_goto (tgt := 25) hx hb dX1_digitAhead_18 (by decide) ?_
    exact W.iret (v := (-1)) hx hb hr (fun t ht hW => ⟨_, rfl, (show (-1) = (cDg B0 nn tn) from by first | rfl | (first | (rw [cDg, if_pos c_8]; done) | (rw [cDg, if_neg c_8, if_neg (Int32.not_lt.mpr c_14)]; done) | (rw [cDg, if_neg c_8, if_pos (Int32.not_le.mp c_14)]; done))), ht⟩) (fun q hq => absurd hq List.not_mem_nil) dX1_digitAhead_25
  · refine lv_iload_n hx hb dX1_digitAhead_11 rfl (lv_at hl 0 rfl) ?_
    refine lv_bipush (v := (nI 57)) hx hb dX1_digitAhead_12 (by decide) ?_
    refine lv_icmp_le (tgt := 21) hx hb dX1_digitAhead_14 (by decide) (fun c_14 => ?_) (fun c_14 => ?_)
    · refine lv_iload_n hx hb dX1_digitAhead_21 rfl (lv_at hl 0 rfl) ?_
      refine lv_bipush (v := (nI 48)) hx hb dX1_digitAhead_22 (by decide) ?_
      refine lv_isub hx hb dX1_digitAhead_24 ?_
      exact W.iret (v := ((cSg B0 nn tn) - 48)) hx hb hr (fun t ht hW => ⟨_, rfl, (show ((cSg B0 nn tn) - 48) = (cDg B0 nn tn) from by first | rfl | (first | (rw [cDg, if_pos c_8]; done) | (rw [cDg, if_neg c_8, if_neg (Int32.not_lt.mpr c_14)]; done) | (rw [cDg, if_neg c_8, if_pos (Int32.not_le.mp c_14)]; done))), ht⟩) (fun q hq => absurd hq List.not_mem_nil) dX1_digitAhead_25
    · refine lv_iconst (v := (-1)) hx hb dX1_digitAhead_17 (by decide) ?_
      refine lv_goto (tgt := 25) hx hb dX1_digitAhead_18 (by decide) ?_
      exact W.iret (v := (-1)) hx hb hr (fun t ht hW => ⟨_, rfl, (show (-1) = (cDg B0 nn tn) from by first | rfl | (first | (rw [cDg, if_pos c_8]; done) | (rw [cDg, if_neg c_8, if_neg (Int32.not_lt.mpr c_14)]; done) | (rw [cDg, if_neg c_8, if_pos (Int32.not_le.mp c_14)]; done))), ht⟩) (fun q hq => absurd hq List.not_mem_nil) dX1_digitAhead_25
set_option maxHeartbeats 4000000 in
set_option maxRecDepth 100000 in
theorem kX1_readSign (l : Launch) (dC : Nat → ClassId) (dI : Nat → Nat → Nat) (cI cV cW : ClassId) (sz : Nat) (x : Nat) (xS : Nat) (xW : Nat) (xN : Nat) (xH : Nat) (nn : Nat) (od : Int32) (tn : Nat) (B0 : Nat → Int32) (y : Int32) (hnn : nn ≤ 60) (htn : tn ≤ nn) : Met l yX1_readSign wsX1_readSign ({ frames := 1, cells := 0, slots := 0, locals := 20 }) (pW (dC, dI) (tyS cI cV cW) sz [.ref x, .int y] [(x, .inr (0, [.ref xS, .ref xW, .ref xN, .ref xH, .int (nI nn), .int od, .int (nI tn)])), (xS, .inl (cI, 60, .inl B0))]) (va_Qi (fun (r_ : Int32) (_ : Unit) => r_ = (bI (decide (cSg B0 nn tn = y)))) (fun (_ : Unit) t => qB (dC, dI) (tyS cI cV cW) (va_A [(x, .inr (0, [.ref xS, .ref xW, .ref xN, .ref xH, .int (nI nn), .int od, .int (nI tn)])), (xS, .inl (cI, 60, .inl B0))] sz) [(x, .inr (0, [.ref xS, .ref xW, .ref xN, .ref xH, .int (nI nn), .int od, .int (nI (if cSg B0 nn tn = y then tn + 1 else tn))])), (xS, .inl (cI, 60, .inl B0))] t) (va_A [(x, .inr (0, [.ref xS, .ref xW, .ref xN, .ref xH, .int (nI nn), .int od, .int (nI tn)])), (xS, .inl (cI, 60, .inl B0))] sz)) 0 0 (va_A [(x, .inr (0, [.ref xS, .ref xW, .ref xN, .ref xH, .int (nI nn), .int od, .int (nI tn)])), (xS, .inl (cI, 60, .inl B0))] sz) := by
  refine Met.ofW (cc := cX1_readSign) (maxL := 2) (ret := (some .boolean)) (by decide) rfl ?_
  intro p e s m args below meth c s₁ B hml hv
  obtain ⟨rfl, hsz, hP, hK, hD0⟩ := hv
  have hx := B.exec
  have hb := B.bytes
  have hr := B.returns
  have hts := atoms_spec (ws := wsX1_readSign) B.pre
  have hown : s.vm.findClass RX1 = some m.cls := findClass_of_methodNamed B.named
  have hlocks := B.notSynchronized
  subst hsz
  have hD := hD0.self (sz := s.heap.size)
  generalize hAe : va_A [(x, .inr (0, [.ref xS, .ref xW, .ref xN, .ref xH, .int (nI nn), .int od, .int (nI tn)])), (xS, .inl (cI, 60, .inl B0))] s.heap.size = A at hD ⊢
  have hA : ∀ q : Nat, s.heap.size ≤ q → A q := fun q h => by rw [← hAe]; exact Or.inr h
  have hS : va_S A s.heap s.heap [] := va_S.rf
  refine w_gen hP hS (fun H locs hP hS => ?_)
  have hf31 := hts (.fieldLink RX1 31 "VaultShelves$OrderText" "position" "I") (by decide +kernel)
  have hiX1 : ∀ w ∈ u_ws RX1 TX1 7, w ∈ wsX1_readSign := by decide +kernel
  have hl := lv_entry ([.ref x, .int y]) (n := 2) (Nat.le_of_ble_eq_true rfl)
  rw [lg_entry_eq]
  generalize (lg_sl ([.ref x, .int y]) ++ List.replicate (2 - (lg_sl ([.ref x, .int y])).length) Slot.unset).toArray = ls at hl ⊢
  replace hl : lv_has ls 2 [(0, .ref x), (1, .int y)] := hl
  refine lv_aload_n hx hb dX1_readSign_0 rfl (lv_at hl 0 rfl) ?_
  refine vp_callSi (W.runV (As := []) (rest := []) ⟨hx, hb, hml, hown, hts⟩ (kX1_signAhead l dC dI cI cV cW x xS xW xN xH nn od tn B0 (hnn) (htn)) (cwV 0 hts gX1_readSign_X1_signAhead rfl rfl rfl hdX1_signAhead ⟨Nat.le_of_ble_eq_true rfl, Nat.le_of_ble_eq_true rfl⟩) (pR_V hK hP 0 0 rfl rfl rfl [0, 1] rfl) rfl rfl hl.1 rfl (lv_room (Nat.le_of_ble_eq_true rfl)) dX1_readSign_1 ⟨Nat.zero_le _, Nat.zero_le _⟩) (fun r_1 hr_ => ?_)
  subst hr_
  refine lv_iload_n hx hb dX1_readSign_4 rfl (lv_at hl 1 rfl) ?_
  refine lv_icmp_eq (tgt := 10) hx hb dX1_readSign_5 (by decide) (fun c_5 => ?_) (fun c_5 => ?_)
  · refine lv_aload_n hx hb dX1_readSign_10 rfl (lv_at hl 0 rfl) ?_
    refine lv_dup hx hb dX1_readSign_11 rfl ?_
    refine va_get (D := (dC, dI)) (ci := 0) (v := .int (nI tn)) (C := RX1) (T := TX1) (N := 7) hx hb hts hiX1 hown hK hP 0 rfl rfl 6 (by decide) hf31 (fun _ h9 => h9) rfl dX1_readSign_12 ?_
    refine lv_iconst (v := (nI 1)) hx hb dX1_readSign_15 (by decide) ?_
    refine n_iadd hx hb dX1_readSign_16 ?_
    refine va_put (D := (dC, dI)) (ci := 0) (v := .int (nI (tn + 1))) (ty := .int) (C := RX1) (T := TX1) (N := 7) hx hb hts hiX1 tyX1 tyX1_ok nmX1 hown hK hP hD hS 0 rfl rfl 6 (by decide) hf31 (fun _ h9 => h9) rfl (by decide +kernel) rfl rfl (Nat.le_of_ble_eq_true rfl) dX1_readSign_17 (fun H locs hP hD hS => ?_)
    replace hP : va_P (dC, dI) vwCl [(x, .inr (0, [.ref xS, .ref xW, .ref xN, .ref xH, .int (nI nn), .int od, .int (nI (tn + 1))])), (xS, .inl (cI, 60, .inl B0))] H := hP
    replace hD : va_D A [(x, .inr (0, [.ref xS, .ref xW, .ref xN, .ref xH, .int (nI nn), .int od, .int (nI (tn + 1))])), (xS, .inl (cI, 60, .inl B0))] := hD
    refine lv_iconst (v := (nI 1)) hx hb dX1_readSign_20 (by decide) ?_
    have ec_r21_1_x_6 : (nI (tn + 1)) = (nI (if cSg B0 nn tn = y then tn + 1 else tn)) := by first | rfl | (simp [c_5])
    have ew_r21_1 : ([(x, .inr (0, [.ref xS, .ref xW, .ref xN, .ref xH, .int (nI nn), .int od, .int (nI (tn + 1))])), (xS, .inl (cI, 60, .inl B0))] : va_W) = [(x, .inr (0, [.ref xS, .ref xW, .ref xN, .ref xH, .int (nI nn), .int od, .int (nI (if cSg B0 nn tn = y then tn + 1 else tn))])), (xS, .inl (cI, 60, .inl B0))] := (congrArg (fun z_ => ([(x, .inr (0, [.ref xS, .ref xW, .ref xN, .ref xH, .int (nI nn), .int od, .int z_])), (xS, .inl (cI, 60, .inl B0))] : va_W)) ec_r21_1_x_6)
    have hP9 := (w_cgP ew_r21_1 hP)
    have hD9 := (w_cgD ew_r21_1 hD)
    exact W.zret (v := (bI true)) hx hb hr (nar_bI _) (fun t ht hW => ⟨⟨(bI true), (), rfl, (congrArg bI (show true = (decide (cSg B0 nn tn = y)) from by first | rfl | (simp [c_5]))), by rw [ht]; exact hP9, va_K.moved hW.alike hK, hD9⟩, hS.F ht⟩) hS.2.2 dX1_readSign_21
  · refine lv_iconst (v := (nI 0)) hx hb dX1_readSign_8 (by decide) ?_
    have ec_r9_2_x_6 : (nI tn) = (nI (if cSg B0 nn tn = y then tn + 1 else tn)) := by first | rfl | (simp [c_5])
    have ew_r9_2 : ([(x, .inr (0, [.ref xS, .ref xW, .ref xN, .ref xH, .int (nI nn), .int od, .int (nI tn)])), (xS, .inl (cI, 60, .inl B0))] : va_W) = [(x, .inr (0, [.ref xS, .ref xW, .ref xN, .ref xH, .int (nI nn), .int od, .int (nI (if cSg B0 nn tn = y then tn + 1 else tn))])), (xS, .inl (cI, 60, .inl B0))] := (congrArg (fun z_ => ([(x, .inr (0, [.ref xS, .ref xW, .ref xN, .ref xH, .int (nI nn), .int od, .int z_])), (xS, .inl (cI, 60, .inl B0))] : va_W)) ec_r9_2_x_6)
    have hP9 := (w_cgP ew_r9_2 hP)
    have hD9 := (w_cgD ew_r9_2 hD)
    exact W.zret (v := (bI false)) hx hb hr (nar_bI _) (fun t ht hW => ⟨⟨(bI false), (), rfl, (congrArg bI (show false = (decide (cSg B0 nn tn = y)) from by first | rfl | (simp [c_5]))), by rw [ht]; exact hP9, va_K.moved hW.alike hK, hD9⟩, hS.F ht⟩) hS.2.2 dX1_readSign_9
theorem hdX1_digitAhead : yX1_digitAhead.cls = RX1 ∧ yX1_digitAhead.cls ≠ "java/lang/invoke/MethodHandle" ∧ yX1_digitAhead.cls ≠ "java/lang/invoke/VarHandle" ∧ (parseMethodDescriptor yX1_digitAhead.desc).map (fun d => d.parameters.length) = some 0 := by decide +kernel
set_option maxHeartbeats 4000000 in
set_option maxRecDepth 100000 in
theorem kX1_readShelf (l : Launch) (dC : Nat → ClassId) (dI : Nat → Nat → Nat) (cI cV cW : ClassId) (sz : Nat) (x : Nat) (xS : Nat) (xW : Nat) (xN : Nat) (xH : Nat) (nn : Nat) (od : Int32) (tn : Nat) (B0 : Nat → Int32) (Sh : Nat → Int32) (i : Nat) (hnn : nn ≤ 60) (htn : tn ≤ nn) (hi : i < 60) : Met l yX1_readShelf wsX1_readShelf ({ frames := 2, cells := 0, slots := 0, locals := 41 }) (pW (dC, dI) (tyS cI cV cW) sz [.ref x, .int (nI i)] [(x, .inr (0, [.ref xS, .ref xW, .ref xN, .ref xH, .int (nI nn), .int od, .int (nI tn)])), (xS, .inl (cI, 60, .inl B0)), (xH, .inl (cI, 60, .inl Sh))]) (va_Qi (fun (r_ : Int32) (_ : Unit) => r_ = (bI (cSh (cDg B0 nn tn)))) (fun (_ : Unit) t => qB (dC, dI) (tyS cI cV cW) (va_A [(x, .inr (0, [.ref xS, .ref xW, .ref xN, .ref xH, .int (nI nn), .int od, .int (nI tn)])), (xS, .inl (cI, 60, .inl B0)), (xH, .inl (cI, 60, .inl Sh))] sz) [(x, .inr (0, [.ref xS, .ref xW, .ref xN, .ref xH, .int (nI nn), .int od, .int (nI (if cSh (cDg B0 nn tn) = true then tn + 1 else tn))])), (xS, .inl (cI, 60, .inl B0)), (xH, .inl (cI, 60, .inl (if cSh (cDg B0 nn tn) = true then upd Sh i (cDg B0 nn tn) else Sh)))] t) (va_A [(x, .inr (0, [.ref xS, .ref xW, .ref xN, .ref xH, .int (nI nn), .int od, .int (nI tn)])), (xS, .inl (cI, 60, .inl B0)), (xH, .inl (cI, 60, .inl Sh))] sz)) 0 0 (va_A [(x, .inr (0, [.ref xS, .ref xW, .ref xN, .ref xH, .int (nI nn), .int od, .int (nI tn)])), (xS, .inl (cI, 60, .inl B0)), (xH, .inl (cI, 60, .inl Sh))] sz) := by
  refine Met.ofW (cc := cX1_readShelf) (maxL := 3) (ret := (some .boolean)) (by decide) rfl ?_
  intro p e s m args below meth c s₁ B hml hv
  obtain ⟨rfl, hsz, hP, hK, hD0⟩ := hv
  have hx := B.exec
  have hb := B.bytes
  have hr := B.returns
  have hts := atoms_spec (ws := wsX1_readShelf) B.pre
  have hown : s.vm.findClass RX1 = some m.cls := findClass_of_methodNamed B.named
  have hlocks := B.notSynchronized
  subst hsz
  have hD := hD0.self (sz := s.heap.size)
  generalize hAe : va_A [(x, .inr (0, [.ref xS, .ref xW, .ref xN, .ref xH, .int (nI nn), .int od, .int (nI tn)])), (xS, .inl (cI, 60, .inl B0)), (xH, .inl (cI, 60, .inl Sh))] s.heap.size = A at hD ⊢
  have hA : ∀ q : Nat, s.heap.size ≤ q → A q := fun q h => by rw [← hAe]; exact Or.inr h
  have hS : va_S A s.heap s.heap [] := va_S.rf
  refine w_gen hP hS (fun H locs hP hS => ?_)
  have hf24 := hts (.fieldLink RX1 24 "VaultShelves$OrderText" "shelves" "[I") (by decide +kernel)
  have hf31 := hts (.fieldLink RX1 31 "VaultShelves$OrderText" "position" "I") (by decide +kernel)
  have hiX1 : ∀ w ∈ u_ws RX1 TX1 7, w ∈ wsX1_readShelf := by decide +kernel
  have hl := lv_entry ([.ref x, .int (nI i)]) (n := 3) (Nat.le_of_ble_eq_true rfl)
  rw [lg_entry_eq]
  generalize (lg_sl ([.ref x, .int (nI i)]) ++ List.replicate (3 - (lg_sl ([.ref x, .int (nI i)])).length) Slot.unset).toArray = ls at hl ⊢
  replace hl : lv_has ls 3 [(0, .ref x), (1, .int (nI i))] := hl
  refine lv_aload_n hx hb dX1_readShelf_0 rfl (lv_at hl 0 rfl) ?_
  refine vp_callSi (W.runV (As := []) (rest := []) ⟨hx, hb, hml, hown, hts⟩ (kX1_digitAhead l dC dI cI cV cW x xS xW xN xH nn od tn B0 (hnn) (htn)) (cwV 0 hts gX1_readShelf_X1_digitAhead rfl rfl rfl hdX1_digitAhead ⟨Nat.le_of_ble_eq_true rfl, Nat.le_of_ble_eq_true rfl⟩) (pR_V hK hP 0 0 rfl rfl rfl [0, 1] rfl) rfl rfl hl.1 rfl (lv_room (Nat.le_of_ble_eq_true rfl)) dX1_readShelf_1 ⟨Nat.zero_le _, Nat.zero_le _⟩) (fun r_1 hr_ => ?_)
  subst hr_
  refine lv_istore_n (lv' := [(2, .int (cDg B0 nn tn)), (0, .ref x), (1, .int (nI i))]) hx hb dX1_readShelf_4 rfl hl (by decide) rfl (fun ls hl => ?_)
  refine lv_iload_n hx hb dX1_readShelf_5 rfl (lv_at hl 0 rfl) ?_
  refine lv_iconst (v := (-1)) hx hb dX1_readShelf_6 (by decide) ?_
  refine lv_icmp_eq (tgt := 16) hx hb dX1_readShelf_7 (by decide) (fun c_7 => ?_) (fun c_7 => ?_)
  · refine lv_iconst (v := (nI 0)) hx hb dX1_readShelf_16 (by decide) ?_
    have ec_r17_1_x_6 : (nI tn) = (nI (if cSh (cDg B0 nn tn) = true then tn + 1 else tn)) := by first | rfl | (simp [cSh, c_7])
    have ec_r17_1_xH : Sh = (if cSh (cDg B0 nn tn) = true then upd Sh i (cDg B0 nn tn) else Sh) := by first | rfl | (simp [cSh, c_7])
    have ew_r17_1 : ([(x, .inr (0, [.ref xS, .ref xW, .ref xN, .ref xH, .int (nI nn), .int od, .int (nI tn)])), (xS, .inl (cI, 60, .inl B0)), (xH, .inl (cI, 60, .inl Sh))] : va_W) = [(x, .inr (0, [.ref xS, .ref xW, .ref xN, .ref xH, .int (nI nn), .int od, .int (nI (if cSh (cDg B0 nn tn) = true then tn + 1 else tn))])), (xS, .inl (cI, 60, .inl B0)), (xH, .inl (cI, 60, .inl (if cSh (cDg B0 nn tn) = true then upd Sh i (cDg B0 nn tn) else Sh)))] := ((congrArg (fun z_ => ([(x, .inr (0, [.ref xS, .ref xW, .ref xN, .ref xH, .int (nI nn), .int od, .int z_])), (xS, .inl (cI, 60, .inl B0)), (xH, .inl (cI, 60, .inl Sh))] : va_W)) ec_r17_1_x_6).trans (congrArg (fun z_ => ([(x, .inr (0, [.ref xS, .ref xW, .ref xN, .ref xH, .int (nI nn), .int od, .int (nI (if cSh (cDg B0 nn tn) = true then tn + 1 else tn))])), (xS, .inl (cI, 60, .inl B0)), (xH, .inl (cI, 60, .inl z_))] : va_W)) ec_r17_1_xH))
    have hP9 := (w_cgP ew_r17_1 hP)
    have hD9 := (w_cgD ew_r17_1 hD)
    exact W.zret (v := (bI false)) hx hb hr (nar_bI _) (fun t ht hW => ⟨⟨(bI false), (), rfl, (congrArg bI (show false = (cSh (cDg B0 nn tn)) from by first | rfl | (simp [cSh, c_7]))), by rw [ht]; exact hP9, va_K.moved hW.alike hK, hD9⟩, hS.F ht⟩) hS.2.2 dX1_readShelf_17
  · refine lv_iload_n hx hb dX1_readShelf_10 rfl (lv_at hl 0 rfl) ?_
    refine lv_bipush (v := (nI 6)) hx hb dX1_readShelf_11 (by decide) ?_
    refine lv_icmp_lt (tgt := 18) hx hb dX1_readShelf_13 (by decide) (fun c_13 => ?_) (fun c_13 => ?_)
    · refine lv_aload_n hx hb dX1_readShelf_18 rfl (lv_at hl 1 rfl) ?_
      refine va_get (D := (dC, dI)) (ci := 0) (v := .ref xH) (C := RX1) (T := TX1) (N := 7) hx hb hts hiX1 hown hK hP 0 rfl rfl 3 (by decide) hf24 (fun _ h9 => h9) rfl dX1_readShelf_19 ?_
      refine lv_iload_n hx hb dX1_readShelf_22 rfl (lv_at hl 2 rfl) ?_
      refine lv_iload_n hx hb dX1_readShelf_23 rfl (lv_at hl 0 rfl) ?_
      refine n_iast hx hb hK hP hD hS 2 0 rfl rfl (show i < 60 from by omega) (by decide) dX1_readShelf_24 (fun H locs hP hD hS => ?_)
      replace hP : va_P (dC, dI) vwCl [(x, .inr (0, [.ref xS, .ref xW, .ref xN, .ref xH, .int (nI nn), .int od, .int (nI tn)])), (xS, .inl (cI, 60, .inl B0)), (xH, .inl (cI, 60, .inl (upd Sh i (cDg B0 nn tn))))] H := hP
      replace hD : va_D A [(x, .inr (0, [.ref xS, .ref xW, .ref xN, .ref xH, .int (nI nn), .int od, .int (nI tn)])), (xS, .inl (cI, 60, .inl B0)), (xH, .inl (cI, 60, .inl (upd Sh i (cDg B0 nn tn))))] := hD
      refine lv_aload_n hx hb dX1_readShelf_25 rfl (lv_at hl 1 rfl) ?_
      refine lv_dup hx hb dX1_readShelf_26 rfl ?_
      refine va_get (D := (dC, dI)) (ci := 0) (v := .int (nI tn)) (C := RX1) (T := TX1) (N := 7) hx hb hts hiX1 hown hK hP 0 rfl rfl 6 (by decide) hf31 (fun _ h9 => h9) rfl dX1_readShelf_27 ?_
      refine lv_iconst (v := (nI 1)) hx hb dX1_readShelf_30 (by decide) ?_
      refine n_iadd hx hb dX1_readShelf_31 ?_
      refine va_put (D := (dC, dI)) (ci := 0) (v := .int (nI (tn + 1))) (ty := .int) (C := RX1) (T := TX1) (N := 7) hx hb hts hiX1 tyX1 tyX1_ok nmX1 hown hK hP hD hS 0 rfl rfl 6 (by decide) hf31 (fun _ h9 => h9) rfl (by decide +kernel) rfl rfl (Nat.le_of_ble_eq_true rfl) dX1_readShelf_32 (fun H locs hP hD hS => ?_)
      replace hP : va_P (dC, dI) vwCl [(x, .inr (0, [.ref xS, .ref xW, .ref xN, .ref xH, .int (nI nn), .int od, .int (nI (tn + 1))])), (xS, .inl (cI, 60, .inl B0)), (xH, .inl (cI, 60, .inl (upd Sh i (cDg B0 nn tn))))] H := hP
      replace hD : va_D A [(x, .inr (0, [.ref xS, .ref xW, .ref xN, .ref xH, .int (nI nn), .int od, .int (nI (tn + 1))])), (xS, .inl (cI, 60, .inl B0)), (xH, .inl (cI, 60, .inl (upd Sh i (cDg B0 nn tn))))] := hD
      refine lv_iconst (v := (nI 1)) hx hb dX1_readShelf_35 (by decide) ?_
      have ec_r36_2_x_6 : (nI (tn + 1)) = (nI (if cSh (cDg B0 nn tn) = true then tn + 1 else tn)) := by first | rfl | (simp [cSh, c_7, c_13, Int32.not_le.mpr c_13])
      have ec_r36_2_xH : (upd Sh i (cDg B0 nn tn)) = (if cSh (cDg B0 nn tn) = true then upd Sh i (cDg B0 nn tn) else Sh) := by first | rfl | (simp [cSh, c_7, c_13, Int32.not_le.mpr c_13])
      have ew_r36_2 : ([(x, .inr (0, [.ref xS, .ref xW, .ref xN, .ref xH, .int (nI nn), .int od, .int (nI (tn + 1))])), (xS, .inl (cI, 60, .inl B0)), (xH, .inl (cI, 60, .inl (upd Sh i (cDg B0 nn tn))))] : va_W) = [(x, .inr (0, [.ref xS, .ref xW, .ref xN, .ref xH, .int (nI nn), .int od, .int (nI (if cSh (cDg B0 nn tn) = true then tn + 1 else tn))])), (xS, .inl (cI, 60, .inl B0)), (xH, .inl (cI, 60, .inl (if cSh (cDg B0 nn tn) = true then upd Sh i (cDg B0 nn tn) else Sh)))] := ((congrArg (fun z_ => ([(x, .inr (0, [.ref xS, .ref xW, .ref xN, .ref xH, .int (nI nn), .int od, .int z_])), (xS, .inl (cI, 60, .inl B0)), (xH, .inl (cI, 60, .inl (upd Sh i (cDg B0 nn tn))))] : va_W)) ec_r36_2_x_6).trans (congrArg (fun z_ => ([(x, .inr (0, [.ref xS, .ref xW, .ref xN, .ref xH, .int (nI nn), .int od, .int (nI (if cSh (cDg B0 nn tn) = true then tn + 1 else tn))])), (xS, .inl (cI, 60, .inl B0)), (xH, .inl (cI, 60, .inl z_))] : va_W)) ec_r36_2_xH))
      have hP9 := (w_cgP ew_r36_2 hP)
      have hD9 := (w_cgD ew_r36_2 hD)
      exact W.zret (v := (bI true)) hx hb hr (nar_bI _) (fun t ht hW => ⟨⟨(bI true), (), rfl, (congrArg bI (show true = (cSh (cDg B0 nn tn)) from by first | rfl | (simp [cSh, c_7, c_13, Int32.not_le.mpr c_13]))), by rw [ht]; exact hP9, va_K.moved hW.alike hK, hD9⟩, hS.F ht⟩) hS.2.2 dX1_readShelf_36
    · refine lv_iconst (v := (nI 0)) hx hb dX1_readShelf_16 (by decide) ?_
      have ec_r17_3_x_6 : (nI tn) = (nI (if cSh (cDg B0 nn tn) = true then tn + 1 else tn)) := by first | rfl | (simp [cSh, c_7, c_13, Int32.not_lt.mp c_13])
      have ec_r17_3_xH : Sh = (if cSh (cDg B0 nn tn) = true then upd Sh i (cDg B0 nn tn) else Sh) := by first | rfl | (simp [cSh, c_7, c_13, Int32.not_lt.mp c_13])
      have ew_r17_3 : ([(x, .inr (0, [.ref xS, .ref xW, .ref xN, .ref xH, .int (nI nn), .int od, .int (nI tn)])), (xS, .inl (cI, 60, .inl B0)), (xH, .inl (cI, 60, .inl Sh))] : va_W) = [(x, .inr (0, [.ref xS, .ref xW, .ref xN, .ref xH, .int (nI nn), .int od, .int (nI (if cSh (cDg B0 nn tn) = true then tn + 1 else tn))])), (xS, .inl (cI, 60, .inl B0)), (xH, .inl (cI, 60, .inl (if cSh (cDg B0 nn tn) = true then upd Sh i (cDg B0 nn tn) else Sh)))] := ((congrArg (fun z_ => ([(x, .inr (0, [.ref xS, .ref xW, .ref xN, .ref xH, .int (nI nn), .int od, .int z_])), (xS, .inl (cI, 60, .inl B0)), (xH, .inl (cI, 60, .inl Sh))] : va_W)) ec_r17_3_x_6).trans (congrArg (fun z_ => ([(x, .inr (0, [.ref xS, .ref xW, .ref xN, .ref xH, .int (nI nn), .int od, .int (nI (if cSh (cDg B0 nn tn) = true then tn + 1 else tn))])), (xS, .inl (cI, 60, .inl B0)), (xH, .inl (cI, 60, .inl z_))] : va_W)) ec_r17_3_xH))
      have hP9 := (w_cgP ew_r17_3 hP)
      have hD9 := (w_cgD ew_r17_3 hD)
      exact W.zret (v := (bI false)) hx hb hr (nar_bI _) (fun t ht hW => ⟨⟨(bI false), (), rfl, (congrArg bI (show false = (cSh (cDg B0 nn tn)) from by first | rfl | (simp [cSh, c_7, c_13, Int32.not_lt.mp c_13]))), by rw [ht]; exact hP9, va_K.moved hW.alike hK, hD9⟩, hS.F ht⟩) hS.2.2 dX1_readShelf_17
set_option maxHeartbeats 4000000 in
set_option maxRecDepth 100000 in
theorem kX1_put (l : Launch) (dC : Nat → ClassId) (dI : Nat → Nat → Nat) (cI cV cW : ClassId) (sz : Nat) (x : Nat) (xS : Nat) (xW : Nat) (xN : Nat) (xH : Nat) (nn : Nat) (od : Int32) (po : Int32) (B0 : Nat → Int32) (y : Int32) (hnn : nn < 60) : Met l yX1_put wsX1_put ({ frames := 0, cells := 0, slots := 0, locals := 0 }) (pW (dC, dI) (tyS cI cV cW) sz [.ref x, .int y] [(x, .inr (0, [.ref xS, .ref xW, .ref xN, .ref xH, .int (nI nn), .int od, .int po])), (xS, .inl (cI, 60, .inl B0))]) (va_Qi (fun (r_ : Int32) (_ : Unit) => r_ = (nI (nn + 1))) (fun (_ : Unit) t => qB (dC, dI) (tyS cI cV cW) (va_A [(x, .inr (0, [.ref xS, .ref xW, .ref xN, .ref xH, .int (nI nn), .int od, .int po])), (xS, .inl (cI, 60, .inl B0))] sz) [(x, .inr (0, [.ref xS, .ref xW, .ref xN, .ref xH, .int (nI (nn + 1)), .int od, .int po])), (xS, .inl (cI, 60, .inl (upd B0 nn y)))] t) (va_A [(x, .inr (0, [.ref xS, .ref xW, .ref xN, .ref xH, .int (nI nn), .int od, .int po])), (xS, .inl (cI, 60, .inl B0))] sz)) 0 0 (va_A [(x, .inr (0, [.ref xS, .ref xW, .ref xN, .ref xH, .int (nI nn), .int od, .int po])), (xS, .inl (cI, 60, .inl B0))] sz) := by
  refine Met.ofW (cc := cX1_put) (maxL := 2) (ret := (some .int)) (by decide) rfl ?_
  intro p e s m args below meth c s₁ B hml hv
  obtain ⟨rfl, hsz, hP, hK, hD0⟩ := hv
  have hx := B.exec
  have hb := B.bytes
  have hr := B.returns
  have hts := atoms_spec (ws := wsX1_put) B.pre
  have hown : s.vm.findClass RX1 = some m.cls := findClass_of_methodNamed B.named
  have hlocks := B.notSynchronized
  subst hsz
  have hD := hD0.self (sz := s.heap.size)
  generalize hAe : va_A [(x, .inr (0, [.ref xS, .ref xW, .ref xN, .ref xH, .int (nI nn), .int od, .int po])), (xS, .inl (cI, 60, .inl B0))] s.heap.size = A at hD ⊢
  have hA : ∀ q : Nat, s.heap.size ≤ q → A q := fun q h => by rw [← hAe]; exact Or.inr h
  have hS : va_S A s.heap s.heap [] := va_S.rf
  refine w_gen hP hS (fun H locs hP hS => ?_)
  have hf9 := hts (.fieldLink RX1 9 "VaultShelves$OrderText" "signs" "[I") (by decide +kernel)
  have hf27 := hts (.fieldLink RX1 27 "VaultShelves$OrderText" "length" "I") (by decide +kernel)
  have hiX1 : ∀ w ∈ u_ws RX1 TX1 7, w ∈ wsX1_put := by decide +kernel
  have hl := lv_entry ([.ref x, .int y]) (n := 2) (Nat.le_of_ble_eq_true rfl)
  rw [lg_entry_eq]
  generalize (lg_sl ([.ref x, .int y]) ++ List.replicate (2 - (lg_sl ([.ref x, .int y])).length) Slot.unset).toArray = ls at hl ⊢
  replace hl : lv_has ls 2 [(0, .ref x), (1, .int y)] := hl
  refine lv_aload_n hx hb dX1_put_0 rfl (lv_at hl 0 rfl) ?_
  refine va_get (D := (dC, dI)) (ci := 0) (v := .ref xS) (C := RX1) (T := TX1) (N := 7) hx hb hts hiX1 hown hK hP 0 rfl rfl 0 (by decide) hf9 (fun _ h9 => h9) rfl dX1_put_1 ?_
  refine lv_aload_n hx hb dX1_put_4 rfl (lv_at hl 0 rfl) ?_
  refine va_get (D := (dC, dI)) (ci := 0) (v := .int (nI nn)) (C := RX1) (T := TX1) (N := 7) hx hb hts hiX1 hown hK hP 0 rfl rfl 4 (by decide) hf27 (fun _ h9 => h9) rfl dX1_put_5 ?_
  refine lv_iload_n hx hb dX1_put_8 rfl (lv_at hl 1 rfl) ?_
  refine n_iast hx hb hK hP hD hS 1 0 rfl rfl (show nn < 60 from by omega) (by decide) dX1_put_9 (fun H locs hP hD hS => ?_)
  replace hP : va_P (dC, dI) vwCl [(x, .inr (0, [.ref xS, .ref xW, .ref xN, .ref xH, .int (nI nn), .int od, .int po])), (xS, .inl (cI, 60, .inl (upd B0 nn y)))] H := hP
  replace hD : va_D A [(x, .inr (0, [.ref xS, .ref xW, .ref xN, .ref xH, .int (nI nn), .int od, .int po])), (xS, .inl (cI, 60, .inl (upd B0 nn y)))] := hD
  refine lv_aload_n hx hb dX1_put_10 rfl (lv_at hl 0 rfl) ?_
  refine lv_dup hx hb dX1_put_11 rfl ?_
  refine va_get (D := (dC, dI)) (ci := 0) (v := .int (nI nn)) (C := RX1) (T := TX1) (N := 7) hx hb hts hiX1 hown hK hP 0 rfl rfl 4 (by decide) hf27 (fun _ h9 => h9) rfl dX1_put_12 ?_
  refine lv_iconst (v := (nI 1)) hx hb dX1_put_15 (by decide) ?_
  refine n_iadd hx hb dX1_put_16 ?_
  refine va_put (D := (dC, dI)) (ci := 0) (v := .int (nI (nn + 1))) (ty := .int) (C := RX1) (T := TX1) (N := 7) hx hb hts hiX1 tyX1 tyX1_ok nmX1 hown hK hP hD hS 0 rfl rfl 4 (by decide) hf27 (fun _ h9 => h9) rfl (by decide +kernel) rfl rfl (Nat.le_of_ble_eq_true rfl) dX1_put_17 (fun H locs hP hD hS => ?_)
  replace hP : va_P (dC, dI) vwCl [(x, .inr (0, [.ref xS, .ref xW, .ref xN, .ref xH, .int (nI (nn + 1)), .int od, .int po])), (xS, .inl (cI, 60, .inl (upd B0 nn y)))] H := hP
  replace hD : va_D A [(x, .inr (0, [.ref xS, .ref xW, .ref xN, .ref xH, .int (nI (nn + 1)), .int od, .int po])), (xS, .inl (cI, 60, .inl (upd B0 nn y)))] := hD
  refine lv_aload_n hx hb dX1_put_20 rfl (lv_at hl 0 rfl) ?_
  refine va_get (D := (dC, dI)) (ci := 0) (v := .int (nI (nn + 1))) (C := RX1) (T := TX1) (N := 7) hx hb hts hiX1 hown hK hP 0 rfl rfl 4 (by decide) hf27 (fun _ h9 => h9) rfl dX1_put_21 ?_
  have hP9 := hP
  have hD9 := hD
  exact W.iret (v := (nI (nn + 1))) hx hb hr (fun t ht hW => ⟨⟨(nI (nn + 1)), (), rfl, rfl, by rw [ht]; exact hP9, va_K.moved hW.alike hK, hD9⟩, hS.F ht⟩) hS.2.2 dX1_put_24
set_option maxHeartbeats 4000000 in
set_option maxRecDepth 100000 in
theorem kX1_wipe (l : Launch) (dC : Nat → ClassId) (dI : Nat → Nat → Nat) (cI cV cW : ClassId) (sz : Nat) (x : Nat) (xS : Nat) (xW : Nat) (xN : Nat) (xH : Nat) (le : Int32) (od : Int32) (po : Int32)  : Met l yX1_wipe wsX1_wipe ({ frames := 0, cells := 0, slots := 0, locals := 0 }) (pW (dC, dI) (tyS cI cV cW) sz [.ref x] [(x, .inr (0, [.ref xS, .ref xW, .ref xN, .ref xH, .int le, .int od, .int po]))]) (va_Qi (fun (r_ : Int32) (_ : Unit) => r_ = le) (fun (_ : Unit) t => qB (dC, dI) (tyS cI cV cW) (va_A [(x, .inr (0, [.ref xS, .ref xW, .ref xN, .ref xH, .int le, .int od, .int po]))] sz) [(x, .inr (0, [.ref xS, .ref xW, .ref xN, .ref xH, .int (nI 0), .int od, .int po]))] t) (va_A [(x, .inr (0, [.ref xS, .ref xW, .ref xN, .ref xH, .int le, .int od, .int po]))] sz)) 0 0 (va_A [(x, .inr (0, [.ref xS, .ref xW, .ref xN, .ref xH, .int le, .int od, .int po]))] sz) := by
  refine Met.ofW (cc := cX1_wipe) (maxL := 2) (ret := (some .int)) (by decide) rfl ?_
  intro p e s m args below meth c s₁ B hml hv
  obtain ⟨rfl, hsz, hP, hK, hD0⟩ := hv
  have hx := B.exec
  have hb := B.bytes
  have hr := B.returns
  have hts := atoms_spec (ws := wsX1_wipe) B.pre
  have hown : s.vm.findClass RX1 = some m.cls := findClass_of_methodNamed B.named
  have hlocks := B.notSynchronized
  subst hsz
  have hD := hD0.self (sz := s.heap.size)
  generalize hAe : va_A [(x, .inr (0, [.ref xS, .ref xW, .ref xN, .ref xH, .int le, .int od, .int po]))] s.heap.size = A at hD ⊢
  have hA : ∀ q : Nat, s.heap.size ≤ q → A q := fun q h => by rw [← hAe]; exact Or.inr h
  have hS : va_S A s.heap s.heap [] := va_S.rf
  refine w_gen hP hS (fun H locs hP hS => ?_)
  have hf27 := hts (.fieldLink RX1 27 "VaultShelves$OrderText" "length" "I") (by decide +kernel)
  have hiX1 : ∀ w ∈ u_ws RX1 TX1 7, w ∈ wsX1_wipe := by decide +kernel
  have hl := lv_entry ([.ref x]) (n := 2) (Nat.le_of_ble_eq_true rfl)
  rw [lg_entry_eq]
  generalize (lg_sl ([.ref x]) ++ List.replicate (2 - (lg_sl ([.ref x])).length) Slot.unset).toArray = ls at hl ⊢
  replace hl : lv_has ls 2 [(0, .ref x)] := hl
  refine lv_aload_n hx hb dX1_wipe_0 rfl (lv_at hl 0 rfl) ?_
  refine va_get (D := (dC, dI)) (ci := 0) (v := .int le) (C := RX1) (T := TX1) (N := 7) hx hb hts hiX1 hown hK hP 0 rfl rfl 4 (by decide) hf27 (fun _ h9 => h9) rfl dX1_wipe_1 ?_
  refine lv_istore_n (lv' := [(1, .int le), (0, .ref x)]) hx hb dX1_wipe_4 rfl hl (by decide) rfl (fun ls hl => ?_)
  refine lv_aload_n hx hb dX1_wipe_5 rfl (lv_at hl 1 rfl) ?_
  refine lv_iconst (v := (nI 0)) hx hb dX1_wipe_6 (by decide) ?_
  refine va_put (D := (dC, dI)) (ci := 0) (v := .int (nI 0)) (ty := .int) (C := RX1) (T := TX1) (N := 7) hx hb hts hiX1 tyX1 tyX1_ok nmX1 hown hK hP hD hS 0 rfl rfl 4 (by decide) hf27 (fun _ h9 => h9) rfl (by decide +kernel) rfl rfl (Nat.le_of_ble_eq_true rfl) dX1_wipe_7 (fun H locs hP hD hS => ?_)
  replace hP : va_P (dC, dI) vwCl [(x, .inr (0, [.ref xS, .ref xW, .ref xN, .ref xH, .int (nI 0), .int od, .int po]))] H := hP
  replace hD : va_D A [(x, .inr (0, [.ref xS, .ref xW, .ref xN, .ref xH, .int (nI 0), .int od, .int po]))] := hD
  refine lv_iload_n hx hb dX1_wipe_10 rfl (lv_at hl 0 rfl) ?_
  have hP9 := hP
  have hD9 := hD
  exact W.iret (v := le) hx hb hr (fun t ht hW => ⟨⟨le, (), rfl, rfl, by rw [ht]; exact hP9, va_K.moved hW.alike hK, hD9⟩, hS.F ht⟩) hS.2.2 dX1_wipe_11
