set_option maxHeartbeats 4000000 in
set_option maxRecDepth 100000 in
theorem kX6_sign (l : Launch) (dC : Nat → ClassId) (dI : Nat → Nat → Nat) (cI cV cW : ClassId) (o : Nat) (th : Int32) (aS : Nat) (aA : Nat) (aV : Nat) (sm : Int32) (aB : Nat) (wl : Int32) (aR : Nat) (rm : Int32) (ga : Int32) (fi : Int32) (se : Int32) (ex : Int32) (ha : Int64) (B0 : Nat → Int32) (nn : Nat) (tn : Nat) (hnn : nn ≤ 60) (htn : tn ≤ nn) : Met l yX6_sign wsX6_sign ({ frames := 0, cells := 0, slots := 0, locals := 0 }) (pR (dC, dI) (tyS cI cV cW) [.ref o] [(o, .inr (4, [.int th, .ref aS, .ref aA, .ref aV, .int sm, .ref aB, .int (nI nn), .int (nI tn), .int wl, .ref aR, .int rm, .int ga, .int fi, .int se, .int ex, .long ha])), (aB, .inl (cI, 60, .inl B0))]) (vp_Si (fun r_ => r_ = (sSg B0 nn tn))) 0 0 (fun _ => False) := by
  refine Met.ofW (cc := cX6_sign) (maxL := 1) (ret := (some .int)) (by decide) rfl ?_
  intro p e s m args below meth c s₁ B hml hv
  obtain ⟨rfl, hP, hK⟩ := hv
  have hx := B.exec
  have hb := B.bytes
  have hr := B.returns
  have hts := atoms_spec (ws := wsX6_sign) B.pre
  have hown : s.vm.findClass RX6 = some m.cls := findClass_of_methodNamed B.named
  have hlocks := B.notSynchronized
  have hf138 := hts (.fieldLink RX6 138 "VaultShelvesModel" "at" "I") (by decide +kernel)
  have hf135 := hts (.fieldLink RX6 135 "VaultShelvesModel" "length" "I") (by decide +kernel)
  have hf19 := hts (.fieldLink RX6 19 "VaultShelvesModel" "buffer" "[I") (by decide +kernel)
  have hiX6 : ∀ w ∈ u_ws RX6 TX6 16, w ∈ wsX6_sign := by decide +kernel
  have hl := lv_entry ([.ref o]) (n := 1) (Nat.le_of_ble_eq_true rfl)
  rw [lg_entry_eq]
  generalize (lg_sl ([.ref o]) ++ List.replicate (1 - (lg_sl ([.ref o])).length) Slot.unset).toArray = ls at hl ⊢
  replace hl : lv_has ls 1 [(0, .ref o)] := hl
  refine lv_aload_n hx hb dX6_sign_0 rfl (lv_at hl 0 rfl) ?_
  refine va_get (D := (dC, dI)) (ci := 4) (v := .int (nI tn)) (C := RX6) (T := TX6) (N := 16) hx hb hts hiX6 hown hK hP 0 rfl rfl 7 (by decide) hf138 (fun _ h9 => h9) rfl dX6_sign_1 ?_
  refine lv_aload_n hx hb dX6_sign_4 rfl (lv_at hl 0 rfl) ?_
  refine va_get (D := (dC, dI)) (ci := 4) (v := .int (nI nn)) (C := RX6) (T := TX6) (N := 16) hx hb hts hiX6 hown hK hP 0 rfl rfl 6 (by decide) hf135 (fun _ h9 => h9) rfl dX6_sign_5 ?_
  refine n_icmp_ge (tgt := 23) hx hb dX6_sign_8 (by decide) (by omega) (by omega) (fun c_8 => ?_) (fun c_8 => ?_)
  · refine lv_iconst (v := (nI 0)) hx hb dX6_sign_23 (by decide) ?_
    exact W.iret (v := (nI 0)) hx hb hr (fun t ht hW => ⟨_, rfl, (show (nI 0) = (sSg B0 nn tn) from by first | rfl | (simp [sSg, c_8, Nat.not_lt.mpr c_8] <;> rfl)), ht⟩) (fun q hq => absurd hq List.not_mem_nil) dX6_sign_24
  · refine lv_aload_n hx hb dX6_sign_11 rfl (lv_at hl 0 rfl) ?_
    refine va_get (D := (dC, dI)) (ci := 4) (v := .ref aB) (C := RX6) (T := TX6) (N := 16) hx hb hts hiX6 hown hK hP 0 rfl rfl 5 (by decide) hf19 (fun _ h9 => h9) rfl dX6_sign_12 ?_
    refine lv_aload_n hx hb dX6_sign_15 rfl (lv_at hl 0 rfl) ?_
    refine va_get (D := (dC, dI)) (ci := 4) (v := .int (nI tn)) (C := RX6) (T := TX6) (N := 16) hx hb hts hiX6 hown hK hP 0 rfl rfl 7 (by decide) hf138 (fun _ h9 => h9) rfl dX6_sign_16 ?_
    refine n_iald hx hb hK hP 1 0 rfl rfl (show tn < 60 from by omega) (by decide) dX6_sign_19 ?_
    refine lv_goto (tgt := 24) hx hb dX6_sign_20 (by decide) ?_
    exact W.iret (v := (B0 tn)) hx hb hr (fun t ht hW => ⟨_, rfl, (show (B0 tn) = (sSg B0 nn tn) from by first | rfl | (simp [sSg, c_8, Nat.not_le.mpr c_8] <;> rfl)), ht⟩) (fun q hq => absurd hq List.not_mem_nil) dX6_sign_24
theorem hdX6_sign : yX6_sign.cls = RX6 ∧ yX6_sign.cls ≠ "java/lang/invoke/MethodHandle" ∧ yX6_sign.cls ≠ "java/lang/invoke/VarHandle" ∧ (parseMethodDescriptor yX6_sign.desc).map (fun d => d.parameters.length) = some 0 := by decide +kernel
set_option maxHeartbeats 4000000 in
set_option maxRecDepth 100000 in
theorem kX6_wants (l : Launch) (dC : Nat → ClassId) (dI : Nat → Nat → Nat) (cI cV cW : ClassId) (sz : Nat) (o : Nat) (th : Int32) (aS : Nat) (aA : Nat) (aV : Nat) (sm : Int32) (aB : Nat) (wl : Bool) (aR : Nat) (rm : Int32) (ga : Int32) (fi : Int32) (se : Int32) (ex : Int32) (ha : Int64) (B0 : Nat → Int32) (nn : Nat) (tn : Nat) (x : Int32) (hnn : nn ≤ 60) (htn : tn ≤ nn) : Met l yX6_wants wsX6_wants ({ frames := 1, cells := 0, slots := 0, locals := 20 }) (pW (dC, dI) (tyS cI cV cW) sz [.ref o, .int x] [(o, .inr (4, [.int th, .ref aS, .ref aA, .ref aV, .int sm, .ref aB, .int (nI nn), .int (nI tn), .int (bI wl), .ref aR, .int rm, .int ga, .int fi, .int se, .int ex, .long ha])), (aB, .inl (cI, 60, .inl B0))]) (va_Qv (fun (_ : Unit) => True) (fun (_ : Unit) t => qB (dC, dI) (tyS cI cV cW) (va_A [(o, .inr (4, [.int th, .ref aS, .ref aA, .ref aV, .int sm, .ref aB, .int (nI nn), .int (nI tn), .int (bI wl), .ref aR, .int rm, .int ga, .int fi, .int se, .int ex, .long ha])), (aB, .inl (cI, 60, .inl B0))] sz) [(o, .inr (4, [.int th, .ref aS, .ref aA, .ref aV, .int sm, .ref aB, .int (nI nn), .int (nI ((wW B0 nn x (wl, tn)).2)), .int (bI ((wW B0 nn x (wl, tn)).1)), .ref aR, .int rm, .int ga, .int fi, .int se, .int ex, .long ha])), (aB, .inl (cI, 60, .inl B0))] t) (va_A [(o, .inr (4, [.int th, .ref aS, .ref aA, .ref aV, .int sm, .ref aB, .int (nI nn), .int (nI tn), .int (bI wl), .ref aR, .int rm, .int ga, .int fi, .int se, .int ex, .long ha])), (aB, .inl (cI, 60, .inl B0))] sz)) 0 0 (va_A [(o, .inr (4, [.int th, .ref aS, .ref aA, .ref aV, .int sm, .ref aB, .int (nI nn), .int (nI tn), .int (bI wl), .ref aR, .int rm, .int ga, .int fi, .int se, .int ex, .long ha])), (aB, .inl (cI, 60, .inl B0))] sz) := by
  refine Met.ofW (cc := cX6_wants) (maxL := 2) (ret := none) (by decide) rfl ?_
  intro p e s m args below meth c s₁ B hml hv
  obtain ⟨rfl, hsz, hP, hK, hD0⟩ := hv
  have hx := B.exec
  have hb := B.bytes
  have hr := B.returns
  have hts := atoms_spec (ws := wsX6_wants) B.pre
  have hown : s.vm.findClass RX6 = some m.cls := findClass_of_methodNamed B.named
  have hlocks := B.notSynchronized
  subst hsz
  have hD := hD0.self (sz := s.heap.size)
  generalize hAe : va_A [(o, .inr (4, [.int th, .ref aS, .ref aA, .ref aV, .int sm, .ref aB, .int (nI nn), .int (nI tn), .int (bI wl), .ref aR, .int rm, .int ga, .int fi, .int se, .int ex, .long ha])), (aB, .inl (cI, 60, .inl B0))] s.heap.size = A at hD ⊢
  have hA : ∀ q : Nat, s.heap.size ≤ q → A q := fun q h => by rw [← hAe]; exact Or.inr h
  have hS : va_S A s.heap s.heap [] := va_S.rf
  refine w_gen hP hS (fun H locs hP hS => ?_)
  have hf141 := hts (.fieldLink RX6 141 "VaultShelvesModel" "isWell" "Z") (by decide +kernel)
  have hf138 := hts (.fieldLink RX6 138 "VaultShelvesModel" "at" "I") (by decide +kernel)
  have hiX6 : ∀ w ∈ u_ws RX6 TX6 16, w ∈ wsX6_wants := by decide +kernel
  have hl := lv_entry ([.ref o, .int x]) (n := 2) (Nat.le_of_ble_eq_true rfl)
  rw [lg_entry_eq]
  generalize (lg_sl ([.ref o, .int x]) ++ List.replicate (2 - (lg_sl ([.ref o, .int x])).length) Slot.unset).toArray = ls at hl ⊢
  replace hl : lv_has ls 2 [(0, .ref o), (1, .int x)] := hl
  refine lv_aload_n hx hb dX6_wants_0 rfl (lv_at hl 0 rfl) ?_
  refine lv_aload_n hx hb dX6_wants_1 rfl (lv_at hl 0 rfl) ?_
  refine va_get (D := (dC, dI)) (ci := 4) (v := .int (bI wl)) (C := RX6) (T := TX6) (N := 16) hx hb hts hiX6 hown hK hP 0 rfl rfl 8 (by decide) hf141 (fun _ h9 => h9) rfl dX6_wants_2 ?_
  refine b_if_eq (tgt := 20) hx hb dX6_wants_5 (by decide) (fun c_5 => ?_) (fun c_5 => ?_)
  · refine lv_iconst (v := (nI 0)) hx hb dX6_wants_20 (by decide) ?_
    refine va_put (D := (dC, dI)) (ci := 4) (v := .int (bI false)) (ty := .boolean) (C := RX6) (T := TX6) (N := 16) hx hb hts hiX6 tyX6 tyX6_ok nmX6 hown hK hP hD hS 0 rfl rfl 8 (by decide) hf141 (fun _ h9 => h9) rfl (by decide +kernel) (nar_bI _) (fit_bI _) (Nat.le_of_ble_eq_true rfl) dX6_wants_21 (fun H locs hP hD hS => ?_)
    replace hP : va_P (dC, dI) vwCl [(o, .inr (4, [.int th, .ref aS, .ref aA, .ref aV, .int sm, .ref aB, .int (nI nn), .int (nI tn), .int (bI false), .ref aR, .int rm, .int ga, .int fi, .int se, .int ex, .long ha])), (aB, .inl (cI, 60, .inl B0))] H := hP
    replace hD : va_D A [(o, .inr (4, [.int th, .ref aS, .ref aA, .ref aV, .int sm, .ref aB, .int (nI nn), .int (nI tn), .int (bI false), .ref aR, .int rm, .int ga, .int fi, .int se, .int ex, .long ha])), (aB, .inl (cI, 60, .inl B0))] := hD
    refine lv_aload_n hx hb dX6_wants_24 rfl (lv_at hl 0 rfl) ?_
    refine lv_dup hx hb dX6_wants_25 rfl ?_
    refine va_get (D := (dC, dI)) (ci := 4) (v := .int (nI tn)) (C := RX6) (T := TX6) (N := 16) hx hb hts hiX6 hown hK hP 0 rfl rfl 7 (by decide) hf138 (fun _ h9 => h9) rfl dX6_wants_26 ?_
    refine lv_aload_n hx hb dX6_wants_29 rfl (lv_at hl 0 rfl) ?_
    refine va_get (D := (dC, dI)) (ci := 4) (v := .int (bI false)) (C := RX6) (T := TX6) (N := 16) hx hb hts hiX6 hown hK hP 0 rfl rfl 8 (by decide) hf141 (fun _ h9 => h9) rfl dX6_wants_30 ?_
    refine b_if_eq (tgt := 40) hx hb dX6_wants_33 (by decide) (fun c_33 => ?_) (fun c_33 => absurd c_33 (by decide))
    refine lv_iconst (v := (nI 0)) hx hb dX6_wants_40 (by decide) ?_
    refine n_iadd hx hb dX6_wants_41 ?_
    refine va_put (D := (dC, dI)) (ci := 4) (v := .int (nI tn)) (ty := .int) (C := RX6) (T := TX6) (N := 16) hx hb hts hiX6 tyX6 tyX6_ok nmX6 hown hK hP hD hS 0 rfl rfl 7 (by decide) hf138 (fun _ h9 => h9) rfl (by decide +kernel) rfl rfl (Nat.le_of_ble_eq_true rfl) dX6_wants_42 (fun H locs hP hD hS => ?_)
    replace hP : va_P (dC, dI) vwCl [(o, .inr (4, [.int th, .ref aS, .ref aA, .ref aV, .int sm, .ref aB, .int (nI nn), .int (nI tn), .int (bI false), .ref aR, .int rm, .int ga, .int fi, .int se, .int ex, .long ha])), (aB, .inl (cI, 60, .inl B0))] H := hP
    replace hD : va_D A [(o, .inr (4, [.int th, .ref aS, .ref aA, .ref aV, .int sm, .ref aB, .int (nI nn), .int (nI tn), .int (bI false), .ref aR, .int rm, .int ga, .int fi, .int se, .int ex, .long ha])), (aB, .inl (cI, 60, .inl B0))] := hD
    have ec_r45_1_o_7 : (nI tn) = (nI ((wW B0 nn x (wl, tn)).2)) := by first | rfl | (simp [wW, c_5, c_33] <;> rfl)
    have ec_r45_1_o_8 : (bI false) = (bI ((wW B0 nn x (wl, tn)).1)) := by first | rfl | (simp [wW, c_5, c_33] <;> rfl)
    have ew_r45_1 : ([(o, .inr (4, [.int th, .ref aS, .ref aA, .ref aV, .int sm, .ref aB, .int (nI nn), .int (nI tn), .int (bI false), .ref aR, .int rm, .int ga, .int fi, .int se, .int ex, .long ha])), (aB, .inl (cI, 60, .inl B0))] : va_W) = [(o, .inr (4, [.int th, .ref aS, .ref aA, .ref aV, .int sm, .ref aB, .int (nI nn), .int (nI ((wW B0 nn x (wl, tn)).2)), .int (bI ((wW B0 nn x (wl, tn)).1)), .ref aR, .int rm, .int ga, .int fi, .int se, .int ex, .long ha])), (aB, .inl (cI, 60, .inl B0))] := ((congrArg (fun z_ => ([(o, .inr (4, [.int th, .ref aS, .ref aA, .ref aV, .int sm, .ref aB, .int (nI nn), .int z_, .int (bI false), .ref aR, .int rm, .int ga, .int fi, .int se, .int ex, .long ha])), (aB, .inl (cI, 60, .inl B0))] : va_W)) ec_r45_1_o_7).trans (congrArg (fun z_ => ([(o, .inr (4, [.int th, .ref aS, .ref aA, .ref aV, .int sm, .ref aB, .int (nI nn), .int (nI ((wW B0 nn x (wl, tn)).2)), .int z_, .ref aR, .int rm, .int ga, .int fi, .int se, .int ex, .long ha])), (aB, .inl (cI, 60, .inl B0))] : va_W)) ec_r45_1_o_8))
    have hP9 := (w_cgP ew_r45_1 hP)
    have hD9 := (w_cgD ew_r45_1 hD)
    exact W.vret hx hb hr (fun t ht hW => ⟨⟨(), rfl, trivial, by rw [ht]; exact hP9, va_K.moved hW.alike hK, hD9⟩, hS.F ht⟩) hS.2.2 dX6_wants_45
  · refine lv_aload_n hx hb dX6_wants_8 rfl (lv_at hl 0 rfl) ?_
    refine vp_callSi (W.runV (As := []) (rest := [.ref o]) ⟨hx, hb, hml, hown, hts⟩ (kX6_sign l dC dI cI cV cW o th aS aA aV sm aB (bI wl) aR rm ga fi se ex ha B0 nn tn (hnn) (htn)) (cwV 0 hts gX6_wants_X6_sign rfl rfl rfl hdX6_sign ⟨Nat.le_of_ble_eq_true rfl, Nat.le_of_ble_eq_true rfl⟩) (pR_V hK hP 0 4 rfl rfl rfl [0, 1] rfl) rfl rfl hl.1 rfl (lv_room (Nat.le_of_ble_eq_true rfl)) dX6_wants_9 ⟨Nat.zero_le _, Nat.zero_le _⟩) (fun r_9 hr_ => ?_)
    subst hr_
    refine lv_iload_n hx hb dX6_wants_12 rfl (lv_at hl 1 rfl) ?_
    refine lv_icmp_ne (tgt := 20) hx hb dX6_wants_13 (by decide) (fun c_13 => ?_) (fun c_13 => ?_)
    · refine lv_iconst (v := (nI 0)) hx hb dX6_wants_20 (by decide) ?_
      refine va_put (D := (dC, dI)) (ci := 4) (v := .int (bI false)) (ty := .boolean) (C := RX6) (T := TX6) (N := 16) hx hb hts hiX6 tyX6 tyX6_ok nmX6 hown hK hP hD hS 0 rfl rfl 8 (by decide) hf141 (fun _ h9 => h9) rfl (by decide +kernel) (nar_bI _) (fit_bI _) (Nat.le_of_ble_eq_true rfl) dX6_wants_21 (fun H locs hP hD hS => ?_)
      replace hP : va_P (dC, dI) vwCl [(o, .inr (4, [.int th, .ref aS, .ref aA, .ref aV, .int sm, .ref aB, .int (nI nn), .int (nI tn), .int (bI false), .ref aR, .int rm, .int ga, .int fi, .int se, .int ex, .long ha])), (aB, .inl (cI, 60, .inl B0))] H := hP
      replace hD : va_D A [(o, .inr (4, [.int th, .ref aS, .ref aA, .ref aV, .int sm, .ref aB, .int (nI nn), .int (nI tn), .int (bI false), .ref aR, .int rm, .int ga, .int fi, .int se, .int ex, .long ha])), (aB, .inl (cI, 60, .inl B0))] := hD
      refine lv_aload_n hx hb dX6_wants_24 rfl (lv_at hl 0 rfl) ?_
      refine lv_dup hx hb dX6_wants_25 rfl ?_
      refine va_get (D := (dC, dI)) (ci := 4) (v := .int (nI tn)) (C := RX6) (T := TX6) (N := 16) hx hb hts hiX6 hown hK hP 0 rfl rfl 7 (by decide) hf138 (fun _ h9 => h9) rfl dX6_wants_26 ?_
      refine lv_aload_n hx hb dX6_wants_29 rfl (lv_at hl 0 rfl) ?_
      refine va_get (D := (dC, dI)) (ci := 4) (v := .int (bI false)) (C := RX6) (T := TX6) (N := 16) hx hb hts hiX6 hown hK hP 0 rfl rfl 8 (by decide) hf141 (fun _ h9 => h9) rfl dX6_wants_30 ?_
      refine b_if_eq (tgt := 40) hx hb dX6_wants_33 (by decide) (fun c_33 => ?_) (fun c_33 => absurd c_33 (by decide))
      refine lv_iconst (v := (nI 0)) hx hb dX6_wants_40 (by decide) ?_
      refine n_iadd hx hb dX6_wants_41 ?_
      refine va_put (D := (dC, dI)) (ci := 4) (v := .int (nI tn)) (ty := .int) (C := RX6) (T := TX6) (N := 16) hx hb hts hiX6 tyX6 tyX6_ok nmX6 hown hK hP hD hS 0 rfl rfl 7 (by decide) hf138 (fun _ h9 => h9) rfl (by decide +kernel) rfl rfl (Nat.le_of_ble_eq_true rfl) dX6_wants_42 (fun H locs hP hD hS => ?_)
      replace hP : va_P (dC, dI) vwCl [(o, .inr (4, [.int th, .ref aS, .ref aA, .ref aV, .int sm, .ref aB, .int (nI nn), .int (nI tn), .int (bI false), .ref aR, .int rm, .int ga, .int fi, .int se, .int ex, .long ha])), (aB, .inl (cI, 60, .inl B0))] H := hP
      replace hD : va_D A [(o, .inr (4, [.int th, .ref aS, .ref aA, .ref aV, .int sm, .ref aB, .int (nI nn), .int (nI tn), .int (bI false), .ref aR, .int rm, .int ga, .int fi, .int se, .int ex, .long ha])), (aB, .inl (cI, 60, .inl B0))] := hD
      have ec_r45_2_o_7 : (nI tn) = (nI ((wW B0 nn x (wl, tn)).2)) := by first | rfl | (simp [wW, c_5, c_13, c_33] <;> rfl)
      have ec_r45_2_o_8 : (bI false) = (bI ((wW B0 nn x (wl, tn)).1)) := by first | rfl | (simp [wW, c_5, c_13, c_33] <;> rfl)
      have ew_r45_2 : ([(o, .inr (4, [.int th, .ref aS, .ref aA, .ref aV, .int sm, .ref aB, .int (nI nn), .int (nI tn), .int (bI false), .ref aR, .int rm, .int ga, .int fi, .int se, .int ex, .long ha])), (aB, .inl (cI, 60, .inl B0))] : va_W) = [(o, .inr (4, [.int th, .ref aS, .ref aA, .ref aV, .int sm, .ref aB, .int (nI nn), .int (nI ((wW B0 nn x (wl, tn)).2)), .int (bI ((wW B0 nn x (wl, tn)).1)), .ref aR, .int rm, .int ga, .int fi, .int se, .int ex, .long ha])), (aB, .inl (cI, 60, .inl B0))] := ((congrArg (fun z_ => ([(o, .inr (4, [.int th, .ref aS, .ref aA, .ref aV, .int sm, .ref aB, .int (nI nn), .int z_, .int (bI false), .ref aR, .int rm, .int ga, .int fi, .int se, .int ex, .long ha])), (aB, .inl (cI, 60, .inl B0))] : va_W)) ec_r45_2_o_7).trans (congrArg (fun z_ => ([(o, .inr (4, [.int th, .ref aS, .ref aA, .ref aV, .int sm, .ref aB, .int (nI nn), .int (nI ((wW B0 nn x (wl, tn)).2)), .int z_, .ref aR, .int rm, .int ga, .int fi, .int se, .int ex, .long ha])), (aB, .inl (cI, 60, .inl B0))] : va_W)) ec_r45_2_o_8))
      have hP9 := (w_cgP ew_r45_2 hP)
      have hD9 := (w_cgD ew_r45_2 hD)
      exact W.vret hx hb hr (fun t ht hW => ⟨⟨(), rfl, trivial, by rw [ht]; exact hP9, va_K.moved hW.alike hK, hD9⟩, hS.F ht⟩) hS.2.2 dX6_wants_45
    · refine lv_iconst (v := (nI 1)) hx hb dX6_wants_16 (by decide) ?_
      refine lv_goto (tgt := 21) hx hb dX6_wants_17 (by decide) ?_
      refine va_put (D := (dC, dI)) (ci := 4) (v := .int (bI true)) (ty := .boolean) (C := RX6) (T := TX6) (N := 16) hx hb hts hiX6 tyX6 tyX6_ok nmX6 hown hK hP hD hS 0 rfl rfl 8 (by decide) hf141 (fun _ h9 => h9) rfl (by decide +kernel) (nar_bI _) (fit_bI _) (Nat.le_of_ble_eq_true rfl) dX6_wants_21 (fun H locs hP hD hS => ?_)
      replace hP : va_P (dC, dI) vwCl [(o, .inr (4, [.int th, .ref aS, .ref aA, .ref aV, .int sm, .ref aB, .int (nI nn), .int (nI tn), .int (bI true), .ref aR, .int rm, .int ga, .int fi, .int se, .int ex, .long ha])), (aB, .inl (cI, 60, .inl B0))] H := hP
      replace hD : va_D A [(o, .inr (4, [.int th, .ref aS, .ref aA, .ref aV, .int sm, .ref aB, .int (nI nn), .int (nI tn), .int (bI true), .ref aR, .int rm, .int ga, .int fi, .int se, .int ex, .long ha])), (aB, .inl (cI, 60, .inl B0))] := hD
      refine lv_aload_n hx hb dX6_wants_24 rfl (lv_at hl 0 rfl) ?_
      refine lv_dup hx hb dX6_wants_25 rfl ?_
      refine va_get (D := (dC, dI)) (ci := 4) (v := .int (nI tn)) (C := RX6) (T := TX6) (N := 16) hx hb hts hiX6 hown hK hP 0 rfl rfl 7 (by decide) hf138 (fun _ h9 => h9) rfl dX6_wants_26 ?_
      refine lv_aload_n hx hb dX6_wants_29 rfl (lv_at hl 0 rfl) ?_
      refine va_get (D := (dC, dI)) (ci := 4) (v := .int (bI true)) (C := RX6) (T := TX6) (N := 16) hx hb hts hiX6 hown hK hP 0 rfl rfl 8 (by decide) hf141 (fun _ h9 => h9) rfl dX6_wants_30 ?_
      refine b_if_eq (tgt := 40) hx hb dX6_wants_33 (by decide) (fun c_33 => absurd c_33 (by decide)) (fun c_33 => ?_)
      refine lv_iconst (v := (nI 1)) hx hb dX6_wants_36 (by decide) ?_
      refine lv_goto (tgt := 41) hx hb dX6_wants_37 (by decide) ?_
      refine n_iadd hx hb dX6_wants_41 ?_
      refine va_put (D := (dC, dI)) (ci := 4) (v := .int (nI (tn + 1))) (ty := .int) (C := RX6) (T := TX6) (N := 16) hx hb hts hiX6 tyX6 tyX6_ok nmX6 hown hK hP hD hS 0 rfl rfl 7 (by decide) hf138 (fun _ h9 => h9) rfl (by decide +kernel) rfl rfl (Nat.le_of_ble_eq_true rfl) dX6_wants_42 (fun H locs hP hD hS => ?_)
      replace hP : va_P (dC, dI) vwCl [(o, .inr (4, [.int th, .ref aS, .ref aA, .ref aV, .int sm, .ref aB, .int (nI nn), .int (nI (tn + 1)), .int (bI true), .ref aR, .int rm, .int ga, .int fi, .int se, .int ex, .long ha])), (aB, .inl (cI, 60, .inl B0))] H := hP
      replace hD : va_D A [(o, .inr (4, [.int th, .ref aS, .ref aA, .ref aV, .int sm, .ref aB, .int (nI nn), .int (nI (tn + 1)), .int (bI true), .ref aR, .int rm, .int ga, .int fi, .int se, .int ex, .long ha])), (aB, .inl (cI, 60, .inl B0))] := hD
      have ec_r45_3_o_7 : (nI (tn + 1)) = (nI ((wW B0 nn x (wl, tn)).2)) := by first | rfl | (simp [wW, c_5, c_13, c_33] <;> rfl)
      have ec_r45_3_o_8 : (bI true) = (bI ((wW B0 nn x (wl, tn)).1)) := by first | rfl | (simp [wW, c_5, c_13, c_33] <;> rfl)
      have ew_r45_3 : ([(o, .inr (4, [.int th, .ref aS, .ref aA, .ref aV, .int sm, .ref aB, .int (nI nn), .int (nI (tn + 1)), .int (bI true), .ref aR, .int rm, .int ga, .int fi, .int se, .int ex, .long ha])), (aB, .inl (cI, 60, .inl B0))] : va_W) = [(o, .inr (4, [.int th, .ref aS, .ref aA, .ref aV, .int sm, .ref aB, .int (nI nn), .int (nI ((wW B0 nn x (wl, tn)).2)), .int (bI ((wW B0 nn x (wl, tn)).1)), .ref aR, .int rm, .int ga, .int fi, .int se, .int ex, .long ha])), (aB, .inl (cI, 60, .inl B0))] := ((congrArg (fun z_ => ([(o, .inr (4, [.int th, .ref aS, .ref aA, .ref aV, .int sm, .ref aB, .int (nI nn), .int z_, .int (bI true), .ref aR, .int rm, .int ga, .int fi, .int se, .int ex, .long ha])), (aB, .inl (cI, 60, .inl B0))] : va_W)) ec_r45_3_o_7).trans (congrArg (fun z_ => ([(o, .inr (4, [.int th, .ref aS, .ref aA, .ref aV, .int sm, .ref aB, .int (nI nn), .int (nI ((wW B0 nn x (wl, tn)).2)), .int z_, .ref aR, .int rm, .int ga, .int fi, .int se, .int ex, .long ha])), (aB, .inl (cI, 60, .inl B0))] : va_W)) ec_r45_3_o_8))
      have hP9 := (w_cgP ew_r45_3 hP)
      have hD9 := (w_cgD ew_r45_3 hD)
      exact W.vret hx hb hr (fun t ht hW => ⟨⟨(), rfl, trivial, by rw [ht]; exact hP9, va_K.moved hW.alike hK, hD9⟩, hS.F ht⟩) hS.2.2 dX6_wants_45
set_option maxHeartbeats 4000000 in
set_option maxRecDepth 100000 in
theorem kX6_number (l : Launch) (dC : Nat → ClassId) (dI : Nat → Nat → Nat) (cI cV cW : ClassId) (sz : Nat) (o : Nat) (th : Int32) (aS : Nat) (aA : Nat) (aV : Nat) (sm : Int32) (aB : Nat) (wl : Bool) (aR : Nat) (rm : Int32) (ga : Int32) (fi : Int32) (se : Int32) (ex : Int32) (ha : Int64) (B0 : Nat → Int32) (nn : Nat) (tn : Nat) (least : Nat) (most : Nat) (hnn : nn ≤ 60) (htn : tn ≤ nn) (hle : least ≤ 9) (hmo : most ≤ 30) : Met l yX6_number wsX6_number ({ frames := 1, cells := 0, slots := 0, locals := 22 }) (pW (dC, dI) (tyS cI cV cW) sz [.ref o, .int (nI least), .int (nI most)] [(o, .inr (4, [.int th, .ref aS, .ref aA, .ref aV, .int sm, .ref aB, .int (nI nn), .int (nI tn), .int (bI wl), .ref aR, .int rm, .int ga, .int fi, .int se, .int ex, .long ha])), (aB, .inl (cI, 60, .inl B0))]) (va_Qi (fun (r_ : Int32) (_ : Unit) => r_ = ((nNum B0 nn least most (wl, tn)).1)) (fun (_ : Unit) t => qB (dC, dI) (tyS cI cV cW) (va_A [(o, .inr (4, [.int th, .ref aS, .ref aA, .ref aV, .int sm, .ref aB, .int (nI nn), .int (nI tn), .int (bI wl), .ref aR, .int rm, .int ga, .int fi, .int se, .int ex, .long ha])), (aB, .inl (cI, 60, .inl B0))] sz) [(o, .inr (4, [.int th, .ref aS, .ref aA, .ref aV, .int sm, .ref aB, .int (nI nn), .int (nI (((nNum B0 nn least most (wl, tn)).2).2)), .int (bI (((nNum B0 nn least most (wl, tn)).2).1)), .ref aR, .int rm, .int ga, .int fi, .int se, .int ex, .long ha])), (aB, .inl (cI, 60, .inl B0))] t) (va_A [(o, .inr (4, [.int th, .ref aS, .ref aA, .ref aV, .int sm, .ref aB, .int (nI nn), .int (nI tn), .int (bI wl), .ref aR, .int rm, .int ga, .int fi, .int se, .int ex, .long ha])), (aB, .inl (cI, 60, .inl B0))] sz)) 0 0 (va_A [(o, .inr (4, [.int th, .ref aS, .ref aA, .ref aV, .int sm, .ref aB, .int (nI nn), .int (nI tn), .int (bI wl), .ref aR, .int rm, .int ga, .int fi, .int se, .int ex, .long ha])), (aB, .inl (cI, 60, .inl B0))] sz) := by
  refine Met.ofW (cc := cX6_number) (maxL := 4) (ret := (some .int)) (by decide) rfl ?_
  intro p e s m args below meth c s₁ B hml hv
  obtain ⟨rfl, hsz, hP, hK, hD0⟩ := hv
  have hx := B.exec
  have hb := B.bytes
  have hr := B.returns
  have hts := atoms_spec (ws := wsX6_number) B.pre
  have hown : s.vm.findClass RX6 = some m.cls := findClass_of_methodNamed B.named
  have hlocks := B.notSynchronized
  subst hsz
  have hD := hD0.self (sz := s.heap.size)
  generalize hAe : va_A [(o, .inr (4, [.int th, .ref aS, .ref aA, .ref aV, .int sm, .ref aB, .int (nI nn), .int (nI tn), .int (bI wl), .ref aR, .int rm, .int ga, .int fi, .int se, .int ex, .long ha])), (aB, .inl (cI, 60, .inl B0))] s.heap.size = A at hD ⊢
  have hA : ∀ q : Nat, s.heap.size ≤ q → A q := fun q h => by rw [← hAe]; exact Or.inr h
  have hS : va_S A s.heap s.heap [] := va_S.rf
  refine w_gen hP hS (fun H locs hP hS => ?_)
  have hf141 := hts (.fieldLink RX6 141 "VaultShelvesModel" "isWell" "Z") (by decide +kernel)
  have hf138 := hts (.fieldLink RX6 138 "VaultShelvesModel" "at" "I") (by decide +kernel)
  have hiX6 : ∀ w ∈ u_ws RX6 TX6 16, w ∈ wsX6_number := by decide +kernel
  have hl := lv_entry ([.ref o, .int (nI least), .int (nI most)]) (n := 4) (Nat.le_of_ble_eq_true rfl)
  rw [lg_entry_eq]
  generalize (lg_sl ([.ref o, .int (nI least), .int (nI most)]) ++ List.replicate (4 - (lg_sl ([.ref o, .int (nI least), .int (nI most)])).length) Slot.unset).toArray = ls at hl ⊢
  replace hl : lv_has ls 4 [(0, .ref o), (1, .int (nI least)), (2, .int (nI most))] := hl
  refine lv_aload_n hx hb dX6_number_0 rfl (lv_at hl 0 rfl) ?_
  refine lv_aload_n hx hb dX6_number_1 rfl (lv_at hl 0 rfl) ?_
  refine va_get (D := (dC, dI)) (ci := 4) (v := .int (bI wl)) (C := RX6) (T := TX6) (N := 16) hx hb hts hiX6 hown hK hP 0 rfl rfl 8 (by decide) hf141 (fun _ h9 => h9) rfl dX6_number_2 ?_
  refine b_if_eq (tgt := 41) hx hb dX6_number_5 (by decide) (fun c_5 => ?_) (fun c_5 => ?_)
  · refine lv_iconst (v := (nI 0)) hx hb dX6_number_41 (by decide) ?_
    refine va_put (D := (dC, dI)) (ci := 4) (v := .int (bI false)) (ty := .boolean) (C := RX6) (T := TX6) (N := 16) hx hb hts hiX6 tyX6 tyX6_ok nmX6 hown hK hP hD hS 0 rfl rfl 8 (by decide) hf141 (fun _ h9 => h9) rfl (by decide +kernel) (nar_bI _) (fit_bI _) (Nat.le_of_ble_eq_true rfl) dX6_number_42 (fun H locs hP hD hS => ?_)
    replace hP : va_P (dC, dI) vwCl [(o, .inr (4, [.int th, .ref aS, .ref aA, .ref aV, .int sm, .ref aB, .int (nI nn), .int (nI tn), .int (bI false), .ref aR, .int rm, .int ga, .int fi, .int se, .int ex, .long ha])), (aB, .inl (cI, 60, .inl B0))] H := hP
    replace hD : va_D A [(o, .inr (4, [.int th, .ref aS, .ref aA, .ref aV, .int sm, .ref aB, .int (nI nn), .int (nI tn), .int (bI false), .ref aR, .int rm, .int ga, .int fi, .int se, .int ex, .long ha])), (aB, .inl (cI, 60, .inl B0))] := hD
    have hin : nIn B0 nn least most (wl, tn) = false := by simp [nIn, c_5, nl57]
    refine lv_aload_n hx hb dX6_number_45 rfl (lv_at hl 0 rfl) ?_
    refine vp_callSi (W.runV (As := []) (rest := []) ⟨hx, hb, hml, hown, hts⟩ (kX6_sign l dC dI cI cV cW o th aS aA aV sm aB (bI false) aR rm ga fi se ex ha B0 nn tn (hnn) (htn)) (cwV 0 hts gX6_number_X6_sign rfl rfl rfl hdX6_sign ⟨Nat.le_of_ble_eq_true rfl, Nat.le_of_ble_eq_true rfl⟩) (pR_V hK hP 0 4 rfl rfl rfl [0, 1] rfl) rfl rfl hl.1 rfl (lv_room (Nat.le_of_ble_eq_true rfl)) dX6_number_46 ⟨Nat.zero_le _, Nat.zero_le _⟩) (fun r_46 hr_ => ?_)
    subst hr_
    refine lv_bipush (v := (nI 48)) hx hb dX6_number_49 (by decide) ?_
    refine lv_isub hx hb dX6_number_51 ?_
    refine lv_istore_n (lv' := [(3, .int ((sSg B0 nn tn) - 48)), (0, .ref o), (1, .int (nI least)), (2, .int (nI most))]) hx hb dX6_number_52 rfl hl (by decide) rfl (fun ls hl => ?_)
    refine lv_aload_n hx hb dX6_number_53 rfl (lv_at hl 1 rfl) ?_
    refine lv_dup hx hb dX6_number_54 rfl ?_
    refine va_get (D := (dC, dI)) (ci := 4) (v := .int (nI tn)) (C := RX6) (T := TX6) (N := 16) hx hb hts hiX6 hown hK hP 0 rfl rfl 7 (by decide) hf138 (fun _ h9 => h9) rfl dX6_number_55 ?_
    refine lv_aload_n hx hb dX6_number_58 rfl (lv_at hl 1 rfl) ?_
    refine va_get (D := (dC, dI)) (ci := 4) (v := .int (bI false)) (C := RX6) (T := TX6) (N := 16) hx hb hts hiX6 hown hK hP 0 rfl rfl 8 (by decide) hf141 (fun _ h9 => h9) rfl dX6_number_59 ?_
    refine b_if_eq (tgt := 69) hx hb dX6_number_62 (by decide) (fun c_62 => ?_) (fun c_62 => absurd c_62 (by decide))
    refine lv_iconst (v := (nI 0)) hx hb dX6_number_69 (by decide) ?_
    refine n_iadd hx hb dX6_number_70 ?_
    refine va_put (D := (dC, dI)) (ci := 4) (v := .int (nI tn)) (ty := .int) (C := RX6) (T := TX6) (N := 16) hx hb hts hiX6 tyX6 tyX6_ok nmX6 hown hK hP hD hS 0 rfl rfl 7 (by decide) hf138 (fun _ h9 => h9) rfl (by decide +kernel) rfl rfl (Nat.le_of_ble_eq_true rfl) dX6_number_71 (fun H locs hP hD hS => ?_)
    replace hP : va_P (dC, dI) vwCl [(o, .inr (4, [.int th, .ref aS, .ref aA, .ref aV, .int sm, .ref aB, .int (nI nn), .int (nI tn), .int (bI false), .ref aR, .int rm, .int ga, .int fi, .int se, .int ex, .long ha])), (aB, .inl (cI, 60, .inl B0))] H := hP
    replace hD : va_D A [(o, .inr (4, [.int th, .ref aS, .ref aA, .ref aV, .int sm, .ref aB, .int (nI nn), .int (nI tn), .int (bI false), .ref aR, .int rm, .int ga, .int fi, .int se, .int ex, .long ha])), (aB, .inl (cI, 60, .inl B0))] := hD
    refine lv_aload_n hx hb dX6_number_74 rfl (lv_at hl 1 rfl) ?_
    refine va_get (D := (dC, dI)) (ci := 4) (v := .int (bI false)) (C := RX6) (T := TX6) (N := 16) hx hb hts hiX6 hown hK hP 0 rfl rfl 8 (by decide) hf141 (fun _ h9 => h9) rfl dX6_number_75 ?_
    refine b_if_eq (tgt := 141) hx hb dX6_number_78 (by decide) (fun c_78 => ?_) (fun c_78 => absurd c_78 (by decide))
    have hN := nNum_f hin
    refine lv_iload_n hx hb dX6_number_141 rfl (lv_at hl 0 rfl) ?_
    have ec_r142_1_o_7 : (nI tn) = (nI (((nNum B0 nn least most (wl, tn)).2).2)) := by first | rfl | (rw [hN])
    have ec_r142_1_o_8 : (bI false) = (bI (((nNum B0 nn least most (wl, tn)).2).1)) := by first | rfl | (rw [hN])
    have ew_r142_1 : ([(o, .inr (4, [.int th, .ref aS, .ref aA, .ref aV, .int sm, .ref aB, .int (nI nn), .int (nI tn), .int (bI false), .ref aR, .int rm, .int ga, .int fi, .int se, .int ex, .long ha])), (aB, .inl (cI, 60, .inl B0))] : va_W) = [(o, .inr (4, [.int th, .ref aS, .ref aA, .ref aV, .int sm, .ref aB, .int (nI nn), .int (nI (((nNum B0 nn least most (wl, tn)).2).2)), .int (bI (((nNum B0 nn least most (wl, tn)).2).1)), .ref aR, .int rm, .int ga, .int fi, .int se, .int ex, .long ha])), (aB, .inl (cI, 60, .inl B0))] := ((congrArg (fun z_ => ([(o, .inr (4, [.int th, .ref aS, .ref aA, .ref aV, .int sm, .ref aB, .int (nI nn), .int z_, .int (bI false), .ref aR, .int rm, .int ga, .int fi, .int se, .int ex, .long ha])), (aB, .inl (cI, 60, .inl B0))] : va_W)) ec_r142_1_o_7).trans (congrArg (fun z_ => ([(o, .inr (4, [.int th, .ref aS, .ref aA, .ref aV, .int sm, .ref aB, .int (nI nn), .int (nI (((nNum B0 nn least most (wl, tn)).2).2)), .int z_, .ref aR, .int rm, .int ga, .int fi, .int se, .int ex, .long ha])), (aB, .inl (cI, 60, .inl B0))] : va_W)) ec_r142_1_o_8))
    have hP9 := (w_cgP ew_r142_1 hP)
    have hD9 := (w_cgD ew_r142_1 hD)
    exact W.iret (v := ((sSg B0 nn tn) - 48)) hx hb hr (fun t ht hW => ⟨⟨((sSg B0 nn tn) - 48), (), rfl, (show ((sSg B0 nn tn) - 48) = ((nNum B0 nn least most (wl, tn)).1) from by first | rfl | (rw [hN])), by rw [ht]; exact hP9, va_K.moved hW.alike hK, hD9⟩, hS.F ht⟩) hS.2.2 dX6_number_142
  · refine lv_aload_n hx hb dX6_number_8 rfl (lv_at hl 0 rfl) ?_
    refine vp_callSi (W.runV (As := []) (rest := [.ref o]) ⟨hx, hb, hml, hown, hts⟩ (kX6_sign l dC dI cI cV cW o th aS aA aV sm aB (bI wl) aR rm ga fi se ex ha B0 nn tn (hnn) (htn)) (cwV 0 hts gX6_number_X6_sign rfl rfl rfl hdX6_sign ⟨Nat.le_of_ble_eq_true rfl, Nat.le_of_ble_eq_true rfl⟩) (pR_V hK hP 0 4 rfl rfl rfl [0, 1] rfl) rfl rfl hl.1 rfl (lv_room (Nat.le_of_ble_eq_true rfl)) dX6_number_9 ⟨Nat.zero_le _, Nat.zero_le _⟩) (fun r_9 hr_ => ?_)
    subst hr_
    refine lv_bipush (v := (nI 48)) hx hb dX6_number_12 (by decide) ?_
    refine lv_iload_n hx hb dX6_number_14 rfl (lv_at hl 1 rfl) ?_
    refine n_iadd hx hb dX6_number_15 ?_
    refine lv_bipush (v := (nI 48)) hx hb dX6_number_16 (by decide) ?_
    refine lv_iload_n hx hb dX6_number_18 rfl (lv_at hl 2 rfl) ?_
    refine lv_bipush (v := (nI 9)) hx hb dX6_number_19 (by decide) ?_
    refine n_icmp_ge (tgt := 28) hx hb dX6_number_21 (by decide) (by omega) (by omega) (fun c_21 => ?_) (fun c_21 => ?_)
    · refine lv_bipush (v := (nI 9)) hx hb dX6_number_28 (by decide) ?_
      refine n_iadd hx hb dX6_number_30 ?_
      refine vp_callSi (W.runS (As := [.int (sSg B0 nn tn), .int (nI (48 + least)), .int (nI 57)]) (rest := [.ref o]) ⟨hx, hb, hml, hown, hts⟩ (kX6_in l dC dI cI cV cW (sSg B0 nn tn) (nI (48 + least)) 57) (va_cwS 3 hts gX6_number_X6_in rfl rfl rfl hdX6_in ⟨Nat.le_of_ble_eq_true rfl, Nat.le_of_ble_eq_true rfl⟩) (pR_S hK hP [] rfl) rfl rfl hl.1 rfl (lv_room (Nat.le_of_ble_eq_true rfl)) dX6_number_31 ⟨Nat.zero_le _, Nat.zero_le _⟩) (fun r_31 hr_ => ?_)
      subst hr_
      refine b_if_eq (tgt := 41) hx hb dX6_number_34 (by decide) (fun c_34 => ?_) (fun c_34 => ?_)
      · refine lv_iconst (v := (nI 0)) hx hb dX6_number_41 (by decide) ?_
        refine va_put (D := (dC, dI)) (ci := 4) (v := .int (bI false)) (ty := .boolean) (C := RX6) (T := TX6) (N := 16) hx hb hts hiX6 tyX6 tyX6_ok nmX6 hown hK hP hD hS 0 rfl rfl 8 (by decide) hf141 (fun _ h9 => h9) rfl (by decide +kernel) (nar_bI _) (fit_bI _) (Nat.le_of_ble_eq_true rfl) dX6_number_42 (fun H locs hP hD hS => ?_)
        replace hP : va_P (dC, dI) vwCl [(o, .inr (4, [.int th, .ref aS, .ref aA, .ref aV, .int sm, .ref aB, .int (nI nn), .int (nI tn), .int (bI false), .ref aR, .int rm, .int ga, .int fi, .int se, .int ex, .long ha])), (aB, .inl (cI, 60, .inl B0))] H := hP
        replace hD : va_D A [(o, .inr (4, [.int th, .ref aS, .ref aA, .ref aV, .int sm, .ref aB, .int (nI nn), .int (nI tn), .int (bI false), .ref aR, .int rm, .int ga, .int fi, .int se, .int ex, .long ha])), (aB, .inl (cI, 60, .inl B0))] := hD
        have hin : nIn B0 nn least most (wl, tn) = false := by simp [nIn, c_5, c_21, Nat.not_lt.mpr c_21, c_34, nl57]
        refine lv_aload_n hx hb dX6_number_45 rfl (lv_at hl 0 rfl) ?_
        refine vp_callSi (W.runV (As := []) (rest := []) ⟨hx, hb, hml, hown, hts⟩ (kX6_sign l dC dI cI cV cW o th aS aA aV sm aB (bI false) aR rm ga fi se ex ha B0 nn tn (hnn) (htn)) (cwV 0 hts gX6_number_X6_sign rfl rfl rfl hdX6_sign ⟨Nat.le_of_ble_eq_true rfl, Nat.le_of_ble_eq_true rfl⟩) (pR_V hK hP 0 4 rfl rfl rfl [0, 1] rfl) rfl rfl hl.1 rfl (lv_room (Nat.le_of_ble_eq_true rfl)) dX6_number_46 ⟨Nat.zero_le _, Nat.zero_le _⟩) (fun r_46 hr_ => ?_)
        subst hr_
        refine lv_bipush (v := (nI 48)) hx hb dX6_number_49 (by decide) ?_
        refine lv_isub hx hb dX6_number_51 ?_
        refine lv_istore_n (lv' := [(3, .int ((sSg B0 nn tn) - 48)), (0, .ref o), (1, .int (nI least)), (2, .int (nI most))]) hx hb dX6_number_52 rfl hl (by decide) rfl (fun ls hl => ?_)
        refine lv_aload_n hx hb dX6_number_53 rfl (lv_at hl 1 rfl) ?_
        refine lv_dup hx hb dX6_number_54 rfl ?_
        refine va_get (D := (dC, dI)) (ci := 4) (v := .int (nI tn)) (C := RX6) (T := TX6) (N := 16) hx hb hts hiX6 hown hK hP 0 rfl rfl 7 (by decide) hf138 (fun _ h9 => h9) rfl dX6_number_55 ?_
        refine lv_aload_n hx hb dX6_number_58 rfl (lv_at hl 1 rfl) ?_
        refine va_get (D := (dC, dI)) (ci := 4) (v := .int (bI false)) (C := RX6) (T := TX6) (N := 16) hx hb hts hiX6 hown hK hP 0 rfl rfl 8 (by decide) hf141 (fun _ h9 => h9) rfl dX6_number_59 ?_
        refine b_if_eq (tgt := 69) hx hb dX6_number_62 (by decide) (fun c_62 => ?_) (fun c_62 => absurd c_62 (by decide))
        refine lv_iconst (v := (nI 0)) hx hb dX6_number_69 (by decide) ?_
        refine n_iadd hx hb dX6_number_70 ?_
        refine va_put (D := (dC, dI)) (ci := 4) (v := .int (nI tn)) (ty := .int) (C := RX6) (T := TX6) (N := 16) hx hb hts hiX6 tyX6 tyX6_ok nmX6 hown hK hP hD hS 0 rfl rfl 7 (by decide) hf138 (fun _ h9 => h9) rfl (by decide +kernel) rfl rfl (Nat.le_of_ble_eq_true rfl) dX6_number_71 (fun H locs hP hD hS => ?_)
        replace hP : va_P (dC, dI) vwCl [(o, .inr (4, [.int th, .ref aS, .ref aA, .ref aV, .int sm, .ref aB, .int (nI nn), .int (nI tn), .int (bI false), .ref aR, .int rm, .int ga, .int fi, .int se, .int ex, .long ha])), (aB, .inl (cI, 60, .inl B0))] H := hP
        replace hD : va_D A [(o, .inr (4, [.int th, .ref aS, .ref aA, .ref aV, .int sm, .ref aB, .int (nI nn), .int (nI tn), .int (bI false), .ref aR, .int rm, .int ga, .int fi, .int se, .int ex, .long ha])), (aB, .inl (cI, 60, .inl B0))] := hD
        refine lv_aload_n hx hb dX6_number_74 rfl (lv_at hl 1 rfl) ?_
        refine va_get (D := (dC, dI)) (ci := 4) (v := .int (bI false)) (C := RX6) (T := TX6) (N := 16) hx hb hts hiX6 hown hK hP 0 rfl rfl 8 (by decide) hf141 (fun _ h9 => h9) rfl dX6_number_75 ?_
        refine b_if_eq (tgt := 141) hx hb dX6_number_78 (by decide) (fun c_78 => ?_) (fun c_78 => absurd c_78 (by decide))
        have hN := nNum_f hin
        refine lv_iload_n hx hb dX6_number_141 rfl (lv_at hl 0 rfl) ?_
        have ec_r142_2_o_7 : (nI tn) = (nI (((nNum B0 nn least most (wl, tn)).2).2)) := by first | rfl | (rw [hN])
        have ec_r142_2_o_8 : (bI false) = (bI (((nNum B0 nn least most (wl, tn)).2).1)) := by first | rfl | (rw [hN])
        have ew_r142_2 : ([(o, .inr (4, [.int th, .ref aS, .ref aA, .ref aV, .int sm, .ref aB, .int (nI nn), .int (nI tn), .int (bI false), .ref aR, .int rm, .int ga, .int fi, .int se, .int ex, .long ha])), (aB, .inl (cI, 60, .inl B0))] : va_W) = [(o, .inr (4, [.int th, .ref aS, .ref aA, .ref aV, .int sm, .ref aB, .int (nI nn), .int (nI (((nNum B0 nn least most (wl, tn)).2).2)), .int (bI (((nNum B0 nn least most (wl, tn)).2).1)), .ref aR, .int rm, .int ga, .int fi, .int se, .int ex, .long ha])), (aB, .inl (cI, 60, .inl B0))] := ((congrArg (fun z_ => ([(o, .inr (4, [.int th, .ref aS, .ref aA, .ref aV, .int sm, .ref aB, .int (nI nn), .int z_, .int (bI false), .ref aR, .int rm, .int ga, .int fi, .int se, .int ex, .long ha])), (aB, .inl (cI, 60, .inl B0))] : va_W)) ec_r142_2_o_7).trans (congrArg (fun z_ => ([(o, .inr (4, [.int th, .ref aS, .ref aA, .ref aV, .int sm, .ref aB, .int (nI nn), .int (nI (((nNum B0 nn least most (wl, tn)).2).2)), .int z_, .ref aR, .int rm, .int ga, .int fi, .int se, .int ex, .long ha])), (aB, .inl (cI, 60, .inl B0))] : va_W)) ec_r142_2_o_8))
        have hP9 := (w_cgP ew_r142_2 hP)
        have hD9 := (w_cgD ew_r142_2 hD)
        exact W.iret (v := ((sSg B0 nn tn) - 48)) hx hb hr (fun t ht hW => ⟨⟨((sSg B0 nn tn) - 48), (), rfl, (show ((sSg B0 nn tn) - 48) = ((nNum B0 nn least most (wl, tn)).1) from by first | rfl | (rw [hN])), by rw [ht]; exact hP9, va_K.moved hW.alike hK, hD9⟩, hS.F ht⟩) hS.2.2 dX6_number_142
      · refine lv_iconst (v := (nI 1)) hx hb dX6_number_37 (by decide) ?_
        refine lv_goto (tgt := 42) hx hb dX6_number_38 (by decide) ?_
        refine va_put (D := (dC, dI)) (ci := 4) (v := .int (bI true)) (ty := .boolean) (C := RX6) (T := TX6) (N := 16) hx hb hts hiX6 tyX6 tyX6_ok nmX6 hown hK hP hD hS 0 rfl rfl 8 (by decide) hf141 (fun _ h9 => h9) rfl (by decide +kernel) (nar_bI _) (fit_bI _) (Nat.le_of_ble_eq_true rfl) dX6_number_42 (fun H locs hP hD hS => ?_)
        replace hP : va_P (dC, dI) vwCl [(o, .inr (4, [.int th, .ref aS, .ref aA, .ref aV, .int sm, .ref aB, .int (nI nn), .int (nI tn), .int (bI true), .ref aR, .int rm, .int ga, .int fi, .int se, .int ex, .long ha])), (aB, .inl (cI, 60, .inl B0))] H := hP
        replace hD : va_D A [(o, .inr (4, [.int th, .ref aS, .ref aA, .ref aV, .int sm, .ref aB, .int (nI nn), .int (nI tn), .int (bI true), .ref aR, .int rm, .int ga, .int fi, .int se, .int ex, .long ha])), (aB, .inl (cI, 60, .inl B0))] := hD
        have hin : nIn B0 nn least most (wl, tn) = true := by simp [nIn, c_5, c_21, Nat.not_lt.mpr c_21, c_34, nl57]
        refine lv_aload_n hx hb dX6_number_45 rfl (lv_at hl 0 rfl) ?_
        refine vp_callSi (W.runV (As := []) (rest := []) ⟨hx, hb, hml, hown, hts⟩ (kX6_sign l dC dI cI cV cW o th aS aA aV sm aB (bI true) aR rm ga fi se ex ha B0 nn tn (hnn) (htn)) (cwV 0 hts gX6_number_X6_sign rfl rfl rfl hdX6_sign ⟨Nat.le_of_ble_eq_true rfl, Nat.le_of_ble_eq_true rfl⟩) (pR_V hK hP 0 4 rfl rfl rfl [0, 1] rfl) rfl rfl hl.1 rfl (lv_room (Nat.le_of_ble_eq_true rfl)) dX6_number_46 ⟨Nat.zero_le _, Nat.zero_le _⟩) (fun r_46 hr_ => ?_)
        subst hr_
        refine lv_bipush (v := (nI 48)) hx hb dX6_number_49 (by decide) ?_
        refine lv_isub hx hb dX6_number_51 ?_
        refine lv_istore_n (lv' := [(3, .int ((sSg B0 nn tn) - 48)), (0, .ref o), (1, .int (nI least)), (2, .int (nI most))]) hx hb dX6_number_52 rfl hl (by decide) rfl (fun ls hl => ?_)
        refine lv_aload_n hx hb dX6_number_53 rfl (lv_at hl 1 rfl) ?_
        refine lv_dup hx hb dX6_number_54 rfl ?_
        refine va_get (D := (dC, dI)) (ci := 4) (v := .int (nI tn)) (C := RX6) (T := TX6) (N := 16) hx hb hts hiX6 hown hK hP 0 rfl rfl 7 (by decide) hf138 (fun _ h9 => h9) rfl dX6_number_55 ?_
        refine lv_aload_n hx hb dX6_number_58 rfl (lv_at hl 1 rfl) ?_
        refine va_get (D := (dC, dI)) (ci := 4) (v := .int (bI true)) (C := RX6) (T := TX6) (N := 16) hx hb hts hiX6 hown hK hP 0 rfl rfl 8 (by decide) hf141 (fun _ h9 => h9) rfl dX6_number_59 ?_
        refine b_if_eq (tgt := 69) hx hb dX6_number_62 (by decide) (fun c_62 => absurd c_62 (by decide)) (fun c_62 => ?_)
        refine lv_iconst (v := (nI 1)) hx hb dX6_number_65 (by decide) ?_
        refine lv_goto (tgt := 70) hx hb dX6_number_66 (by decide) ?_
        refine n_iadd hx hb dX6_number_70 ?_
        refine va_put (D := (dC, dI)) (ci := 4) (v := .int (nI (tn + 1))) (ty := .int) (C := RX6) (T := TX6) (N := 16) hx hb hts hiX6 tyX6 tyX6_ok nmX6 hown hK hP hD hS 0 rfl rfl 7 (by decide) hf138 (fun _ h9 => h9) rfl (by decide +kernel) rfl rfl (Nat.le_of_ble_eq_true rfl) dX6_number_71 (fun H locs hP hD hS => ?_)
        replace hP : va_P (dC, dI) vwCl [(o, .inr (4, [.int th, .ref aS, .ref aA, .ref aV, .int sm, .ref aB, .int (nI nn), .int (nI (tn + 1)), .int (bI true), .ref aR, .int rm, .int ga, .int fi, .int se, .int ex, .long ha])), (aB, .inl (cI, 60, .inl B0))] H := hP
        replace hD : va_D A [(o, .inr (4, [.int th, .ref aS, .ref aA, .ref aV, .int sm, .ref aB, .int (nI nn), .int (nI (tn + 1)), .int (bI true), .ref aR, .int rm, .int ga, .int fi, .int se, .int ex, .long ha])), (aB, .inl (cI, 60, .inl B0))] := hD
        have el_i74_3 : ((sSg B0 nn tn) - 48) = (sSg B0 nn tn - 48) := by rfl
        have hI0 : (fun (q_ : Nat × Int32) ls H locs => match q_ with | (tt, v) => (tt ≤ nn) ∧ (nLp B0 nn most true (nn - (tn + 1)) (sSg B0 nn tn - 48) (tn + 1) = nLp B0 nn most true (nn - tt) v tt) ∧ (va_P (dC, dI) vwCl [(o, .inr (4, [.int th, .ref aS, .ref aA, .ref aV, .int sm, .ref aB, .int (nI nn), .int (nI tt), .int (bI true), .ref aR, .int rm, .int ga, .int fi, .int se, .int ex, .long ha])), (aB, .inl (cI, 60, .inl B0))] H) ∧ (va_D A [(o, .inr (4, [.int th, .ref aS, .ref aA, .ref aV, .int sm, .ref aB, .int (nI nn), .int (nI tt), .int (bI true), .ref aR, .int rm, .int ga, .int fi, .int se, .int ex, .long ha])), (aB, .inl (cI, 60, .inl B0))]) ∧ (va_S A s.heap H locs) ∧ (lv_has ls 4 [(0, .ref o), (2, .int (nI most)), (3, .int v)])) (tn + 1, sSg B0 nn tn - 48) ls H locs := ⟨(nT1_le (B := B0) (most := most) (q := (wl, tn)) hle htn).2.2 hin ▸ (nT1_le (B := B0) (most := most) (q := (wl, tn)) hle htn).2.1, rfl, hP, hD, hS, lv_cg (lv_sub hl [1, 3, 0] rfl) (congrArg (fun z_ => ([(0, .ref o), (2, .int (nI most)), (3, .int z_)] : List (Nat × Value))) el_i74_3)⟩
        clear hl hP hD hS
        revert ls
        revert locs
        revert H
        refine lp_H (fun (q_ : Nat × Int32) ls H locs => match q_ with | (tt, v) => (tt ≤ nn) ∧ (nLp B0 nn most true (nn - (tn + 1)) (sSg B0 nn tn - 48) (tn + 1) = nLp B0 nn most true (nn - tt) v tt) ∧ (va_P (dC, dI) vwCl [(o, .inr (4, [.int th, .ref aS, .ref aA, .ref aV, .int sm, .ref aB, .int (nI nn), .int (nI tt), .int (bI true), .ref aR, .int rm, .int ga, .int fi, .int se, .int ex, .long ha])), (aB, .inl (cI, 60, .inl B0))] H) ∧ (va_D A [(o, .inr (4, [.int th, .ref aS, .ref aA, .ref aV, .int sm, .ref aB, .int (nI nn), .int (nI tt), .int (bI true), .ref aR, .int rm, .int ga, .int fi, .int se, .int ex, .long ha])), (aB, .inl (cI, 60, .inl B0))]) ∧ (va_S A s.heap H locs) ∧ (lv_has ls 4 [(0, .ref o), (2, .int (nI most)), (3, .int v)])) (fun (q_ : Nat × Int32) => match q_ with | (tt, v) => nn - tt) (tn + 1, sSg B0 nn tn - 48) (fun q_ H locs ls hI ih74 => ?_)
        obtain ⟨tt, v⟩ := q_
        dsimp only at hI ih74
        obtain ⟨ht, hE, hP, hD, hS, hl⟩ := hI
        refine lv_aload_n hx hb dX6_number_74 rfl (lv_at hl 0 rfl) ?_
        refine va_get (D := (dC, dI)) (ci := 4) (v := .int (bI true)) (C := RX6) (T := TX6) (N := 16) hx hb hts hiX6 hown hK hP 0 rfl rfl 8 (by decide) hf141 (fun _ h9 => h9) rfl dX6_number_75 ?_
        refine b_if_eq (tgt := 141) hx hb dX6_number_78 (by decide) (fun c_78 => absurd c_78 (by decide)) (fun c_78 => ?_)
        refine lv_iload_n hx hb dX6_number_81 rfl (lv_at hl 2 rfl) ?_
        refine lv_if_le (tgt := 141) hx hb dX6_number_82 (by decide) (fun c_82 => ?_) (fun c_82 => ?_)
        · have hN := nNum_t hin (hE.trans (nLp_stop (by simp [nCn, c_5, c_21, Nat.not_lt.mpr c_21, c_34, c_62, c_78, c_82, Int32.not_lt.mpr c_82])))
          refine lv_iload_n hx hb dX6_number_141 rfl (lv_at hl 2 rfl) ?_
          have ec_r142_3_o_7 : (nI tt) = (nI (((nNum B0 nn least most (wl, tn)).2).2)) := by first | rfl | (rw [hN])
          have ec_r142_3_o_8 : (bI true) = (bI (((nNum B0 nn least most (wl, tn)).2).1)) := by first | rfl | (rw [hN])
          have ew_r142_3 : ([(o, .inr (4, [.int th, .ref aS, .ref aA, .ref aV, .int sm, .ref aB, .int (nI nn), .int (nI tt), .int (bI true), .ref aR, .int rm, .int ga, .int fi, .int se, .int ex, .long ha])), (aB, .inl (cI, 60, .inl B0))] : va_W) = [(o, .inr (4, [.int th, .ref aS, .ref aA, .ref aV, .int sm, .ref aB, .int (nI nn), .int (nI (((nNum B0 nn least most (wl, tn)).2).2)), .int (bI (((nNum B0 nn least most (wl, tn)).2).1)), .ref aR, .int rm, .int ga, .int fi, .int se, .int ex, .long ha])), (aB, .inl (cI, 60, .inl B0))] := ((congrArg (fun z_ => ([(o, .inr (4, [.int th, .ref aS, .ref aA, .ref aV, .int sm, .ref aB, .int (nI nn), .int z_, .int (bI true), .ref aR, .int rm, .int ga, .int fi, .int se, .int ex, .long ha])), (aB, .inl (cI, 60, .inl B0))] : va_W)) ec_r142_3_o_7).trans (congrArg (fun z_ => ([(o, .inr (4, [.int th, .ref aS, .ref aA, .ref aV, .int sm, .ref aB, .int (nI nn), .int (nI (((nNum B0 nn least most (wl, tn)).2).2)), .int z_, .ref aR, .int rm, .int ga, .int fi, .int se, .int ex, .long ha])), (aB, .inl (cI, 60, .inl B0))] : va_W)) ec_r142_3_o_8))
          have hP9 := (w_cgP ew_r142_3 hP)
          have hD9 := (w_cgD ew_r142_3 hD)
          exact W.iret (v := v) hx hb hr (fun t ht hW => ⟨⟨v, (), rfl, (show v = ((nNum B0 nn least most (wl, tn)).1) from by first | rfl | (rw [hN])), by rw [ht]; exact hP9, va_K.moved hW.alike hK, hD9⟩, hS.F ht⟩) hS.2.2 dX6_number_142
        · refine lv_aload_n hx hb dX6_number_85 rfl (lv_at hl 0 rfl) ?_
          refine vp_callSi (W.runV (As := []) (rest := []) ⟨hx, hb, hml, hown, hts⟩ (kX6_sign l dC dI cI cV cW o th aS aA aV sm aB (bI true) aR rm ga fi se ex ha B0 nn tt (hnn) (by omega)) (cwV 0 hts gX6_number_X6_sign rfl rfl rfl hdX6_sign ⟨Nat.le_of_ble_eq_true rfl, Nat.le_of_ble_eq_true rfl⟩) (pR_V hK hP 0 4 rfl rfl rfl [0, 1] rfl) rfl rfl hl.1 rfl (lv_room (Nat.le_of_ble_eq_true rfl)) dX6_number_86 ⟨Nat.zero_le _, Nat.zero_le _⟩) (fun r_86 hr_ => ?_)
          subst hr_
          refine lv_bipush (v := (nI 48)) hx hb dX6_number_89 (by decide) ?_
          refine lv_bipush (v := (nI 57)) hx hb dX6_number_91 (by decide) ?_
          refine vp_callSi (W.runS (As := [.int (sSg B0 nn tt), .int (nI 48), .int (nI 57)]) (rest := []) ⟨hx, hb, hml, hown, hts⟩ (kX6_in l dC dI cI cV cW (sSg B0 nn tt) 48 57) (va_cwS 3 hts gX6_number_X6_in rfl rfl rfl hdX6_in ⟨Nat.le_of_ble_eq_true rfl, Nat.le_of_ble_eq_true rfl⟩) (pR_S hK hP [] rfl) rfl rfl hl.1 rfl (lv_room (Nat.le_of_ble_eq_true rfl)) dX6_number_93 ⟨Nat.zero_le _, Nat.zero_le _⟩) (fun r_93 hr_ => ?_)
          subst hr_
          refine b_if_eq (tgt := 141) hx hb dX6_number_96 (by decide) (fun c_96 => ?_) (fun c_96 => ?_)
          · have hN := nNum_t hin (hE.trans (nLp_stop (by simp [nCn, c_5, c_21, Nat.not_lt.mpr c_21, c_34, c_62, c_78, c_82, Int32.not_le.mp c_82, c_96])))
            refine lv_iload_n hx hb dX6_number_141 rfl (lv_at hl 2 rfl) ?_
            have ec_r142_4_o_7 : (nI tt) = (nI (((nNum B0 nn least most (wl, tn)).2).2)) := by first | rfl | (rw [hN])
            have ec_r142_4_o_8 : (bI true) = (bI (((nNum B0 nn least most (wl, tn)).2).1)) := by first | rfl | (rw [hN])
            have ew_r142_4 : ([(o, .inr (4, [.int th, .ref aS, .ref aA, .ref aV, .int sm, .ref aB, .int (nI nn), .int (nI tt), .int (bI true), .ref aR, .int rm, .int ga, .int fi, .int se, .int ex, .long ha])), (aB, .inl (cI, 60, .inl B0))] : va_W) = [(o, .inr (4, [.int th, .ref aS, .ref aA, .ref aV, .int sm, .ref aB, .int (nI nn), .int (nI (((nNum B0 nn least most (wl, tn)).2).2)), .int (bI (((nNum B0 nn least most (wl, tn)).2).1)), .ref aR, .int rm, .int ga, .int fi, .int se, .int ex, .long ha])), (aB, .inl (cI, 60, .inl B0))] := ((congrArg (fun z_ => ([(o, .inr (4, [.int th, .ref aS, .ref aA, .ref aV, .int sm, .ref aB, .int (nI nn), .int z_, .int (bI true), .ref aR, .int rm, .int ga, .int fi, .int se, .int ex, .long ha])), (aB, .inl (cI, 60, .inl B0))] : va_W)) ec_r142_4_o_7).trans (congrArg (fun z_ => ([(o, .inr (4, [.int th, .ref aS, .ref aA, .ref aV, .int sm, .ref aB, .int (nI nn), .int (nI (((nNum B0 nn least most (wl, tn)).2).2)), .int z_, .ref aR, .int rm, .int ga, .int fi, .int se, .int ex, .long ha])), (aB, .inl (cI, 60, .inl B0))] : va_W)) ec_r142_4_o_8))
            have hP9 := (w_cgP ew_r142_4 hP)
            have hD9 := (w_cgD ew_r142_4 hD)
            exact W.iret (v := v) hx hb hr (fun t ht hW => ⟨⟨v, (), rfl, (show v = ((nNum B0 nn least most (wl, tn)).1) from by first | rfl | (rw [hN])), by rw [ht]; exact hP9, va_K.moved hW.alike hK, hD9⟩, hS.F ht⟩) hS.2.2 dX6_number_142
          · refine lv_bipush (v := (nI 10)) hx hb dX6_number_99 (by decide) ?_
            refine lv_iload_n hx hb dX6_number_101 rfl (lv_at hl 2 rfl) ?_
            refine lv_imul hx hb dX6_number_102 ?_
            refine lv_aload_n hx hb dX6_number_103 rfl (lv_at hl 0 rfl) ?_
            refine vp_callSi (W.runV (As := []) (rest := [.int (10 * v)]) ⟨hx, hb, hml, hown, hts⟩ (kX6_sign l dC dI cI cV cW o th aS aA aV sm aB (bI true) aR rm ga fi se ex ha B0 nn tt (hnn) (by omega)) (cwV 0 hts gX6_number_X6_sign rfl rfl rfl hdX6_sign ⟨Nat.le_of_ble_eq_true rfl, Nat.le_of_ble_eq_true rfl⟩) (pR_V hK hP 0 4 rfl rfl rfl [0, 1] rfl) rfl rfl hl.1 rfl (lv_room (Nat.le_of_ble_eq_true rfl)) dX6_number_104 ⟨Nat.zero_le _, Nat.zero_le _⟩) (fun r_104 hr_ => ?_)
            subst hr_
            refine lv_iadd hx hb dX6_number_107 ?_
            refine lv_bipush (v := (nI 48)) hx hb dX6_number_108 (by decide) ?_
            refine lv_isub hx hb dX6_number_110 ?_
            refine lv_iload_n hx hb dX6_number_111 rfl (lv_at hl 1 rfl) ?_
            refine lv_icmp_gt (tgt := 141) hx hb dX6_number_112 (by decide) (fun c_112 => ?_) (fun c_112 => ?_)
            · have d_112 : ¬ (10 * v + sSg B0 nn tt - 48 ≤ nI most) := Int32.not_le.mpr c_112
              have hN := nNum_t hin (hE.trans (nLp_stop (by simp only [nCn, decide_eq_false d_112, Bool.and_false])))
              refine lv_iload_n hx hb dX6_number_141 rfl (lv_at hl 2 rfl) ?_
              have ec_r142_5_o_7 : (nI tt) = (nI (((nNum B0 nn least most (wl, tn)).2).2)) := by first | rfl | (rw [hN])
              have ec_r142_5_o_8 : (bI true) = (bI (((nNum B0 nn least most (wl, tn)).2).1)) := by first | rfl | (rw [hN])
              have ew_r142_5 : ([(o, .inr (4, [.int th, .ref aS, .ref aA, .ref aV, .int sm, .ref aB, .int (nI nn), .int (nI tt), .int (bI true), .ref aR, .int rm, .int ga, .int fi, .int se, .int ex, .long ha])), (aB, .inl (cI, 60, .inl B0))] : va_W) = [(o, .inr (4, [.int th, .ref aS, .ref aA, .ref aV, .int sm, .ref aB, .int (nI nn), .int (nI (((nNum B0 nn least most (wl, tn)).2).2)), .int (bI (((nNum B0 nn least most (wl, tn)).2).1)), .ref aR, .int rm, .int ga, .int fi, .int se, .int ex, .long ha])), (aB, .inl (cI, 60, .inl B0))] := ((congrArg (fun z_ => ([(o, .inr (4, [.int th, .ref aS, .ref aA, .ref aV, .int sm, .ref aB, .int (nI nn), .int z_, .int (bI true), .ref aR, .int rm, .int ga, .int fi, .int se, .int ex, .long ha])), (aB, .inl (cI, 60, .inl B0))] : va_W)) ec_r142_5_o_7).trans (congrArg (fun z_ => ([(o, .inr (4, [.int th, .ref aS, .ref aA, .ref aV, .int sm, .ref aB, .int (nI nn), .int (nI (((nNum B0 nn least most (wl, tn)).2).2)), .int z_, .ref aR, .int rm, .int ga, .int fi, .int se, .int ex, .long ha])), (aB, .inl (cI, 60, .inl B0))] : va_W)) ec_r142_5_o_8))
              have hP9 := (w_cgP ew_r142_5 hP)
              have hD9 := (w_cgD ew_r142_5 hD)
              exact W.iret (v := v) hx hb hr (fun t ht hW => ⟨⟨v, (), rfl, (show v = ((nNum B0 nn least most (wl, tn)).1) from by first | rfl | (rw [hN])), by rw [ht]; exact hP9, va_K.moved hW.alike hK, hD9⟩, hS.F ht⟩) hS.2.2 dX6_number_142
            · have d_112 : 10 * v + sSg B0 nn tt - 48 ≤ nI most := Int32.not_lt.mp c_112
              have hcn : nCn B0 nn most true v tt = true := by simp [nCn, c_5, c_21, Nat.not_lt.mpr c_21, c_34, c_62, c_78, c_82, Int32.not_le.mp c_82, c_96, c_112, Int32.not_lt.mp c_112, d_112]
              refine lv_bipush (v := (nI 10)) hx hb dX6_number_115 (by decide) ?_
              refine lv_iload_n hx hb dX6_number_117 rfl (lv_at hl 2 rfl) ?_
              refine lv_imul hx hb dX6_number_118 ?_
              refine lv_aload_n hx hb dX6_number_119 rfl (lv_at hl 0 rfl) ?_
              refine vp_callSi (W.runV (As := []) (rest := [.int (10 * v)]) ⟨hx, hb, hml, hown, hts⟩ (kX6_sign l dC dI cI cV cW o th aS aA aV sm aB (bI true) aR rm ga fi se ex ha B0 nn tt (hnn) (by omega)) (cwV 0 hts gX6_number_X6_sign rfl rfl rfl hdX6_sign ⟨Nat.le_of_ble_eq_true rfl, Nat.le_of_ble_eq_true rfl⟩) (pR_V hK hP 0 4 rfl rfl rfl [0, 1] rfl) rfl rfl hl.1 rfl (lv_room (Nat.le_of_ble_eq_true rfl)) dX6_number_120 ⟨Nat.zero_le _, Nat.zero_le _⟩) (fun r_120 hr_ => ?_)
              subst hr_
              refine lv_iadd hx hb dX6_number_123 ?_
              refine lv_bipush (v := (nI 48)) hx hb dX6_number_124 (by decide) ?_
              refine lv_isub hx hb dX6_number_126 ?_
              refine lv_istore_n (lv' := [(3, .int (((10 * v) + (sSg B0 nn tt)) - 48)), (0, .ref o), (2, .int (nI most))]) hx hb dX6_number_127 rfl hl (by decide) rfl (fun ls hl => ?_)
              refine lv_aload_n hx hb dX6_number_128 rfl (lv_at hl 1 rfl) ?_
              refine lv_dup hx hb dX6_number_129 rfl ?_
              refine va_get (D := (dC, dI)) (ci := 4) (v := .int (nI tt)) (C := RX6) (T := TX6) (N := 16) hx hb hts hiX6 hown hK hP 0 rfl rfl 7 (by decide) hf138 (fun _ h9 => h9) rfl dX6_number_130 ?_
              refine lv_iconst (v := (nI 1)) hx hb dX6_number_133 (by decide) ?_
              refine n_iadd hx hb dX6_number_134 ?_
              refine va_put (D := (dC, dI)) (ci := 4) (v := .int (nI (tt + 1))) (ty := .int) (C := RX6) (T := TX6) (N := 16) hx hb hts hiX6 tyX6 tyX6_ok nmX6 hown hK hP hD hS 0 rfl rfl 7 (by decide) hf138 (fun _ h9 => h9) rfl (by decide +kernel) rfl rfl (Nat.le_of_ble_eq_true rfl) dX6_number_135 (fun H locs hP hD hS => ?_)
              replace hP : va_P (dC, dI) vwCl [(o, .inr (4, [.int th, .ref aS, .ref aA, .ref aV, .int sm, .ref aB, .int (nI nn), .int (nI (tt + 1)), .int (bI true), .ref aR, .int rm, .int ga, .int fi, .int se, .int ex, .long ha])), (aB, .inl (cI, 60, .inl B0))] H := hP
              replace hD : va_D A [(o, .inr (4, [.int th, .ref aS, .ref aA, .ref aV, .int sm, .ref aB, .int (nI nn), .int (nI (tt + 1)), .int (bI true), .ref aR, .int rm, .int ga, .int fi, .int se, .int ex, .long ha])), (aB, .inl (cI, 60, .inl B0))] := hD
              refine lv_goto (tgt := 74) hx hb dX6_number_138 (by decide) ?_
              have hlt := nCn_lt hcn
              have el_b74_6_3 : (((10 * v) + (sSg B0 nn tt)) - 48) = (10 * v + sSg B0 nn tt - 48) := by rfl
              exact ih74 (tt + 1, 10 * v + sSg B0 nn tt - 48) H locs ls ⟨nCn_lt hcn, hE.trans (nLp_step hcn), hP, hD, hS, lv_cg (lv_sub hl [1, 2, 0] rfl) (congrArg (fun z_ => ([(0, .ref o), (2, .int (nI most)), (3, .int z_)] : List (Nat × Value))) el_b74_6_3)⟩ (by first | omega | (dsimp only; omega))
    · refine lv_iload_n hx hb dX6_number_24 rfl (lv_at hl 2 rfl) ?_
      refine lv_goto (tgt := 30) hx hb dX6_number_25 (by decide) ?_
      refine n_iadd hx hb dX6_number_30 ?_
      refine vp_callSi (W.runS (As := [.int (sSg B0 nn tn), .int (nI (48 + least)), .int (nI (48 + most))]) (rest := [.ref o]) ⟨hx, hb, hml, hown, hts⟩ (kX6_in l dC dI cI cV cW (sSg B0 nn tn) (nI (48 + least)) (nI (48 + most))) (va_cwS 3 hts gX6_number_X6_in rfl rfl rfl hdX6_in ⟨Nat.le_of_ble_eq_true rfl, Nat.le_of_ble_eq_true rfl⟩) (pR_S hK hP [] rfl) rfl rfl hl.1 rfl (lv_room (Nat.le_of_ble_eq_true rfl)) dX6_number_31 ⟨Nat.zero_le _, Nat.zero_le _⟩) (fun r_31 hr_ => ?_)
      subst hr_
      refine b_if_eq (tgt := 41) hx hb dX6_number_34 (by decide) (fun c_34 => ?_) (fun c_34 => ?_)
      · refine lv_iconst (v := (nI 0)) hx hb dX6_number_41 (by decide) ?_
        refine va_put (D := (dC, dI)) (ci := 4) (v := .int (bI false)) (ty := .boolean) (C := RX6) (T := TX6) (N := 16) hx hb hts hiX6 tyX6 tyX6_ok nmX6 hown hK hP hD hS 0 rfl rfl 8 (by decide) hf141 (fun _ h9 => h9) rfl (by decide +kernel) (nar_bI _) (fit_bI _) (Nat.le_of_ble_eq_true rfl) dX6_number_42 (fun H locs hP hD hS => ?_)
        replace hP : va_P (dC, dI) vwCl [(o, .inr (4, [.int th, .ref aS, .ref aA, .ref aV, .int sm, .ref aB, .int (nI nn), .int (nI tn), .int (bI false), .ref aR, .int rm, .int ga, .int fi, .int se, .int ex, .long ha])), (aB, .inl (cI, 60, .inl B0))] H := hP
        replace hD : va_D A [(o, .inr (4, [.int th, .ref aS, .ref aA, .ref aV, .int sm, .ref aB, .int (nI nn), .int (nI tn), .int (bI false), .ref aR, .int rm, .int ga, .int fi, .int se, .int ex, .long ha])), (aB, .inl (cI, 60, .inl B0))] := hD
        have hin : nIn B0 nn least most (wl, tn) = false := by simp [nIn, c_5, c_21, Nat.not_le.mpr c_21, c_34, nl57]
        refine lv_aload_n hx hb dX6_number_45 rfl (lv_at hl 0 rfl) ?_
        refine vp_callSi (W.runV (As := []) (rest := []) ⟨hx, hb, hml, hown, hts⟩ (kX6_sign l dC dI cI cV cW o th aS aA aV sm aB (bI false) aR rm ga fi se ex ha B0 nn tn (hnn) (htn)) (cwV 0 hts gX6_number_X6_sign rfl rfl rfl hdX6_sign ⟨Nat.le_of_ble_eq_true rfl, Nat.le_of_ble_eq_true rfl⟩) (pR_V hK hP 0 4 rfl rfl rfl [0, 1] rfl) rfl rfl hl.1 rfl (lv_room (Nat.le_of_ble_eq_true rfl)) dX6_number_46 ⟨Nat.zero_le _, Nat.zero_le _⟩) (fun r_46 hr_ => ?_)
        subst hr_
        refine lv_bipush (v := (nI 48)) hx hb dX6_number_49 (by decide) ?_
        refine lv_isub hx hb dX6_number_51 ?_
        refine lv_istore_n (lv' := [(3, .int ((sSg B0 nn tn) - 48)), (0, .ref o), (1, .int (nI least)), (2, .int (nI most))]) hx hb dX6_number_52 rfl hl (by decide) rfl (fun ls hl => ?_)
        refine lv_aload_n hx hb dX6_number_53 rfl (lv_at hl 1 rfl) ?_
        refine lv_dup hx hb dX6_number_54 rfl ?_
        refine va_get (D := (dC, dI)) (ci := 4) (v := .int (nI tn)) (C := RX6) (T := TX6) (N := 16) hx hb hts hiX6 hown hK hP 0 rfl rfl 7 (by decide) hf138 (fun _ h9 => h9) rfl dX6_number_55 ?_
        refine lv_aload_n hx hb dX6_number_58 rfl (lv_at hl 1 rfl) ?_
        refine va_get (D := (dC, dI)) (ci := 4) (v := .int (bI false)) (C := RX6) (T := TX6) (N := 16) hx hb hts hiX6 hown hK hP 0 rfl rfl 8 (by decide) hf141 (fun _ h9 => h9) rfl dX6_number_59 ?_
        refine b_if_eq (tgt := 69) hx hb dX6_number_62 (by decide) (fun c_62 => ?_) (fun c_62 => absurd c_62 (by decide))
        refine lv_iconst (v := (nI 0)) hx hb dX6_number_69 (by decide) ?_
        refine n_iadd hx hb dX6_number_70 ?_
        refine va_put (D := (dC, dI)) (ci := 4) (v := .int (nI tn)) (ty := .int) (C := RX6) (T := TX6) (N := 16) hx hb hts hiX6 tyX6 tyX6_ok nmX6 hown hK hP hD hS 0 rfl rfl 7 (by decide) hf138 (fun _ h9 => h9) rfl (by decide +kernel) rfl rfl (Nat.le_of_ble_eq_true rfl) dX6_number_71 (fun H locs hP hD hS => ?_)
        replace hP : va_P (dC, dI) vwCl [(o, .inr (4, [.int th, .ref aS, .ref aA, .ref aV, .int sm, .ref aB, .int (nI nn), .int (nI tn), .int (bI false), .ref aR, .int rm, .int ga, .int fi, .int se, .int ex, .long ha])), (aB, .inl (cI, 60, .inl B0))] H := hP
        replace hD : va_D A [(o, .inr (4, [.int th, .ref aS, .ref aA, .ref aV, .int sm, .ref aB, .int (nI nn), .int (nI tn), .int (bI false), .ref aR, .int rm, .int ga, .int fi, .int se, .int ex, .long ha])), (aB, .inl (cI, 60, .inl B0))] := hD
        refine lv_aload_n hx hb dX6_number_74 rfl (lv_at hl 1 rfl) ?_
        refine va_get (D := (dC, dI)) (ci := 4) (v := .int (bI false)) (C := RX6) (T := TX6) (N := 16) hx hb hts hiX6 hown hK hP 0 rfl rfl 8 (by decide) hf141 (fun _ h9 => h9) rfl dX6_number_75 ?_
        refine b_if_eq (tgt := 141) hx hb dX6_number_78 (by decide) (fun c_78 => ?_) (fun c_78 => absurd c_78 (by decide))
        have hN := nNum_f hin
        refine lv_iload_n hx hb dX6_number_141 rfl (lv_at hl 0 rfl) ?_
        have ec_r142_7_o_7 : (nI tn) = (nI (((nNum B0 nn least most (wl, tn)).2).2)) := by first | rfl | (rw [hN])
        have ec_r142_7_o_8 : (bI false) = (bI (((nNum B0 nn least most (wl, tn)).2).1)) := by first | rfl | (rw [hN])
        have ew_r142_7 : ([(o, .inr (4, [.int th, .ref aS, .ref aA, .ref aV, .int sm, .ref aB, .int (nI nn), .int (nI tn), .int (bI false), .ref aR, .int rm, .int ga, .int fi, .int se, .int ex, .long ha])), (aB, .inl (cI, 60, .inl B0))] : va_W) = [(o, .inr (4, [.int th, .ref aS, .ref aA, .ref aV, .int sm, .ref aB, .int (nI nn), .int (nI (((nNum B0 nn least most (wl, tn)).2).2)), .int (bI (((nNum B0 nn least most (wl, tn)).2).1)), .ref aR, .int rm, .int ga, .int fi, .int se, .int ex, .long ha])), (aB, .inl (cI, 60, .inl B0))] := ((congrArg (fun z_ => ([(o, .inr (4, [.int th, .ref aS, .ref aA, .ref aV, .int sm, .ref aB, .int (nI nn), .int z_, .int (bI false), .ref aR, .int rm, .int ga, .int fi, .int se, .int ex, .long ha])), (aB, .inl (cI, 60, .inl B0))] : va_W)) ec_r142_7_o_7).trans (congrArg (fun z_ => ([(o, .inr (4, [.int th, .ref aS, .ref aA, .ref aV, .int sm, .ref aB, .int (nI nn), .int (nI (((nNum B0 nn least most (wl, tn)).2).2)), .int z_, .ref aR, .int rm, .int ga, .int fi, .int se, .int ex, .long ha])), (aB, .inl (cI, 60, .inl B0))] : va_W)) ec_r142_7_o_8))
        have hP9 := (w_cgP ew_r142_7 hP)
        have hD9 := (w_cgD ew_r142_7 hD)
        exact W.iret (v := ((sSg B0 nn tn) - 48)) hx hb hr (fun t ht hW => ⟨⟨((sSg B0 nn tn) - 48), (), rfl, (show ((sSg B0 nn tn) - 48) = ((nNum B0 nn least most (wl, tn)).1) from by first | rfl | (rw [hN])), by rw [ht]; exact hP9, va_K.moved hW.alike hK, hD9⟩, hS.F ht⟩) hS.2.2 dX6_number_142
      · refine lv_iconst (v := (nI 1)) hx hb dX6_number_37 (by decide) ?_
        refine lv_goto (tgt := 42) hx hb dX6_number_38 (by decide) ?_
        refine va_put (D := (dC, dI)) (ci := 4) (v := .int (bI true)) (ty := .boolean) (C := RX6) (T := TX6) (N := 16) hx hb hts hiX6 tyX6 tyX6_ok nmX6 hown hK hP hD hS 0 rfl rfl 8 (by decide) hf141 (fun _ h9 => h9) rfl (by decide +kernel) (nar_bI _) (fit_bI _) (Nat.le_of_ble_eq_true rfl) dX6_number_42 (fun H locs hP hD hS => ?_)
        replace hP : va_P (dC, dI) vwCl [(o, .inr (4, [.int th, .ref aS, .ref aA, .ref aV, .int sm, .ref aB, .int (nI nn), .int (nI tn), .int (bI true), .ref aR, .int rm, .int ga, .int fi, .int se, .int ex, .long ha])), (aB, .inl (cI, 60, .inl B0))] H := hP
        replace hD : va_D A [(o, .inr (4, [.int th, .ref aS, .ref aA, .ref aV, .int sm, .ref aB, .int (nI nn), .int (nI tn), .int (bI true), .ref aR, .int rm, .int ga, .int fi, .int se, .int ex, .long ha])), (aB, .inl (cI, 60, .inl B0))] := hD
        have hin : nIn B0 nn least most (wl, tn) = true := by simp [nIn, c_5, c_21, Nat.not_le.mpr c_21, c_34, nl57]
        refine lv_aload_n hx hb dX6_number_45 rfl (lv_at hl 0 rfl) ?_
        refine vp_callSi (W.runV (As := []) (rest := []) ⟨hx, hb, hml, hown, hts⟩ (kX6_sign l dC dI cI cV cW o th aS aA aV sm aB (bI true) aR rm ga fi se ex ha B0 nn tn (hnn) (htn)) (cwV 0 hts gX6_number_X6_sign rfl rfl rfl hdX6_sign ⟨Nat.le_of_ble_eq_true rfl, Nat.le_of_ble_eq_true rfl⟩) (pR_V hK hP 0 4 rfl rfl rfl [0, 1] rfl) rfl rfl hl.1 rfl (lv_room (Nat.le_of_ble_eq_true rfl)) dX6_number_46 ⟨Nat.zero_le _, Nat.zero_le _⟩) (fun r_46 hr_ => ?_)
        subst hr_
        refine lv_bipush (v := (nI 48)) hx hb dX6_number_49 (by decide) ?_
        refine lv_isub hx hb dX6_number_51 ?_
        refine lv_istore_n (lv' := [(3, .int ((sSg B0 nn tn) - 48)), (0, .ref o), (1, .int (nI least)), (2, .int (nI most))]) hx hb dX6_number_52 rfl hl (by decide) rfl (fun ls hl => ?_)
        refine lv_aload_n hx hb dX6_number_53 rfl (lv_at hl 1 rfl) ?_
        refine lv_dup hx hb dX6_number_54 rfl ?_
        refine va_get (D := (dC, dI)) (ci := 4) (v := .int (nI tn)) (C := RX6) (T := TX6) (N := 16) hx hb hts hiX6 hown hK hP 0 rfl rfl 7 (by decide) hf138 (fun _ h9 => h9) rfl dX6_number_55 ?_
        refine lv_aload_n hx hb dX6_number_58 rfl (lv_at hl 1 rfl) ?_
        refine va_get (D := (dC, dI)) (ci := 4) (v := .int (bI true)) (C := RX6) (T := TX6) (N := 16) hx hb hts hiX6 hown hK hP 0 rfl rfl 8 (by decide) hf141 (fun _ h9 => h9) rfl dX6_number_59 ?_
        refine b_if_eq (tgt := 69) hx hb dX6_number_62 (by decide) (fun c_62 => absurd c_62 (by decide)) (fun c_62 => ?_)
        refine lv_iconst (v := (nI 1)) hx hb dX6_number_65 (by decide) ?_
        refine lv_goto (tgt := 70) hx hb dX6_number_66 (by decide) ?_
        refine n_iadd hx hb dX6_number_70 ?_
        refine va_put (D := (dC, dI)) (ci := 4) (v := .int (nI (tn + 1))) (ty := .int) (C := RX6) (T := TX6) (N := 16) hx hb hts hiX6 tyX6 tyX6_ok nmX6 hown hK hP hD hS 0 rfl rfl 7 (by decide) hf138 (fun _ h9 => h9) rfl (by decide +kernel) rfl rfl (Nat.le_of_ble_eq_true rfl) dX6_number_71 (fun H locs hP hD hS => ?_)
        replace hP : va_P (dC, dI) vwCl [(o, .inr (4, [.int th, .ref aS, .ref aA, .ref aV, .int sm, .ref aB, .int (nI nn), .int (nI (tn + 1)), .int (bI true), .ref aR, .int rm, .int ga, .int fi, .int se, .int ex, .long ha])), (aB, .inl (cI, 60, .inl B0))] H := hP
        replace hD : va_D A [(o, .inr (4, [.int th, .ref aS, .ref aA, .ref aV, .int sm, .ref aB, .int (nI nn), .int (nI (tn + 1)), .int (bI true), .ref aR, .int rm, .int ga, .int fi, .int se, .int ex, .long ha])), (aB, .inl (cI, 60, .inl B0))] := hD
        have el_i74_3 : ((sSg B0 nn tn) - 48) = (sSg B0 nn tn - 48) := by rfl
        have hI0 : (fun (q_ : Nat × Int32) ls H locs => match q_ with | (tt, v) => (tt ≤ nn) ∧ (nLp B0 nn most true (nn - (tn + 1)) (sSg B0 nn tn - 48) (tn + 1) = nLp B0 nn most true (nn - tt) v tt) ∧ (va_P (dC, dI) vwCl [(o, .inr (4, [.int th, .ref aS, .ref aA, .ref aV, .int sm, .ref aB, .int (nI nn), .int (nI tt), .int (bI true), .ref aR, .int rm, .int ga, .int fi, .int se, .int ex, .long ha])), (aB, .inl (cI, 60, .inl B0))] H) ∧ (va_D A [(o, .inr (4, [.int th, .ref aS, .ref aA, .ref aV, .int sm, .ref aB, .int (nI nn), .int (nI tt), .int (bI true), .ref aR, .int rm, .int ga, .int fi, .int se, .int ex, .long ha])), (aB, .inl (cI, 60, .inl B0))]) ∧ (va_S A s.heap H locs) ∧ (lv_has ls 4 [(0, .ref o), (2, .int (nI most)), (3, .int v)])) (tn + 1, sSg B0 nn tn - 48) ls H locs := ⟨(nT1_le (B := B0) (most := most) (q := (wl, tn)) hle htn).2.2 hin ▸ (nT1_le (B := B0) (most := most) (q := (wl, tn)) hle htn).2.1, rfl, hP, hD, hS, lv_cg (lv_sub hl [1, 3, 0] rfl) (congrArg (fun z_ => ([(0, .ref o), (2, .int (nI most)), (3, .int z_)] : List (Nat × Value))) el_i74_3)⟩
        clear hl hP hD hS
        revert ls
        revert locs
        revert H
        refine lp_H (fun (q_ : Nat × Int32) ls H locs => match q_ with | (tt, v) => (tt ≤ nn) ∧ (nLp B0 nn most true (nn - (tn + 1)) (sSg B0 nn tn - 48) (tn + 1) = nLp B0 nn most true (nn - tt) v tt) ∧ (va_P (dC, dI) vwCl [(o, .inr (4, [.int th, .ref aS, .ref aA, .ref aV, .int sm, .ref aB, .int (nI nn), .int (nI tt), .int (bI true), .ref aR, .int rm, .int ga, .int fi, .int se, .int ex, .long ha])), (aB, .inl (cI, 60, .inl B0))] H) ∧ (va_D A [(o, .inr (4, [.int th, .ref aS, .ref aA, .ref aV, .int sm, .ref aB, .int (nI nn), .int (nI tt), .int (bI true), .ref aR, .int rm, .int ga, .int fi, .int se, .int ex, .long ha])), (aB, .inl (cI, 60, .inl B0))]) ∧ (va_S A s.heap H locs) ∧ (lv_has ls 4 [(0, .ref o), (2, .int (nI most)), (3, .int v)])) (fun (q_ : Nat × Int32) => match q_ with | (tt, v) => nn - tt) (tn + 1, sSg B0 nn tn - 48) (fun q_ H locs ls hI ih74 => ?_)
        obtain ⟨tt, v⟩ := q_
        dsimp only at hI ih74
        obtain ⟨ht, hE, hP, hD, hS, hl⟩ := hI
        refine lv_aload_n hx hb dX6_number_74 rfl (lv_at hl 0 rfl) ?_
        refine va_get (D := (dC, dI)) (ci := 4) (v := .int (bI true)) (C := RX6) (T := TX6) (N := 16) hx hb hts hiX6 hown hK hP 0 rfl rfl 8 (by decide) hf141 (fun _ h9 => h9) rfl dX6_number_75 ?_
        refine b_if_eq (tgt := 141) hx hb dX6_number_78 (by decide) (fun c_78 => absurd c_78 (by decide)) (fun c_78 => ?_)
        refine lv_iload_n hx hb dX6_number_81 rfl (lv_at hl 2 rfl) ?_
        refine lv_if_le (tgt := 141) hx hb dX6_number_82 (by decide) (fun c_82 => ?_) (fun c_82 => ?_)
        · have hN := nNum_t hin (hE.trans (nLp_stop (by simp [nCn, c_5, c_21, Nat.not_le.mpr c_21, c_34, c_62, c_78, c_82, Int32.not_lt.mpr c_82])))
          refine lv_iload_n hx hb dX6_number_141 rfl (lv_at hl 2 rfl) ?_
          have ec_r142_8_o_7 : (nI tt) = (nI (((nNum B0 nn least most (wl, tn)).2).2)) := by first | rfl | (rw [hN])
          have ec_r142_8_o_8 : (bI true) = (bI (((nNum B0 nn least most (wl, tn)).2).1)) := by first | rfl | (rw [hN])
          have ew_r142_8 : ([(o, .inr (4, [.int th, .ref aS, .ref aA, .ref aV, .int sm, .ref aB, .int (nI nn), .int (nI tt), .int (bI true), .ref aR, .int rm, .int ga, .int fi, .int se, .int ex, .long ha])), (aB, .inl (cI, 60, .inl B0))] : va_W) = [(o, .inr (4, [.int th, .ref aS, .ref aA, .ref aV, .int sm, .ref aB, .int (nI nn), .int (nI (((nNum B0 nn least most (wl, tn)).2).2)), .int (bI (((nNum B0 nn least most (wl, tn)).2).1)), .ref aR, .int rm, .int ga, .int fi, .int se, .int ex, .long ha])), (aB, .inl (cI, 60, .inl B0))] := ((congrArg (fun z_ => ([(o, .inr (4, [.int th, .ref aS, .ref aA, .ref aV, .int sm, .ref aB, .int (nI nn), .int z_, .int (bI true), .ref aR, .int rm, .int ga, .int fi, .int se, .int ex, .long ha])), (aB, .inl (cI, 60, .inl B0))] : va_W)) ec_r142_8_o_7).trans (congrArg (fun z_ => ([(o, .inr (4, [.int th, .ref aS, .ref aA, .ref aV, .int sm, .ref aB, .int (nI nn), .int (nI (((nNum B0 nn least most (wl, tn)).2).2)), .int z_, .ref aR, .int rm, .int ga, .int fi, .int se, .int ex, .long ha])), (aB, .inl (cI, 60, .inl B0))] : va_W)) ec_r142_8_o_8))
          have hP9 := (w_cgP ew_r142_8 hP)
          have hD9 := (w_cgD ew_r142_8 hD)
          exact W.iret (v := v) hx hb hr (fun t ht hW => ⟨⟨v, (), rfl, (show v = ((nNum B0 nn least most (wl, tn)).1) from by first | rfl | (rw [hN])), by rw [ht]; exact hP9, va_K.moved hW.alike hK, hD9⟩, hS.F ht⟩) hS.2.2 dX6_number_142
        · refine lv_aload_n hx hb dX6_number_85 rfl (lv_at hl 0 rfl) ?_
          refine vp_callSi (W.runV (As := []) (rest := []) ⟨hx, hb, hml, hown, hts⟩ (kX6_sign l dC dI cI cV cW o th aS aA aV sm aB (bI true) aR rm ga fi se ex ha B0 nn tt (hnn) (by omega)) (cwV 0 hts gX6_number_X6_sign rfl rfl rfl hdX6_sign ⟨Nat.le_of_ble_eq_true rfl, Nat.le_of_ble_eq_true rfl⟩) (pR_V hK hP 0 4 rfl rfl rfl [0, 1] rfl) rfl rfl hl.1 rfl (lv_room (Nat.le_of_ble_eq_true rfl)) dX6_number_86 ⟨Nat.zero_le _, Nat.zero_le _⟩) (fun r_86 hr_ => ?_)
          subst hr_
          refine lv_bipush (v := (nI 48)) hx hb dX6_number_89 (by decide) ?_
          refine lv_bipush (v := (nI 57)) hx hb dX6_number_91 (by decide) ?_
          refine vp_callSi (W.runS (As := [.int (sSg B0 nn tt), .int (nI 48), .int (nI 57)]) (rest := []) ⟨hx, hb, hml, hown, hts⟩ (kX6_in l dC dI cI cV cW (sSg B0 nn tt) 48 57) (va_cwS 3 hts gX6_number_X6_in rfl rfl rfl hdX6_in ⟨Nat.le_of_ble_eq_true rfl, Nat.le_of_ble_eq_true rfl⟩) (pR_S hK hP [] rfl) rfl rfl hl.1 rfl (lv_room (Nat.le_of_ble_eq_true rfl)) dX6_number_93 ⟨Nat.zero_le _, Nat.zero_le _⟩) (fun r_93 hr_ => ?_)
          subst hr_
          refine b_if_eq (tgt := 141) hx hb dX6_number_96 (by decide) (fun c_96 => ?_) (fun c_96 => ?_)
          · have hN := nNum_t hin (hE.trans (nLp_stop (by simp [nCn, c_5, c_21, Nat.not_le.mpr c_21, c_34, c_62, c_78, c_82, Int32.not_le.mp c_82, c_96])))
            refine lv_iload_n hx hb dX6_number_141 rfl (lv_at hl 2 rfl) ?_
            have ec_r142_9_o_7 : (nI tt) = (nI (((nNum B0 nn least most (wl, tn)).2).2)) := by first | rfl | (rw [hN])
            have ec_r142_9_o_8 : (bI true) = (bI (((nNum B0 nn least most (wl, tn)).2).1)) := by first | rfl | (rw [hN])
            have ew_r142_9 : ([(o, .inr (4, [.int th, .ref aS, .ref aA, .ref aV, .int sm, .ref aB, .int (nI nn), .int (nI tt), .int (bI true), .ref aR, .int rm, .int ga, .int fi, .int se, .int ex, .long ha])), (aB, .inl (cI, 60, .inl B0))] : va_W) = [(o, .inr (4, [.int th, .ref aS, .ref aA, .ref aV, .int sm, .ref aB, .int (nI nn), .int (nI (((nNum B0 nn least most (wl, tn)).2).2)), .int (bI (((nNum B0 nn least most (wl, tn)).2).1)), .ref aR, .int rm, .int ga, .int fi, .int se, .int ex, .long ha])), (aB, .inl (cI, 60, .inl B0))] := ((congrArg (fun z_ => ([(o, .inr (4, [.int th, .ref aS, .ref aA, .ref aV, .int sm, .ref aB, .int (nI nn), .int z_, .int (bI true), .ref aR, .int rm, .int ga, .int fi, .int se, .int ex, .long ha])), (aB, .inl (cI, 60, .inl B0))] : va_W)) ec_r142_9_o_7).trans (congrArg (fun z_ => ([(o, .inr (4, [.int th, .ref aS, .ref aA, .ref aV, .int sm, .ref aB, .int (nI nn), .int (nI (((nNum B0 nn least most (wl, tn)).2).2)), .int z_, .ref aR, .int rm, .int ga, .int fi, .int se, .int ex, .long ha])), (aB, .inl (cI, 60, .inl B0))] : va_W)) ec_r142_9_o_8))
            have hP9 := (w_cgP ew_r142_9 hP)
            have hD9 := (w_cgD ew_r142_9 hD)
            exact W.iret (v := v) hx hb hr (fun t ht hW => ⟨⟨v, (), rfl, (show v = ((nNum B0 nn least most (wl, tn)).1) from by first | rfl | (rw [hN])), by rw [ht]; exact hP9, va_K.moved hW.alike hK, hD9⟩, hS.F ht⟩) hS.2.2 dX6_number_142
          · refine lv_bipush (v := (nI 10)) hx hb dX6_number_99 (by decide) ?_
            refine lv_iload_n hx hb dX6_number_101 rfl (lv_at hl 2 rfl) ?_
            refine lv_imul hx hb dX6_number_102 ?_
            refine lv_aload_n hx hb dX6_number_103 rfl (lv_at hl 0 rfl) ?_
            refine vp_callSi (W.runV (As := []) (rest := [.int (10 * v)]) ⟨hx, hb, hml, hown, hts⟩ (kX6_sign l dC dI cI cV cW o th aS aA aV sm aB (bI true) aR rm ga fi se ex ha B0 nn tt (hnn) (by omega)) (cwV 0 hts gX6_number_X6_sign rfl rfl rfl hdX6_sign ⟨Nat.le_of_ble_eq_true rfl, Nat.le_of_ble_eq_true rfl⟩) (pR_V hK hP 0 4 rfl rfl rfl [0, 1] rfl) rfl rfl hl.1 rfl (lv_room (Nat.le_of_ble_eq_true rfl)) dX6_number_104 ⟨Nat.zero_le _, Nat.zero_le _⟩) (fun r_104 hr_ => ?_)
            subst hr_
            refine lv_iadd hx hb dX6_number_107 ?_
            refine lv_bipush (v := (nI 48)) hx hb dX6_number_108 (by decide) ?_
            refine lv_isub hx hb dX6_number_110 ?_
            refine lv_iload_n hx hb dX6_number_111 rfl (lv_at hl 1 rfl) ?_
            refine lv_icmp_gt (tgt := 141) hx hb dX6_number_112 (by decide) (fun c_112 => ?_) (fun c_112 => ?_)
            · have d_112 : ¬ (10 * v + sSg B0 nn tt - 48 ≤ nI most) := Int32.not_le.mpr c_112
              have hN := nNum_t hin (hE.trans (nLp_stop (by simp only [nCn, decide_eq_false d_112, Bool.and_false])))
              refine lv_iload_n hx hb dX6_number_141 rfl (lv_at hl 2 rfl) ?_
              have ec_r142_10_o_7 : (nI tt) = (nI (((nNum B0 nn least most (wl, tn)).2).2)) := by first | rfl | (rw [hN])
              have ec_r142_10_o_8 : (bI true) = (bI (((nNum B0 nn least most (wl, tn)).2).1)) := by first | rfl | (rw [hN])
              have ew_r142_10 : ([(o, .inr (4, [.int th, .ref aS, .ref aA, .ref aV, .int sm, .ref aB, .int (nI nn), .int (nI tt), .int (bI true), .ref aR, .int rm, .int ga, .int fi, .int se, .int ex, .long ha])), (aB, .inl (cI, 60, .inl B0))] : va_W) = [(o, .inr (4, [.int th, .ref aS, .ref aA, .ref aV, .int sm, .ref aB, .int (nI nn), .int (nI (((nNum B0 nn least most (wl, tn)).2).2)), .int (bI (((nNum B0 nn least most (wl, tn)).2).1)), .ref aR, .int rm, .int ga, .int fi, .int se, .int ex, .long ha])), (aB, .inl (cI, 60, .inl B0))] := ((congrArg (fun z_ => ([(o, .inr (4, [.int th, .ref aS, .ref aA, .ref aV, .int sm, .ref aB, .int (nI nn), .int z_, .int (bI true), .ref aR, .int rm, .int ga, .int fi, .int se, .int ex, .long ha])), (aB, .inl (cI, 60, .inl B0))] : va_W)) ec_r142_10_o_7).trans (congrArg (fun z_ => ([(o, .inr (4, [.int th, .ref aS, .ref aA, .ref aV, .int sm, .ref aB, .int (nI nn), .int (nI (((nNum B0 nn least most (wl, tn)).2).2)), .int z_, .ref aR, .int rm, .int ga, .int fi, .int se, .int ex, .long ha])), (aB, .inl (cI, 60, .inl B0))] : va_W)) ec_r142_10_o_8))
              have hP9 := (w_cgP ew_r142_10 hP)
              have hD9 := (w_cgD ew_r142_10 hD)
              exact W.iret (v := v) hx hb hr (fun t ht hW => ⟨⟨v, (), rfl, (show v = ((nNum B0 nn least most (wl, tn)).1) from by first | rfl | (rw [hN])), by rw [ht]; exact hP9, va_K.moved hW.alike hK, hD9⟩, hS.F ht⟩) hS.2.2 dX6_number_142
            · have d_112 : 10 * v + sSg B0 nn tt - 48 ≤ nI most := Int32.not_lt.mp c_112
              have hcn : nCn B0 nn most true v tt = true := by simp [nCn, c_5, c_21, Nat.not_le.mpr c_21, c_34, c_62, c_78, c_82, Int32.not_le.mp c_82, c_96, c_112, Int32.not_lt.mp c_112, d_112]
              refine lv_bipush (v := (nI 10)) hx hb dX6_number_115 (by decide) ?_
              refine lv_iload_n hx hb dX6_number_117 rfl (lv_at hl 2 rfl) ?_
              refine lv_imul hx hb dX6_number_118 ?_
              refine lv_aload_n hx hb dX6_number_119 rfl (lv_at hl 0 rfl) ?_
              refine vp_callSi (W.runV (As := []) (rest := [.int (10 * v)]) ⟨hx, hb, hml, hown, hts⟩ (kX6_sign l dC dI cI cV cW o th aS aA aV sm aB (bI true) aR rm ga fi se ex ha B0 nn tt (hnn) (by omega)) (cwV 0 hts gX6_number_X6_sign rfl rfl rfl hdX6_sign ⟨Nat.le_of_ble_eq_true rfl, Nat.le_of_ble_eq_true rfl⟩) (pR_V hK hP 0 4 rfl rfl rfl [0, 1] rfl) rfl rfl hl.1 rfl (lv_room (Nat.le_of_ble_eq_true rfl)) dX6_number_120 ⟨Nat.zero_le _, Nat.zero_le _⟩) (fun r_120 hr_ => ?_)
              subst hr_
              refine lv_iadd hx hb dX6_number_123 ?_
              refine lv_bipush (v := (nI 48)) hx hb dX6_number_124 (by decide) ?_
              refine lv_isub hx hb dX6_number_126 ?_
              refine lv_istore_n (lv' := [(3, .int (((10 * v) + (sSg B0 nn tt)) - 48)), (0, .ref o), (2, .int (nI most))]) hx hb dX6_number_127 rfl hl (by decide) rfl (fun ls hl => ?_)
              refine lv_aload_n hx hb dX6_number_128 rfl (lv_at hl 1 rfl) ?_
              refine lv_dup hx hb dX6_number_129 rfl ?_
              refine va_get (D := (dC, dI)) (ci := 4) (v := .int (nI tt)) (C := RX6) (T := TX6) (N := 16) hx hb hts hiX6 hown hK hP 0 rfl rfl 7 (by decide) hf138 (fun _ h9 => h9) rfl dX6_number_130 ?_
              refine lv_iconst (v := (nI 1)) hx hb dX6_number_133 (by decide) ?_
              refine n_iadd hx hb dX6_number_134 ?_
              refine va_put (D := (dC, dI)) (ci := 4) (v := .int (nI (tt + 1))) (ty := .int) (C := RX6) (T := TX6) (N := 16) hx hb hts hiX6 tyX6 tyX6_ok nmX6 hown hK hP hD hS 0 rfl rfl 7 (by decide) hf138 (fun _ h9 => h9) rfl (by decide +kernel) rfl rfl (Nat.le_of_ble_eq_true rfl) dX6_number_135 (fun H locs hP hD hS => ?_)
              replace hP : va_P (dC, dI) vwCl [(o, .inr (4, [.int th, .ref aS, .ref aA, .ref aV, .int sm, .ref aB, .int (nI nn), .int (nI (tt + 1)), .int (bI true), .ref aR, .int rm, .int ga, .int fi, .int se, .int ex, .long ha])), (aB, .inl (cI, 60, .inl B0))] H := hP
              replace hD : va_D A [(o, .inr (4, [.int th, .ref aS, .ref aA, .ref aV, .int sm, .ref aB, .int (nI nn), .int (nI (tt + 1)), .int (bI true), .ref aR, .int rm, .int ga, .int fi, .int se, .int ex, .long ha])), (aB, .inl (cI, 60, .inl B0))] := hD
              refine lv_goto (tgt := 74) hx hb dX6_number_138 (by decide) ?_
              have hlt := nCn_lt hcn
              have el_b74_11_3 : (((10 * v) + (sSg B0 nn tt)) - 48) = (10 * v + sSg B0 nn tt - 48) := by rfl
              exact ih74 (tt + 1, 10 * v + sSg B0 nn tt - 48) H locs ls ⟨nCn_lt hcn, hE.trans (nLp_step hcn), hP, hD, hS, lv_cg (lv_sub hl [1, 2, 0] rfl) (congrArg (fun z_ => ([(0, .ref o), (2, .int (nI most)), (3, .int z_)] : List (Nat × Value))) el_b74_11_3)⟩ (by first | omega | (dsimp only; omega))
theorem hdX6_wants : yX6_wants.cls = RX6 ∧ yX6_wants.cls ≠ "java/lang/invoke/MethodHandle" ∧ yX6_wants.cls ≠ "java/lang/invoke/VarHandle" ∧ (parseMethodDescriptor yX6_wants.desc).map (fun d => d.parameters.length) = some 1 := by decide +kernel
set_option maxHeartbeats 4000000 in
set_option maxRecDepth 100000 in
theorem kX6_rest (l : Launch) (dC : Nat → ClassId) (dI : Nat → Nat → Nat) (cI cV cW : ClassId) (sz : Nat) (o : Nat) (th : Int32) (aS : Nat) (aA : Nat) (aV : Nat) (sm : Int32) (aB : Nat) (wl : Bool) (aR : Nat) (rm : Int32) (ga : Int32) (fi : Int32) (se : Int32) (ex : Int32) (ha : Int64) (B0 : Nat → Int32) (nn : Nat) (tn : Nat) (xa : Int32) (xb : Int32) (xc : Int32) (xd : Int32) (hnn : nn ≤ 60) (htn : tn ≤ nn) (ha_ : ¬ xa = 0) (hb_ : ¬ xb = 0) : Met l yX6_rest wsX6_rest ({ frames := 2, cells := 0, slots := 0, locals := 41 }) (pW (dC, dI) (tyS cI cV cW) sz [.ref o, .int xa, .int xb, .int xc, .int xd] [(o, .inr (4, [.int th, .ref aS, .ref aA, .ref aV, .int sm, .ref aB, .int (nI nn), .int (nI tn), .int (bI wl), .ref aR, .int rm, .int ga, .int fi, .int se, .int ex, .long ha])), (aB, .inl (cI, 60, .inl B0))]) (va_Qv (fun (_ : Unit) => True) (fun (_ : Unit) t => qB (dC, dI) (tyS cI cV cW) (va_A [(o, .inr (4, [.int th, .ref aS, .ref aA, .ref aV, .int sm, .ref aB, .int (nI nn), .int (nI tn), .int (bI wl), .ref aR, .int rm, .int ga, .int fi, .int se, .int ex, .long ha])), (aB, .inl (cI, 60, .inl B0))] sz) [(o, .inr (4, [.int th, .ref aS, .ref aA, .ref aV, .int sm, .ref aB, .int (nI nn), .int (nI ((wR B0 nn xa xb xc xd (wl, tn)).2)), .int (bI ((wR B0 nn xa xb xc xd (wl, tn)).1)), .ref aR, .int rm, .int ga, .int fi, .int se, .int ex, .long ha])), (aB, .inl (cI, 60, .inl B0))] t) (va_A [(o, .inr (4, [.int th, .ref aS, .ref aA, .ref aV, .int sm, .ref aB, .int (nI nn), .int (nI tn), .int (bI wl), .ref aR, .int rm, .int ga, .int fi, .int se, .int ex, .long ha])), (aB, .inl (cI, 60, .inl B0))] sz)) 0 0 (va_A [(o, .inr (4, [.int th, .ref aS, .ref aA, .ref aV, .int sm, .ref aB, .int (nI nn), .int (nI tn), .int (bI wl), .ref aR, .int rm, .int ga, .int fi, .int se, .int ex, .long ha])), (aB, .inl (cI, 60, .inl B0))] sz) := by
  refine Met.ofW (cc := cX6_rest) (maxL := 5) (ret := none) (by decide) rfl ?_
  intro p e s m args below meth c s₁ B hml hv
  obtain ⟨rfl, hsz, hP, hK, hD0⟩ := hv
  have hx := B.exec
  have hb := B.bytes
  have hr := B.returns
  have hts := atoms_spec (ws := wsX6_rest) B.pre
  have hown : s.vm.findClass RX6 = some m.cls := findClass_of_methodNamed B.named
  have hlocks := B.notSynchronized
  subst hsz
  have hD := hD0.self (sz := s.heap.size)
  generalize hAe : va_A [(o, .inr (4, [.int th, .ref aS, .ref aA, .ref aV, .int sm, .ref aB, .int (nI nn), .int (nI tn), .int (bI wl), .ref aR, .int rm, .int ga, .int fi, .int se, .int ex, .long ha])), (aB, .inl (cI, 60, .inl B0))] s.heap.size = A at hD ⊢
  have hA : ∀ q : Nat, s.heap.size ≤ q → A q := fun q h => by rw [← hAe]; exact Or.inr h
  have hS : va_S A s.heap s.heap [] := va_S.rf
  refine w_gen hP hS (fun H locs hP hS => ?_)
  have hiX6 : ∀ w ∈ u_ws RX6 TX6 16, w ∈ wsX6_rest := by decide +kernel
  have hl := lv_entry ([.ref o, .int xa, .int xb, .int xc, .int xd]) (n := 5) (Nat.le_of_ble_eq_true rfl)
  rw [lg_entry_eq]
  generalize (lg_sl ([.ref o, .int xa, .int xb, .int xc, .int xd]) ++ List.replicate (5 - (lg_sl ([.ref o, .int xa, .int xb, .int xc, .int xd])).length) Slot.unset).toArray = ls at hl ⊢
  replace hl : lv_has ls 5 [(0, .ref o), (1, .int xa), (2, .int xb), (3, .int xc), (4, .int xd)] := hl
  refine lv_aload_n hx hb dX6_rest_0 rfl (lv_at hl 0 rfl) ?_
  refine lv_iload_n hx hb dX6_rest_1 rfl (lv_at hl 1 rfl) ?_
  have hPc := hP.sub (ws' := [(o, .inr (4, [.int th, .ref aS, .ref aA, .ref aV, .int sm, .ref aB, .int (nI nn), .int (nI tn), .int (bI wl), .ref aR, .int rm, .int ga, .int fi, .int se, .int ex, .long ha])), (aB, .inl (cI, 60, .inl B0))]) [0, 1] rfl
  have hDc := hD.sub (ws' := [(o, .inr (4, [.int th, .ref aS, .ref aA, .ref aV, .int sm, .ref aB, .int (nI nn), .int (nI tn), .int (bI wl), .ref aR, .int rm, .int ga, .int fi, .int se, .int ex, .long ha])), (aB, .inl (cI, 60, .inl B0))]) [0, 1] (by decide) rfl
  have hFc := va_free (wc := [(o, .inr (4, [.int th, .ref aS, .ref aA, .ref aV, .int sm, .ref aB, .int (nI nn), .int (nI tn), .int (bI wl), .ref aR, .int rm, .int ga, .int fi, .int se, .int ex, .long ha])), (aB, .inl (cI, 60, .inl B0))]) hD hS hA [0, 1] rfl
  refine va_callv (va_runV (As := [.int xa]) (rest := []) ⟨hx, hb, hml, hown, hts⟩ (kX6_wants l dC dI cI cV cW H.size o th aS aA aV sm aB wl aR rm ga fi se ex ha B0 nn tn xa (hnn) (htn)) (cwV 1 hts gX6_rest_X6_wants rfl rfl rfl hdX6_wants ⟨Nat.le_of_ble_eq_true rfl, Nat.le_of_ble_eq_true rfl⟩) (pW_V hK hP hPc hDc 0 4 rfl rfl rfl) rfl rfl hl.1 rfl (lv_room (Nat.le_of_ble_eq_true rfl)) dX6_rest_2 ⟨Nat.zero_le _, Nat.zero_le _⟩) hS (fun q _ h => hFc q h) hFc (fun u_ t_ H1 locs ht_ hvm_ hw_ hB_ hz_ hk_ hS => ?_)
  obtain ⟨hP1, -, hD1⟩ := hB_
  rw [ht_] at hP1
  obtain ⟨hP, hD⟩ := va_join (wr := []) (w1 := [(o, .inr (4, [.int th, .ref aS, .ref aA, .ref aV, .int sm, .ref aB, .int (nI nn), .int (nI ((wW B0 nn xa (wl, tn)).2)), .int (bI ((wW B0 nn xa (wl, tn)).1)), .ref aR, .int rm, .int ga, .int fi, .int se, .int ex, .long ha])), (aB, .inl (cI, 60, .inl B0))]) hP hD [0, 1] [] rfl rfl (by decide) (by decide) hk_ hFc hP1 hD1
  clear hP1 hD1 hPc hDc hFc hk_ hz_ hvm_ ht_
  generalize H1 = H at hP hS ⊢
  replace hP : va_P (dC, dI) vwCl [(o, .inr (4, [.int th, .ref aS, .ref aA, .ref aV, .int sm, .ref aB, .int (nI nn), .int (nI ((wW B0 nn xa (wl, tn)).2)), .int (bI ((wW B0 nn xa (wl, tn)).1)), .ref aR, .int rm, .int ga, .int fi, .int se, .int ex, .long ha])), (aB, .inl (cI, 60, .inl B0))] H := hP
  replace hD : va_D A [(o, .inr (4, [.int th, .ref aS, .ref aA, .ref aV, .int sm, .ref aB, .int (nI nn), .int (nI ((wW B0 nn xa (wl, tn)).2)), .int (bI ((wW B0 nn xa (wl, tn)).1)), .ref aR, .int rm, .int ga, .int fi, .int se, .int ex, .long ha])), (aB, .inl (cI, 60, .inl B0))] := hD
  refine W.widen (k := 0) (n := 0) (Nat.le_refl 0) (Nat.le_refl 0) ?_
  refine lv_aload_n hx hb dX6_rest_5 rfl (lv_at hl 0 rfl) ?_
  refine lv_iload_n hx hb dX6_rest_6 rfl (lv_at hl 2 rfl) ?_
  have hPc := hP.sub (ws' := [(o, .inr (4, [.int th, .ref aS, .ref aA, .ref aV, .int sm, .ref aB, .int (nI nn), .int (nI ((wW B0 nn xa (wl, tn)).2)), .int (bI ((wW B0 nn xa (wl, tn)).1)), .ref aR, .int rm, .int ga, .int fi, .int se, .int ex, .long ha])), (aB, .inl (cI, 60, .inl B0))]) [0, 1] rfl
  have hDc := hD.sub (ws' := [(o, .inr (4, [.int th, .ref aS, .ref aA, .ref aV, .int sm, .ref aB, .int (nI nn), .int (nI ((wW B0 nn xa (wl, tn)).2)), .int (bI ((wW B0 nn xa (wl, tn)).1)), .ref aR, .int rm, .int ga, .int fi, .int se, .int ex, .long ha])), (aB, .inl (cI, 60, .inl B0))]) [0, 1] (by decide) rfl
  have hFc := va_free (wc := [(o, .inr (4, [.int th, .ref aS, .ref aA, .ref aV, .int sm, .ref aB, .int (nI nn), .int (nI ((wW B0 nn xa (wl, tn)).2)), .int (bI ((wW B0 nn xa (wl, tn)).1)), .ref aR, .int rm, .int ga, .int fi, .int se, .int ex, .long ha])), (aB, .inl (cI, 60, .inl B0))]) hD hS hA [0, 1] rfl
  refine va_callv (va_runV (As := [.int xb]) (rest := []) ⟨hx, hb, hml, hown, hts⟩ (kX6_wants l dC dI cI cV cW H.size o th aS aA aV sm aB ((wW B0 nn xa (wl, tn)).1) aR rm ga fi se ex ha B0 nn ((wW B0 nn xa (wl, tn)).2) xb (hnn) (wW_le ha_ htn)) (cwV 1 hts gX6_rest_X6_wants rfl rfl rfl hdX6_wants ⟨Nat.le_of_ble_eq_true rfl, Nat.le_of_ble_eq_true rfl⟩) (pW_V hK hP hPc hDc 0 4 rfl rfl rfl) rfl rfl hl.1 rfl (lv_room (Nat.le_of_ble_eq_true rfl)) dX6_rest_7 ⟨Nat.zero_le _, Nat.zero_le _⟩) hS (fun q _ h => hFc q h) hFc (fun u_ t_ H1 locs ht_ hvm_ hw_ hB_ hz_ hk_ hS => ?_)
  obtain ⟨hP1, -, hD1⟩ := hB_
  rw [ht_] at hP1
  obtain ⟨hP, hD⟩ := va_join (wr := []) (w1 := [(o, .inr (4, [.int th, .ref aS, .ref aA, .ref aV, .int sm, .ref aB, .int (nI nn), .int (nI ((wW B0 nn xb (wW B0 nn xa (wl, tn))).2)), .int (bI ((wW B0 nn xb (wW B0 nn xa (wl, tn))).1)), .ref aR, .int rm, .int ga, .int fi, .int se, .int ex, .long ha])), (aB, .inl (cI, 60, .inl B0))]) hP hD [0, 1] [] rfl rfl (by decide) (by decide) hk_ hFc hP1 hD1
  clear hP1 hD1 hPc hDc hFc hk_ hz_ hvm_ ht_
  generalize H1 = H at hP hS ⊢
  replace hP : va_P (dC, dI) vwCl [(o, .inr (4, [.int th, .ref aS, .ref aA, .ref aV, .int sm, .ref aB, .int (nI nn), .int (nI ((wW B0 nn xb (wW B0 nn xa (wl, tn))).2)), .int (bI ((wW B0 nn xb (wW B0 nn xa (wl, tn))).1)), .ref aR, .int rm, .int ga, .int fi, .int se, .int ex, .long ha])), (aB, .inl (cI, 60, .inl B0))] H := hP
  replace hD : va_D A [(o, .inr (4, [.int th, .ref aS, .ref aA, .ref aV, .int sm, .ref aB, .int (nI nn), .int (nI ((wW B0 nn xb (wW B0 nn xa (wl, tn))).2)), .int (bI ((wW B0 nn xb (wW B0 nn xa (wl, tn))).1)), .ref aR, .int rm, .int ga, .int fi, .int se, .int ex, .long ha])), (aB, .inl (cI, 60, .inl B0))] := hD
  refine W.widen (k := 0) (n := 0) (Nat.le_refl 0) (Nat.le_refl 0) ?_
  refine lv_iload_n hx hb dX6_rest_10 rfl (lv_at hl 3 rfl) ?_
  refine lv_if_eq (tgt := 19) hx hb dX6_rest_11 (by decide) (fun c_11 => ?_) (fun c_11 => ?_)
  · refine lv_iload hx hb dX6_rest_19 (lv_at hl 4 rfl) ?_
    refine lv_if_eq (tgt := 30) hx hb dX6_rest_21 (by decide) (fun c_21 => ?_) (fun c_21 => ?_)
    · have ec_r30_1_o_7 : (nI ((wW B0 nn xb (wW B0 nn xa (wl, tn))).2)) = (nI ((wR B0 nn xa xb xc xd (wl, tn)).2)) := by first | rfl | (rw [wR, if_pos c_21, if_pos c_11])
      have ec_r30_1_o_8 : (bI ((wW B0 nn xb (wW B0 nn xa (wl, tn))).1)) = (bI ((wR B0 nn xa xb xc xd (wl, tn)).1)) := by first | rfl | (rw [wR, if_pos c_21, if_pos c_11])
      have ew_r30_1 : ([(o, .inr (4, [.int th, .ref aS, .ref aA, .ref aV, .int sm, .ref aB, .int (nI nn), .int (nI ((wW B0 nn xb (wW B0 nn xa (wl, tn))).2)), .int (bI ((wW B0 nn xb (wW B0 nn xa (wl, tn))).1)), .ref aR, .int rm, .int ga, .int fi, .int se, .int ex, .long ha])), (aB, .inl (cI, 60, .inl B0))] : va_W) = [(o, .inr (4, [.int th, .ref aS, .ref aA, .ref aV, .int sm, .ref aB, .int (nI nn), .int (nI ((wR B0 nn xa xb xc xd (wl, tn)).2)), .int (bI ((wR B0 nn xa xb xc xd (wl, tn)).1)), .ref aR, .int rm, .int ga, .int fi, .int se, .int ex, .long ha])), (aB, .inl (cI, 60, .inl B0))] := ((congrArg (fun z_ => ([(o, .inr (4, [.int th, .ref aS, .ref aA, .ref aV, .int sm, .ref aB, .int (nI nn), .int z_, .int (bI ((wW B0 nn xb (wW B0 nn xa (wl, tn))).1)), .ref aR, .int rm, .int ga, .int fi, .int se, .int ex, .long ha])), (aB, .inl (cI, 60, .inl B0))] : va_W)) ec_r30_1_o_7).trans (congrArg (fun z_ => ([(o, .inr (4, [.int th, .ref aS, .ref aA, .ref aV, .int sm, .ref aB, .int (nI nn), .int (nI ((wR B0 nn xa xb xc xd (wl, tn)).2)), .int z_, .ref aR, .int rm, .int ga, .int fi, .int se, .int ex, .long ha])), (aB, .inl (cI, 60, .inl B0))] : va_W)) ec_r30_1_o_8))
      have hP9 := (w_cgP ew_r30_1 hP)
      have hD9 := (w_cgD ew_r30_1 hD)
      exact W.vret hx hb hr (fun t ht hW => ⟨⟨(), rfl, trivial, by rw [ht]; exact hP9, va_K.moved hW.alike hK, hD9⟩, hS.F ht⟩) hS.2.2 dX6_rest_30
    · refine lv_aload_n hx hb dX6_rest_24 rfl (lv_at hl 0 rfl) ?_
      refine lv_iload hx hb dX6_rest_25 (lv_at hl 4 rfl) ?_
      have hPc := hP.sub (ws' := [(o, .inr (4, [.int th, .ref aS, .ref aA, .ref aV, .int sm, .ref aB, .int (nI nn), .int (nI ((wW B0 nn xb (wW B0 nn xa (wl, tn))).2)), .int (bI ((wW B0 nn xb (wW B0 nn xa (wl, tn))).1)), .ref aR, .int rm, .int ga, .int fi, .int se, .int ex, .long ha])), (aB, .inl (cI, 60, .inl B0))]) [0, 1] rfl
      have hDc := hD.sub (ws' := [(o, .inr (4, [.int th, .ref aS, .ref aA, .ref aV, .int sm, .ref aB, .int (nI nn), .int (nI ((wW B0 nn xb (wW B0 nn xa (wl, tn))).2)), .int (bI ((wW B0 nn xb (wW B0 nn xa (wl, tn))).1)), .ref aR, .int rm, .int ga, .int fi, .int se, .int ex, .long ha])), (aB, .inl (cI, 60, .inl B0))]) [0, 1] (by decide) rfl
      have hFc := va_free (wc := [(o, .inr (4, [.int th, .ref aS, .ref aA, .ref aV, .int sm, .ref aB, .int (nI nn), .int (nI ((wW B0 nn xb (wW B0 nn xa (wl, tn))).2)), .int (bI ((wW B0 nn xb (wW B0 nn xa (wl, tn))).1)), .ref aR, .int rm, .int ga, .int fi, .int se, .int ex, .long ha])), (aB, .inl (cI, 60, .inl B0))]) hD hS hA [0, 1] rfl
      refine va_callv (va_runV (As := [.int xd]) (rest := []) ⟨hx, hb, hml, hown, hts⟩ (kX6_wants l dC dI cI cV cW H.size o th aS aA aV sm aB ((wW B0 nn xb (wW B0 nn xa (wl, tn))).1) aR rm ga fi se ex ha B0 nn ((wW B0 nn xb (wW B0 nn xa (wl, tn))).2) xd (hnn) (wW_le hb_ (wW_le ha_ htn))) (cwV 1 hts gX6_rest_X6_wants rfl rfl rfl hdX6_wants ⟨Nat.le_of_ble_eq_true rfl, Nat.le_of_ble_eq_true rfl⟩) (pW_V hK hP hPc hDc 0 4 rfl rfl rfl) rfl rfl hl.1 rfl (lv_room (Nat.le_of_ble_eq_true rfl)) dX6_rest_27 ⟨Nat.zero_le _, Nat.zero_le _⟩) hS (fun q _ h => hFc q h) hFc (fun u_ t_ H1 locs ht_ hvm_ hw_ hB_ hz_ hk_ hS => ?_)
      obtain ⟨hP1, -, hD1⟩ := hB_
      rw [ht_] at hP1
      obtain ⟨hP, hD⟩ := va_join (wr := []) (w1 := [(o, .inr (4, [.int th, .ref aS, .ref aA, .ref aV, .int sm, .ref aB, .int (nI nn), .int (nI ((wW B0 nn xd (wW B0 nn xb (wW B0 nn xa (wl, tn)))).2)), .int (bI ((wW B0 nn xd (wW B0 nn xb (wW B0 nn xa (wl, tn)))).1)), .ref aR, .int rm, .int ga, .int fi, .int se, .int ex, .long ha])), (aB, .inl (cI, 60, .inl B0))]) hP hD [0, 1] [] rfl rfl (by decide) (by decide) hk_ hFc hP1 hD1
      clear hP1 hD1 hPc hDc hFc hk_ hz_ hvm_ ht_
      generalize H1 = H at hP hS ⊢
      replace hP : va_P (dC, dI) vwCl [(o, .inr (4, [.int th, .ref aS, .ref aA, .ref aV, .int sm, .ref aB, .int (nI nn), .int (nI ((wW B0 nn xd (wW B0 nn xb (wW B0 nn xa (wl, tn)))).2)), .int (bI ((wW B0 nn xd (wW B0 nn xb (wW B0 nn xa (wl, tn)))).1)), .ref aR, .int rm, .int ga, .int fi, .int se, .int ex, .long ha])), (aB, .inl (cI, 60, .inl B0))] H := hP
      replace hD : va_D A [(o, .inr (4, [.int th, .ref aS, .ref aA, .ref aV, .int sm, .ref aB, .int (nI nn), .int (nI ((wW B0 nn xd (wW B0 nn xb (wW B0 nn xa (wl, tn)))).2)), .int (bI ((wW B0 nn xd (wW B0 nn xb (wW B0 nn xa (wl, tn)))).1)), .ref aR, .int rm, .int ga, .int fi, .int se, .int ex, .long ha])), (aB, .inl (cI, 60, .inl B0))] := hD
      refine W.widen (k := 0) (n := 0) (Nat.le_refl 0) (Nat.le_refl 0) ?_
      have ec_r30_2_o_7 : (nI ((wW B0 nn xd (wW B0 nn xb (wW B0 nn xa (wl, tn)))).2)) = (nI ((wR B0 nn xa xb xc xd (wl, tn)).2)) := by first | rfl | (rw [wR, if_neg c_21, if_pos c_11])
      have ec_r30_2_o_8 : (bI ((wW B0 nn xd (wW B0 nn xb (wW B0 nn xa (wl, tn)))).1)) = (bI ((wR B0 nn xa xb xc xd (wl, tn)).1)) := by first | rfl | (rw [wR, if_neg c_21, if_pos c_11])
      have ew_r30_2 : ([(o, .inr (4, [.int th, .ref aS, .ref aA, .ref aV, .int sm, .ref aB, .int (nI nn), .int (nI ((wW B0 nn xd (wW B0 nn xb (wW B0 nn xa (wl, tn)))).2)), .int (bI ((wW B0 nn xd (wW B0 nn xb (wW B0 nn xa (wl, tn)))).1)), .ref aR, .int rm, .int ga, .int fi, .int se, .int ex, .long ha])), (aB, .inl (cI, 60, .inl B0))] : va_W) = [(o, .inr (4, [.int th, .ref aS, .ref aA, .ref aV, .int sm, .ref aB, .int (nI nn), .int (nI ((wR B0 nn xa xb xc xd (wl, tn)).2)), .int (bI ((wR B0 nn xa xb xc xd (wl, tn)).1)), .ref aR, .int rm, .int ga, .int fi, .int se, .int ex, .long ha])), (aB, .inl (cI, 60, .inl B0))] := ((congrArg (fun z_ => ([(o, .inr (4, [.int th, .ref aS, .ref aA, .ref aV, .int sm, .ref aB, .int (nI nn), .int z_, .int (bI ((wW B0 nn xd (wW B0 nn xb (wW B0 nn xa (wl, tn)))).1)), .ref aR, .int rm, .int ga, .int fi, .int se, .int ex, .long ha])), (aB, .inl (cI, 60, .inl B0))] : va_W)) ec_r30_2_o_7).trans (congrArg (fun z_ => ([(o, .inr (4, [.int th, .ref aS, .ref aA, .ref aV, .int sm, .ref aB, .int (nI nn), .int (nI ((wR B0 nn xa xb xc xd (wl, tn)).2)), .int z_, .ref aR, .int rm, .int ga, .int fi, .int se, .int ex, .long ha])), (aB, .inl (cI, 60, .inl B0))] : va_W)) ec_r30_2_o_8))
      have hP9 := (w_cgP ew_r30_2 hP)
      have hD9 := (w_cgD ew_r30_2 hD)
      exact W.vret hx hb hr (fun t ht hW => ⟨⟨(), rfl, trivial, by rw [ht]; exact hP9, va_K.moved hW.alike hK, hD9⟩, hS.F ht⟩) hS.2.2 dX6_rest_30
  · refine lv_aload_n hx hb dX6_rest_14 rfl (lv_at hl 0 rfl) ?_
    refine lv_iload_n hx hb dX6_rest_15 rfl (lv_at hl 3 rfl) ?_
    have hPc := hP.sub (ws' := [(o, .inr (4, [.int th, .ref aS, .ref aA, .ref aV, .int sm, .ref aB, .int (nI nn), .int (nI ((wW B0 nn xb (wW B0 nn xa (wl, tn))).2)), .int (bI ((wW B0 nn xb (wW B0 nn xa (wl, tn))).1)), .ref aR, .int rm, .int ga, .int fi, .int se, .int ex, .long ha])), (aB, .inl (cI, 60, .inl B0))]) [0, 1] rfl
    have hDc := hD.sub (ws' := [(o, .inr (4, [.int th, .ref aS, .ref aA, .ref aV, .int sm, .ref aB, .int (nI nn), .int (nI ((wW B0 nn xb (wW B0 nn xa (wl, tn))).2)), .int (bI ((wW B0 nn xb (wW B0 nn xa (wl, tn))).1)), .ref aR, .int rm, .int ga, .int fi, .int se, .int ex, .long ha])), (aB, .inl (cI, 60, .inl B0))]) [0, 1] (by decide) rfl
    have hFc := va_free (wc := [(o, .inr (4, [.int th, .ref aS, .ref aA, .ref aV, .int sm, .ref aB, .int (nI nn), .int (nI ((wW B0 nn xb (wW B0 nn xa (wl, tn))).2)), .int (bI ((wW B0 nn xb (wW B0 nn xa (wl, tn))).1)), .ref aR, .int rm, .int ga, .int fi, .int se, .int ex, .long ha])), (aB, .inl (cI, 60, .inl B0))]) hD hS hA [0, 1] rfl
    refine va_callv (va_runV (As := [.int xc]) (rest := []) ⟨hx, hb, hml, hown, hts⟩ (kX6_wants l dC dI cI cV cW H.size o th aS aA aV sm aB ((wW B0 nn xb (wW B0 nn xa (wl, tn))).1) aR rm ga fi se ex ha B0 nn ((wW B0 nn xb (wW B0 nn xa (wl, tn))).2) xc (hnn) (wW_le hb_ (wW_le ha_ htn))) (cwV 1 hts gX6_rest_X6_wants rfl rfl rfl hdX6_wants ⟨Nat.le_of_ble_eq_true rfl, Nat.le_of_ble_eq_true rfl⟩) (pW_V hK hP hPc hDc 0 4 rfl rfl rfl) rfl rfl hl.1 rfl (lv_room (Nat.le_of_ble_eq_true rfl)) dX6_rest_16 ⟨Nat.zero_le _, Nat.zero_le _⟩) hS (fun q _ h => hFc q h) hFc (fun u_ t_ H1 locs ht_ hvm_ hw_ hB_ hz_ hk_ hS => ?_)
    obtain ⟨hP1, -, hD1⟩ := hB_
    rw [ht_] at hP1
    obtain ⟨hP, hD⟩ := va_join (wr := []) (w1 := [(o, .inr (4, [.int th, .ref aS, .ref aA, .ref aV, .int sm, .ref aB, .int (nI nn), .int (nI ((wW B0 nn xc (wW B0 nn xb (wW B0 nn xa (wl, tn)))).2)), .int (bI ((wW B0 nn xc (wW B0 nn xb (wW B0 nn xa (wl, tn)))).1)), .ref aR, .int rm, .int ga, .int fi, .int se, .int ex, .long ha])), (aB, .inl (cI, 60, .inl B0))]) hP hD [0, 1] [] rfl rfl (by decide) (by decide) hk_ hFc hP1 hD1
    clear hP1 hD1 hPc hDc hFc hk_ hz_ hvm_ ht_
    generalize H1 = H at hP hS ⊢
    replace hP : va_P (dC, dI) vwCl [(o, .inr (4, [.int th, .ref aS, .ref aA, .ref aV, .int sm, .ref aB, .int (nI nn), .int (nI ((wW B0 nn xc (wW B0 nn xb (wW B0 nn xa (wl, tn)))).2)), .int (bI ((wW B0 nn xc (wW B0 nn xb (wW B0 nn xa (wl, tn)))).1)), .ref aR, .int rm, .int ga, .int fi, .int se, .int ex, .long ha])), (aB, .inl (cI, 60, .inl B0))] H := hP
    replace hD : va_D A [(o, .inr (4, [.int th, .ref aS, .ref aA, .ref aV, .int sm, .ref aB, .int (nI nn), .int (nI ((wW B0 nn xc (wW B0 nn xb (wW B0 nn xa (wl, tn)))).2)), .int (bI ((wW B0 nn xc (wW B0 nn xb (wW B0 nn xa (wl, tn)))).1)), .ref aR, .int rm, .int ga, .int fi, .int se, .int ex, .long ha])), (aB, .inl (cI, 60, .inl B0))] := hD
    refine W.widen (k := 0) (n := 0) (Nat.le_refl 0) (Nat.le_refl 0) ?_
    refine lv_iload hx hb dX6_rest_19 (lv_at hl 4 rfl) ?_
    refine lv_if_eq (tgt := 30) hx hb dX6_rest_21 (by decide) (fun c_21 => ?_) (fun c_21 => ?_)
    · have ec_r30_3_o_7 : (nI ((wW B0 nn xc (wW B0 nn xb (wW B0 nn xa (wl, tn)))).2)) = (nI ((wR B0 nn xa xb xc xd (wl, tn)).2)) := by first | rfl | (rw [wR, if_pos c_21, if_neg c_11])
      have ec_r30_3_o_8 : (bI ((wW B0 nn xc (wW B0 nn xb (wW B0 nn xa (wl, tn)))).1)) = (bI ((wR B0 nn xa xb xc xd (wl, tn)).1)) := by first | rfl | (rw [wR, if_pos c_21, if_neg c_11])
      have ew_r30_3 : ([(o, .inr (4, [.int th, .ref aS, .ref aA, .ref aV, .int sm, .ref aB, .int (nI nn), .int (nI ((wW B0 nn xc (wW B0 nn xb (wW B0 nn xa (wl, tn)))).2)), .int (bI ((wW B0 nn xc (wW B0 nn xb (wW B0 nn xa (wl, tn)))).1)), .ref aR, .int rm, .int ga, .int fi, .int se, .int ex, .long ha])), (aB, .inl (cI, 60, .inl B0))] : va_W) = [(o, .inr (4, [.int th, .ref aS, .ref aA, .ref aV, .int sm, .ref aB, .int (nI nn), .int (nI ((wR B0 nn xa xb xc xd (wl, tn)).2)), .int (bI ((wR B0 nn xa xb xc xd (wl, tn)).1)), .ref aR, .int rm, .int ga, .int fi, .int se, .int ex, .long ha])), (aB, .inl (cI, 60, .inl B0))] := ((congrArg (fun z_ => ([(o, .inr (4, [.int th, .ref aS, .ref aA, .ref aV, .int sm, .ref aB, .int (nI nn), .int z_, .int (bI ((wW B0 nn xc (wW B0 nn xb (wW B0 nn xa (wl, tn)))).1)), .ref aR, .int rm, .int ga, .int fi, .int se, .int ex, .long ha])), (aB, .inl (cI, 60, .inl B0))] : va_W)) ec_r30_3_o_7).trans (congrArg (fun z_ => ([(o, .inr (4, [.int th, .ref aS, .ref aA, .ref aV, .int sm, .ref aB, .int (nI nn), .int (nI ((wR B0 nn xa xb xc xd (wl, tn)).2)), .int z_, .ref aR, .int rm, .int ga, .int fi, .int se, .int ex, .long ha])), (aB, .inl (cI, 60, .inl B0))] : va_W)) ec_r30_3_o_8))
      have hP9 := (w_cgP ew_r30_3 hP)
      have hD9 := (w_cgD ew_r30_3 hD)
      exact W.vret hx hb hr (fun t ht hW => ⟨⟨(), rfl, trivial, by rw [ht]; exact hP9, va_K.moved hW.alike hK, hD9⟩, hS.F ht⟩) hS.2.2 dX6_rest_30
    · refine lv_aload_n hx hb dX6_rest_24 rfl (lv_at hl 0 rfl) ?_
      refine lv_iload hx hb dX6_rest_25 (lv_at hl 4 rfl) ?_
      have hPc := hP.sub (ws' := [(o, .inr (4, [.int th, .ref aS, .ref aA, .ref aV, .int sm, .ref aB, .int (nI nn), .int (nI ((wW B0 nn xc (wW B0 nn xb (wW B0 nn xa (wl, tn)))).2)), .int (bI ((wW B0 nn xc (wW B0 nn xb (wW B0 nn xa (wl, tn)))).1)), .ref aR, .int rm, .int ga, .int fi, .int se, .int ex, .long ha])), (aB, .inl (cI, 60, .inl B0))]) [0, 1] rfl
      have hDc := hD.sub (ws' := [(o, .inr (4, [.int th, .ref aS, .ref aA, .ref aV, .int sm, .ref aB, .int (nI nn), .int (nI ((wW B0 nn xc (wW B0 nn xb (wW B0 nn xa (wl, tn)))).2)), .int (bI ((wW B0 nn xc (wW B0 nn xb (wW B0 nn xa (wl, tn)))).1)), .ref aR, .int rm, .int ga, .int fi, .int se, .int ex, .long ha])), (aB, .inl (cI, 60, .inl B0))]) [0, 1] (by decide) rfl
      have hFc := va_free (wc := [(o, .inr (4, [.int th, .ref aS, .ref aA, .ref aV, .int sm, .ref aB, .int (nI nn), .int (nI ((wW B0 nn xc (wW B0 nn xb (wW B0 nn xa (wl, tn)))).2)), .int (bI ((wW B0 nn xc (wW B0 nn xb (wW B0 nn xa (wl, tn)))).1)), .ref aR, .int rm, .int ga, .int fi, .int se, .int ex, .long ha])), (aB, .inl (cI, 60, .inl B0))]) hD hS hA [0, 1] rfl
      refine va_callv (va_runV (As := [.int xd]) (rest := []) ⟨hx, hb, hml, hown, hts⟩ (kX6_wants l dC dI cI cV cW H.size o th aS aA aV sm aB ((wW B0 nn xc (wW B0 nn xb (wW B0 nn xa (wl, tn)))).1) aR rm ga fi se ex ha B0 nn ((wW B0 nn xc (wW B0 nn xb (wW B0 nn xa (wl, tn)))).2) xd (hnn) (wW_le c_11 (wW_le hb_ (wW_le ha_ htn)))) (cwV 1 hts gX6_rest_X6_wants rfl rfl rfl hdX6_wants ⟨Nat.le_of_ble_eq_true rfl, Nat.le_of_ble_eq_true rfl⟩) (pW_V hK hP hPc hDc 0 4 rfl rfl rfl) rfl rfl hl.1 rfl (lv_room (Nat.le_of_ble_eq_true rfl)) dX6_rest_27 ⟨Nat.zero_le _, Nat.zero_le _⟩) hS (fun q _ h => hFc q h) hFc (fun u_ t_ H1 locs ht_ hvm_ hw_ hB_ hz_ hk_ hS => ?_)
      obtain ⟨hP1, -, hD1⟩ := hB_
      rw [ht_] at hP1
      obtain ⟨hP, hD⟩ := va_join (wr := []) (w1 := [(o, .inr (4, [.int th, .ref aS, .ref aA, .ref aV, .int sm, .ref aB, .int (nI nn), .int (nI ((wW B0 nn xd (wW B0 nn xc (wW B0 nn xb (wW B0 nn xa (wl, tn))))).2)), .int (bI ((wW B0 nn xd (wW B0 nn xc (wW B0 nn xb (wW B0 nn xa (wl, tn))))).1)), .ref aR, .int rm, .int ga, .int fi, .int se, .int ex, .long ha])), (aB, .inl (cI, 60, .inl B0))]) hP hD [0, 1] [] rfl rfl (by decide) (by decide) hk_ hFc hP1 hD1
      clear hP1 hD1 hPc hDc hFc hk_ hz_ hvm_ ht_
      generalize H1 = H at hP hS ⊢
      replace hP : va_P (dC, dI) vwCl [(o, .inr (4, [.int th, .ref aS, .ref aA, .ref aV, .int sm, .ref aB, .int (nI nn), .int (nI ((wW B0 nn xd (wW B0 nn xc (wW B0 nn xb (wW B0 nn xa (wl, tn))))).2)), .int (bI ((wW B0 nn xd (wW B0 nn xc (wW B0 nn xb (wW B0 nn xa (wl, tn))))).1)), .ref aR, .int rm, .int ga, .int fi, .int se, .int ex, .long ha])), (aB, .inl (cI, 60, .inl B0))] H := hP
      replace hD : va_D A [(o, .inr (4, [.int th, .ref aS, .ref aA, .ref aV, .int sm, .ref aB, .int (nI nn), .int (nI ((wW B0 nn xd (wW B0 nn xc (wW B0 nn xb (wW B0 nn xa (wl, tn))))).2)), .int (bI ((wW B0 nn xd (wW B0 nn xc (wW B0 nn xb (wW B0 nn xa (wl, tn))))).1)), .ref aR, .int rm, .int ga, .int fi, .int se, .int ex, .long ha])), (aB, .inl (cI, 60, .inl B0))] := hD
      refine W.widen (k := 0) (n := 0) (Nat.le_refl 0) (Nat.le_refl 0) ?_
      have ec_r30_4_o_7 : (nI ((wW B0 nn xd (wW B0 nn xc (wW B0 nn xb (wW B0 nn xa (wl, tn))))).2)) = (nI ((wR B0 nn xa xb xc xd (wl, tn)).2)) := by first | rfl | (rw [wR, if_neg c_21, if_neg c_11])
      have ec_r30_4_o_8 : (bI ((wW B0 nn xd (wW B0 nn xc (wW B0 nn xb (wW B0 nn xa (wl, tn))))).1)) = (bI ((wR B0 nn xa xb xc xd (wl, tn)).1)) := by first | rfl | (rw [wR, if_neg c_21, if_neg c_11])
      have ew_r30_4 : ([(o, .inr (4, [.int th, .ref aS, .ref aA, .ref aV, .int sm, .ref aB, .int (nI nn), .int (nI ((wW B0 nn xd (wW B0 nn xc (wW B0 nn xb (wW B0 nn xa (wl, tn))))).2)), .int (bI ((wW B0 nn xd (wW B0 nn xc (wW B0 nn xb (wW B0 nn xa (wl, tn))))).1)), .ref aR, .int rm, .int ga, .int fi, .int se, .int ex, .long ha])), (aB, .inl (cI, 60, .inl B0))] : va_W) = [(o, .inr (4, [.int th, .ref aS, .ref aA, .ref aV, .int sm, .ref aB, .int (nI nn), .int (nI ((wR B0 nn xa xb xc xd (wl, tn)).2)), .int (bI ((wR B0 nn xa xb xc xd (wl, tn)).1)), .ref aR, .int rm, .int ga, .int fi, .int se, .int ex, .long ha])), (aB, .inl (cI, 60, .inl B0))] := ((congrArg (fun z_ => ([(o, .inr (4, [.int th, .ref aS, .ref aA, .ref aV, .int sm, .ref aB, .int (nI nn), .int z_, .int (bI ((wW B0 nn xd (wW B0 nn xc (wW B0 nn xb (wW B0 nn xa (wl, tn))))).1)), .ref aR, .int rm, .int ga, .int fi, .int se, .int ex, .long ha])), (aB, .inl (cI, 60, .inl B0))] : va_W)) ec_r30_4_o_7).trans (congrArg (fun z_ => ([(o, .inr (4, [.int th, .ref aS, .ref aA, .ref aV, .int sm, .ref aB, .int (nI nn), .int (nI ((wR B0 nn xa xb xc xd (wl, tn)).2)), .int z_, .ref aR, .int rm, .int ga, .int fi, .int se, .int ex, .long ha])), (aB, .inl (cI, 60, .inl B0))] : va_W)) ec_r30_4_o_8))
      have hP9 := (w_cgP ew_r30_4 hP)
      have hD9 := (w_cgD ew_r30_4 hD)
      exact W.vret hx hb hr (fun t ht hW => ⟨⟨(), rfl, trivial, by rw [ht]; exact hP9, va_K.moved hW.alike hK, hD9⟩, hS.F ht⟩) hS.2.2 dX6_rest_30
theorem hdX6_rest : yX6_rest.cls = RX6 ∧ yX6_rest.cls ≠ "java/lang/invoke/MethodHandle" ∧ yX6_rest.cls ≠ "java/lang/invoke/VarHandle" ∧ (parseMethodDescriptor yX6_rest.desc).map (fun d => d.parameters.length) = some 4 := by decide +kernel
set_option maxHeartbeats 4000000 in
set_option maxRecDepth 100000 in
theorem kX6_word (l : Launch) (dC : Nat → ClassId) (dI : Nat → Nat → Nat) (cI cV cW : ClassId) (sz : Nat) (o : Nat) (th : Int32) (aS : Nat) (aA : Nat) (aV : Nat) (sm : Int32) (aB : Nat) (wl : Bool) (aR : Nat) (rm : Int32) (ga : Int32) (fi : Int32) (se : Int32) (ex : Int32) (ha : Int64) (B0 : Nat → Int32) (nn : Nat) (tn : Nat) (hnn : nn ≤ 60) (htn : tn ≤ nn) : Met l yX6_word wsX6_word ({ frames := 3, cells := 0, slots := 0, locals := 65 }) (pW (dC, dI) (tyS cI cV cW) sz [.ref o] [(o, .inr (4, [.int th, .ref aS, .ref aA, .ref aV, .int sm, .ref aB, .int (nI nn), .int (nI tn), .int (bI wl), .ref aR, .int rm, .int ga, .int fi, .int se, .int ex, .long ha])), (aB, .inl (cI, 60, .inl B0))]) (va_Qi (fun (r_ : Int32) (_ : Unit) => r_ = (nI ((wWd B0 nn tn).1))) (fun (_ : Unit) t => qB (dC, dI) (tyS cI cV cW) (va_A [(o, .inr (4, [.int th, .ref aS, .ref aA, .ref aV, .int sm, .ref aB, .int (nI nn), .int (nI tn), .int (bI wl), .ref aR, .int rm, .int ga, .int fi, .int se, .int ex, .long ha])), (aB, .inl (cI, 60, .inl B0))] sz) [(o, .inr (4, [.int th, .ref aS, .ref aA, .ref aV, .int sm, .ref aB, .int (nI nn), .int (nI (((wWd B0 nn tn).2).2)), .int (bI (((wWd B0 nn tn).2).1)), .ref aR, .int rm, .int ga, .int fi, .int se, .int ex, .long ha])), (aB, .inl (cI, 60, .inl B0))] t) (va_A [(o, .inr (4, [.int th, .ref aS, .ref aA, .ref aV, .int sm, .ref aB, .int (nI nn), .int (nI tn), .int (bI wl), .ref aR, .int rm, .int ga, .int fi, .int se, .int ex, .long ha])), (aB, .inl (cI, 60, .inl B0))] sz)) 0 0 (va_A [(o, .inr (4, [.int th, .ref aS, .ref aA, .ref aV, .int sm, .ref aB, .int (nI nn), .int (nI tn), .int (bI wl), .ref aR, .int rm, .int ga, .int fi, .int se, .int ex, .long ha])), (aB, .inl (cI, 60, .inl B0))] sz) := by
  refine Met.ofW (cc := cX6_word) (maxL := 3) (ret := (some .int)) (by decide) rfl ?_
  intro p e s m args below meth c s₁ B hml hv
  obtain ⟨rfl, hsz, hP, hK, hD0⟩ := hv
  have hx := B.exec
  have hb := B.bytes
  have hr := B.returns
  have hts := atoms_spec (ws := wsX6_word) B.pre
  have hown : s.vm.findClass RX6 = some m.cls := findClass_of_methodNamed B.named
  have hlocks := B.notSynchronized
  subst hsz
  have hD := hD0.self (sz := s.heap.size)
  generalize hAe : va_A [(o, .inr (4, [.int th, .ref aS, .ref aA, .ref aV, .int sm, .ref aB, .int (nI nn), .int (nI tn), .int (bI wl), .ref aR, .int rm, .int ga, .int fi, .int se, .int ex, .long ha])), (aB, .inl (cI, 60, .inl B0))] s.heap.size = A at hD ⊢
  have hA : ∀ q : Nat, s.heap.size ≤ q → A q := fun q h => by rw [← hAe]; exact Or.inr h
  have hS : va_S A s.heap s.heap [] := va_S.rf
  refine w_gen hP hS (fun H locs hP hS => ?_)
  have hf141 := hts (.fieldLink RX6 141 "VaultShelvesModel" "isWell" "Z") (by decide +kernel)
  have hf138 := hts (.fieldLink RX6 138 "VaultShelvesModel" "at" "I") (by decide +kernel)
  have hiX6 : ∀ w ∈ u_ws RX6 TX6 16, w ∈ wsX6_word := by decide +kernel
  have hl := lv_entry ([.ref o]) (n := 3) (Nat.le_of_ble_eq_true rfl)
  rw [lg_entry_eq]
  generalize (lg_sl ([.ref o]) ++ List.replicate (3 - (lg_sl ([.ref o])).length) Slot.unset).toArray = ls at hl ⊢
  replace hl : lv_has ls 3 [(0, .ref o)] := hl
  refine lv_aload_n hx hb dX6_word_0 rfl (lv_at hl 0 rfl) ?_
  refine vp_callSi (W.runV (As := []) (rest := []) ⟨hx, hb, hml, hown, hts⟩ (kX6_sign l dC dI cI cV cW o th aS aA aV sm aB (bI wl) aR rm ga fi se ex ha B0 nn tn (hnn) (htn)) (cwV 0 hts gX6_word_X6_sign rfl rfl rfl hdX6_sign ⟨Nat.le_of_ble_eq_true rfl, Nat.le_of_ble_eq_true rfl⟩) (pR_V hK hP 0 4 rfl rfl rfl [0, 1] rfl) rfl rfl hl.1 rfl (lv_room (Nat.le_of_ble_eq_true rfl)) dX6_word_1 ⟨Nat.zero_le _, Nat.zero_le _⟩) (fun r_1 hr_ => ?_)
  subst hr_
  refine lv_istore_n (lv' := [(1, .int (sSg B0 nn tn)), (0, .ref o)]) hx hb dX6_word_4 rfl hl (by decide) rfl (fun ls hl => ?_)
  refine lv_iload_n hx hb dX6_word_5 rfl (lv_at hl 0 rfl) ?_
  refine lv_bipush (v := (nI 97)) hx hb dX6_word_6 (by decide) ?_
  refine lv_icmp_ne (tgt := 15) hx hb dX6_word_8 (by decide) (fun c_8 => ?_) (fun c_8 => ?_)
  · refine lv_iload_n hx hb dX6_word_15 rfl (lv_at hl 0 rfl) ?_
    refine lv_bipush (v := (nI 99)) hx hb dX6_word_16 (by decide) ?_
    refine lv_icmp_ne (tgt := 25) hx hb dX6_word_18 (by decide) (fun c_18 => ?_) (fun c_18 => ?_)
    · refine lv_iload_n hx hb dX6_word_25 rfl (lv_at hl 0 rfl) ?_
      refine lv_bipush (v := (nI 108)) hx hb dX6_word_26 (by decide) ?_
      refine lv_icmp_ne (tgt := 35) hx hb dX6_word_28 (by decide) (fun c_28 => ?_) (fun c_28 => ?_)
      · refine lv_iload_n hx hb dX6_word_35 rfl (lv_at hl 0 rfl) ?_
        refine lv_bipush (v := (nI 109)) hx hb dX6_word_36 (by decide) ?_
        refine lv_icmp_ne (tgt := 45) hx hb dX6_word_38 (by decide) (fun c_38 => ?_) (fun c_38 => ?_)
        · refine lv_iload_n hx hb dX6_word_45 rfl (lv_at hl 0 rfl) ?_
          refine lv_bipush (v := (nI 110)) hx hb dX6_word_46 (by decide) ?_
          refine lv_icmp_ne (tgt := 55) hx hb dX6_word_48 (by decide) (fun c_48 => ?_) (fun c_48 => ?_)
          · refine lv_iconst (v := (nI 0)) hx hb dX6_word_55 (by decide) ?_
            refine lv_istore_n (lv' := [(2, .int (nI 0)), (1, .int (sSg B0 nn tn)), (0, .ref o)]) hx hb dX6_word_56 rfl hl (by decide) rfl (fun ls hl => ?_)
            refine lv_aload_n hx hb dX6_word_57 rfl (lv_at hl 2 rfl) ?_
            refine lv_iload_n hx hb dX6_word_58 rfl (lv_at hl 0 rfl) ?_
            refine n_if_eq (tgt := 66) hx hb dX6_word_59 (by decide) (by omega) (fun c_59 => ?_) (fun c_59 => absurd c_59 (by decide))
            refine lv_iconst (v := (nI 0)) hx hb dX6_word_66 (by decide) ?_
            refine va_put (D := (dC, dI)) (ci := 4) (v := .int (bI false)) (ty := .boolean) (C := RX6) (T := TX6) (N := 16) hx hb hts hiX6 tyX6 tyX6_ok nmX6 hown hK hP hD hS 0 rfl rfl 8 (by decide) hf141 (fun _ h9 => h9) rfl (by decide +kernel) (nar_bI _) (fit_bI _) (Nat.le_of_ble_eq_true rfl) dX6_word_67 (fun H locs hP hD hS => ?_)
            replace hP : va_P (dC, dI) vwCl [(o, .inr (4, [.int th, .ref aS, .ref aA, .ref aV, .int sm, .ref aB, .int (nI nn), .int (nI tn), .int (bI false), .ref aR, .int rm, .int ga, .int fi, .int se, .int ex, .long ha])), (aB, .inl (cI, 60, .inl B0))] H := hP
            replace hD : va_D A [(o, .inr (4, [.int th, .ref aS, .ref aA, .ref aV, .int sm, .ref aB, .int (nI nn), .int (nI tn), .int (bI false), .ref aR, .int rm, .int ga, .int fi, .int se, .int ex, .long ha])), (aB, .inl (cI, 60, .inl B0))] := hD
            refine lv_aload_n hx hb dX6_word_70 rfl (lv_at hl 2 rfl) ?_
            refine lv_dup hx hb dX6_word_71 rfl ?_
            refine va_get (D := (dC, dI)) (ci := 4) (v := .int (nI tn)) (C := RX6) (T := TX6) (N := 16) hx hb hts hiX6 hown hK hP 0 rfl rfl 7 (by decide) hf138 (fun _ h9 => h9) rfl dX6_word_72 ?_
            refine lv_aload_n hx hb dX6_word_75 rfl (lv_at hl 2 rfl) ?_
            refine va_get (D := (dC, dI)) (ci := 4) (v := .int (bI false)) (C := RX6) (T := TX6) (N := 16) hx hb hts hiX6 hown hK hP 0 rfl rfl 8 (by decide) hf141 (fun _ h9 => h9) rfl dX6_word_76 ?_
            refine b_if_eq (tgt := 86) hx hb dX6_word_79 (by decide) (fun c_79 => ?_) (fun c_79 => absurd c_79 (by decide))
            refine lv_iconst (v := (nI 0)) hx hb dX6_word_86 (by decide) ?_
            refine n_iadd hx hb dX6_word_87 ?_
            refine va_put (D := (dC, dI)) (ci := 4) (v := .int (nI tn)) (ty := .int) (C := RX6) (T := TX6) (N := 16) hx hb hts hiX6 tyX6 tyX6_ok nmX6 hown hK hP hD hS 0 rfl rfl 7 (by decide) hf138 (fun _ h9 => h9) rfl (by decide +kernel) rfl rfl (Nat.le_of_ble_eq_true rfl) dX6_word_88 (fun H locs hP hD hS => ?_)
            replace hP : va_P (dC, dI) vwCl [(o, .inr (4, [.int th, .ref aS, .ref aA, .ref aV, .int sm, .ref aB, .int (nI nn), .int (nI tn), .int (bI false), .ref aR, .int rm, .int ga, .int fi, .int se, .int ex, .long ha])), (aB, .inl (cI, 60, .inl B0))] H := hP
            replace hD : va_D A [(o, .inr (4, [.int th, .ref aS, .ref aA, .ref aV, .int sm, .ref aB, .int (nI nn), .int (nI tn), .int (bI false), .ref aR, .int rm, .int ga, .int fi, .int se, .int ex, .long ha])), (aB, .inl (cI, 60, .inl B0))] := hD
            refine lv_iload_n hx hb dX6_word_91 rfl (lv_at hl 0 rfl) ?_
            refine lv_tableOut (tgt := 199) hx hb dX6_word_92 (by decide) (by decide) ?_
            refine lv_iload_n hx hb dX6_word_199 rfl (lv_at hl 0 rfl) ?_
            have ec_r200_1_o_7 : (nI tn) = (nI (((wWd B0 nn tn).2).2)) := by first | rfl | (rw [wWd, if_neg c_8, if_neg c_18, if_neg c_28, if_neg c_38, if_neg c_48])
            have ec_r200_1_o_8 : (bI false) = (bI (((wWd B0 nn tn).2).1)) := by first | rfl | (rw [wWd, if_neg c_8, if_neg c_18, if_neg c_28, if_neg c_38, if_neg c_48])
            have ew_r200_1 : ([(o, .inr (4, [.int th, .ref aS, .ref aA, .ref aV, .int sm, .ref aB, .int (nI nn), .int (nI tn), .int (bI false), .ref aR, .int rm, .int ga, .int fi, .int se, .int ex, .long ha])), (aB, .inl (cI, 60, .inl B0))] : va_W) = [(o, .inr (4, [.int th, .ref aS, .ref aA, .ref aV, .int sm, .ref aB, .int (nI nn), .int (nI (((wWd B0 nn tn).2).2)), .int (bI (((wWd B0 nn tn).2).1)), .ref aR, .int rm, .int ga, .int fi, .int se, .int ex, .long ha])), (aB, .inl (cI, 60, .inl B0))] := ((congrArg (fun z_ => ([(o, .inr (4, [.int th, .ref aS, .ref aA, .ref aV, .int sm, .ref aB, .int (nI nn), .int z_, .int (bI false), .ref aR, .int rm, .int ga, .int fi, .int se, .int ex, .long ha])), (aB, .inl (cI, 60, .inl B0))] : va_W)) ec_r200_1_o_7).trans (congrArg (fun z_ => ([(o, .inr (4, [.int th, .ref aS, .ref aA, .ref aV, .int sm, .ref aB, .int (nI nn), .int (nI (((wWd B0 nn tn).2).2)), .int z_, .ref aR, .int rm, .int ga, .int fi, .int se, .int ex, .long ha])), (aB, .inl (cI, 60, .inl B0))] : va_W)) ec_r200_1_o_8))
            have hP9 := (w_cgP ew_r200_1 hP)
            have hD9 := (w_cgD ew_r200_1 hD)
            exact W.iret (v := (nI 0)) hx hb hr (fun t ht hW => ⟨⟨(nI 0), (), rfl, (show (nI 0) = (nI ((wWd B0 nn tn).1)) from by first | rfl | (rw [wWd, if_neg c_8, if_neg c_18, if_neg c_28, if_neg c_38, if_neg c_48])), by rw [ht]; exact hP9, va_K.moved hW.alike hK, hD9⟩, hS.F ht⟩) hS.2.2 dX6_word_200
          · have hlt : tn < nn := sSg_lt (by rw [c_48]; decide)
            refine lv_iconst (v := (nI 5)) hx hb dX6_word_51 (by decide) ?_
            refine lv_goto (tgt := 56) hx hb dX6_word_52 (by decide) ?_
            refine lv_istore_n (lv' := [(2, .int (nI 5)), (1, .int (sSg B0 nn tn)), (0, .ref o)]) hx hb dX6_word_56 rfl hl (by decide) rfl (fun ls hl => ?_)
            refine lv_aload_n hx hb dX6_word_57 rfl (lv_at hl 2 rfl) ?_
            refine lv_iload_n hx hb dX6_word_58 rfl (lv_at hl 0 rfl) ?_
            refine n_if_eq (tgt := 66) hx hb dX6_word_59 (by decide) (by omega) (fun c_59 => absurd c_59 (by decide)) (fun c_59 => ?_)
            refine lv_iconst (v := (nI 1)) hx hb dX6_word_62 (by decide) ?_
            refine lv_goto (tgt := 67) hx hb dX6_word_63 (by decide) ?_
            refine va_put (D := (dC, dI)) (ci := 4) (v := .int (bI true)) (ty := .boolean) (C := RX6) (T := TX6) (N := 16) hx hb hts hiX6 tyX6 tyX6_ok nmX6 hown hK hP hD hS 0 rfl rfl 8 (by decide) hf141 (fun _ h9 => h9) rfl (by decide +kernel) (nar_bI _) (fit_bI _) (Nat.le_of_ble_eq_true rfl) dX6_word_67 (fun H locs hP hD hS => ?_)
            replace hP : va_P (dC, dI) vwCl [(o, .inr (4, [.int th, .ref aS, .ref aA, .ref aV, .int sm, .ref aB, .int (nI nn), .int (nI tn), .int (bI true), .ref aR, .int rm, .int ga, .int fi, .int se, .int ex, .long ha])), (aB, .inl (cI, 60, .inl B0))] H := hP
            replace hD : va_D A [(o, .inr (4, [.int th, .ref aS, .ref aA, .ref aV, .int sm, .ref aB, .int (nI nn), .int (nI tn), .int (bI true), .ref aR, .int rm, .int ga, .int fi, .int se, .int ex, .long ha])), (aB, .inl (cI, 60, .inl B0))] := hD
            refine lv_aload_n hx hb dX6_word_70 rfl (lv_at hl 2 rfl) ?_
            refine lv_dup hx hb dX6_word_71 rfl ?_
            refine va_get (D := (dC, dI)) (ci := 4) (v := .int (nI tn)) (C := RX6) (T := TX6) (N := 16) hx hb hts hiX6 hown hK hP 0 rfl rfl 7 (by decide) hf138 (fun _ h9 => h9) rfl dX6_word_72 ?_
            refine lv_aload_n hx hb dX6_word_75 rfl (lv_at hl 2 rfl) ?_
            refine va_get (D := (dC, dI)) (ci := 4) (v := .int (bI true)) (C := RX6) (T := TX6) (N := 16) hx hb hts hiX6 hown hK hP 0 rfl rfl 8 (by decide) hf141 (fun _ h9 => h9) rfl dX6_word_76 ?_
            refine b_if_eq (tgt := 86) hx hb dX6_word_79 (by decide) (fun c_79 => absurd c_79 (by decide)) (fun c_79 => ?_)
            refine lv_iconst (v := (nI 1)) hx hb dX6_word_82 (by decide) ?_
            refine lv_goto (tgt := 87) hx hb dX6_word_83 (by decide) ?_
            refine n_iadd hx hb dX6_word_87 ?_
            refine va_put (D := (dC, dI)) (ci := 4) (v := .int (nI (tn + 1))) (ty := .int) (C := RX6) (T := TX6) (N := 16) hx hb hts hiX6 tyX6 tyX6_ok nmX6 hown hK hP hD hS 0 rfl rfl 7 (by decide) hf138 (fun _ h9 => h9) rfl (by decide +kernel) rfl rfl (Nat.le_of_ble_eq_true rfl) dX6_word_88 (fun H locs hP hD hS => ?_)
            replace hP : va_P (dC, dI) vwCl [(o, .inr (4, [.int th, .ref aS, .ref aA, .ref aV, .int sm, .ref aB, .int (nI nn), .int (nI (tn + 1)), .int (bI true), .ref aR, .int rm, .int ga, .int fi, .int se, .int ex, .long ha])), (aB, .inl (cI, 60, .inl B0))] H := hP
            replace hD : va_D A [(o, .inr (4, [.int th, .ref aS, .ref aA, .ref aV, .int sm, .ref aB, .int (nI nn), .int (nI (tn + 1)), .int (bI true), .ref aR, .int rm, .int ga, .int fi, .int se, .int ex, .long ha])), (aB, .inl (cI, 60, .inl B0))] := hD
            refine lv_iload_n hx hb dX6_word_91 rfl (lv_at hl 0 rfl) ?_
            refine lv_tableIn (tgt := 184) (off := 92) hx hb dX6_word_92 (by decide) (by decide) rfl (by decide) ?_
            refine lv_aload_n hx hb dX6_word_184 rfl (lv_at hl 2 rfl) ?_
            refine lv_bipush (v := (nI 105)) hx hb dX6_word_185 (by decide) ?_
            refine lv_bipush (v := (nI 103)) hx hb dX6_word_187 (by decide) ?_
            refine lv_bipush (v := (nI 104)) hx hb dX6_word_189 (by decide) ?_
            refine lv_bipush (v := (nI 116)) hx hb dX6_word_191 (by decide) ?_
            have hPc := hP.sub (ws' := [(o, .inr (4, [.int th, .ref aS, .ref aA, .ref aV, .int sm, .ref aB, .int (nI nn), .int (nI (tn + 1)), .int (bI true), .ref aR, .int rm, .int ga, .int fi, .int se, .int ex, .long ha])), (aB, .inl (cI, 60, .inl B0))]) [0, 1] rfl
            have hDc := hD.sub (ws' := [(o, .inr (4, [.int th, .ref aS, .ref aA, .ref aV, .int sm, .ref aB, .int (nI nn), .int (nI (tn + 1)), .int (bI true), .ref aR, .int rm, .int ga, .int fi, .int se, .int ex, .long ha])), (aB, .inl (cI, 60, .inl B0))]) [0, 1] (by decide) rfl
            have hFc := va_free (wc := [(o, .inr (4, [.int th, .ref aS, .ref aA, .ref aV, .int sm, .ref aB, .int (nI nn), .int (nI (tn + 1)), .int (bI true), .ref aR, .int rm, .int ga, .int fi, .int se, .int ex, .long ha])), (aB, .inl (cI, 60, .inl B0))]) hD hS hA [0, 1] rfl
            refine va_callv (va_runV (As := [.int (nI 105), .int (nI 103), .int (nI 104), .int (nI 116)]) (rest := []) ⟨hx, hb, hml, hown, hts⟩ (kX6_rest l dC dI cI cV cW H.size o th aS aA aV sm aB true aR rm ga fi se ex ha B0 nn (tn + 1) 105 103 104 116 (hnn) (by omega) (by decide) (by decide)) (cwV 4 hts gX6_word_X6_rest rfl rfl rfl hdX6_rest ⟨Nat.le_of_ble_eq_true rfl, Nat.le_of_ble_eq_true rfl⟩) (pW_V hK hP hPc hDc 0 4 rfl rfl rfl) rfl rfl hl.1 rfl (lv_room (Nat.le_of_ble_eq_true rfl)) dX6_word_193 ⟨Nat.zero_le _, Nat.zero_le _⟩) hS (fun q _ h => hFc q h) hFc (fun u_ t_ H1 locs ht_ hvm_ hw_ hB_ hz_ hk_ hS => ?_)
            obtain ⟨hP1, -, hD1⟩ := hB_
            rw [ht_] at hP1
            obtain ⟨hP, hD⟩ := va_join (wr := []) (w1 := [(o, .inr (4, [.int th, .ref aS, .ref aA, .ref aV, .int sm, .ref aB, .int (nI nn), .int (nI ((wR B0 nn 105 103 104 116 (true, (tn + 1))).2)), .int (bI ((wR B0 nn 105 103 104 116 (true, (tn + 1))).1)), .ref aR, .int rm, .int ga, .int fi, .int se, .int ex, .long ha])), (aB, .inl (cI, 60, .inl B0))]) hP hD [0, 1] [] rfl rfl (by decide) (by decide) hk_ hFc hP1 hD1
            clear hP1 hD1 hPc hDc hFc hk_ hz_ hvm_ ht_
            generalize H1 = H at hP hS ⊢
            replace hP : va_P (dC, dI) vwCl [(o, .inr (4, [.int th, .ref aS, .ref aA, .ref aV, .int sm, .ref aB, .int (nI nn), .int (nI ((wR B0 nn 105 103 104 116 (true, (tn + 1))).2)), .int (bI ((wR B0 nn 105 103 104 116 (true, (tn + 1))).1)), .ref aR, .int rm, .int ga, .int fi, .int se, .int ex, .long ha])), (aB, .inl (cI, 60, .inl B0))] H := hP
            replace hD : va_D A [(o, .inr (4, [.int th, .ref aS, .ref aA, .ref aV, .int sm, .ref aB, .int (nI nn), .int (nI ((wR B0 nn 105 103 104 116 (true, (tn + 1))).2)), .int (bI ((wR B0 nn 105 103 104 116 (true, (tn + 1))).1)), .ref aR, .int rm, .int ga, .int fi, .int se, .int ex, .long ha])), (aB, .inl (cI, 60, .inl B0))] := hD
            refine W.widen (k := 0) (n := 0) (Nat.le_refl 0) (Nat.le_refl 0) ?_
            refine lv_goto (tgt := 199) hx hb dX6_word_196 (by decide) ?_
            refine lv_iload_n hx hb dX6_word_199 rfl (lv_at hl 0 rfl) ?_
            have ec_r200_2_o_7 : (nI ((wR B0 nn 105 103 104 116 (true, (tn + 1))).2)) = (nI (((wWd B0 nn tn).2).2)) := by first | rfl | (rw [wWd, if_neg c_8, if_neg c_18, if_neg c_28, if_neg c_38, if_pos c_48])
            have ec_r200_2_o_8 : (bI ((wR B0 nn 105 103 104 116 (true, (tn + 1))).1)) = (bI (((wWd B0 nn tn).2).1)) := by first | rfl | (rw [wWd, if_neg c_8, if_neg c_18, if_neg c_28, if_neg c_38, if_pos c_48])
            have ew_r200_2 : ([(o, .inr (4, [.int th, .ref aS, .ref aA, .ref aV, .int sm, .ref aB, .int (nI nn), .int (nI ((wR B0 nn 105 103 104 116 (true, (tn + 1))).2)), .int (bI ((wR B0 nn 105 103 104 116 (true, (tn + 1))).1)), .ref aR, .int rm, .int ga, .int fi, .int se, .int ex, .long ha])), (aB, .inl (cI, 60, .inl B0))] : va_W) = [(o, .inr (4, [.int th, .ref aS, .ref aA, .ref aV, .int sm, .ref aB, .int (nI nn), .int (nI (((wWd B0 nn tn).2).2)), .int (bI (((wWd B0 nn tn).2).1)), .ref aR, .int rm, .int ga, .int fi, .int se, .int ex, .long ha])), (aB, .inl (cI, 60, .inl B0))] := ((congrArg (fun z_ => ([(o, .inr (4, [.int th, .ref aS, .ref aA, .ref aV, .int sm, .ref aB, .int (nI nn), .int z_, .int (bI ((wR B0 nn 105 103 104 116 (true, (tn + 1))).1)), .ref aR, .int rm, .int ga, .int fi, .int se, .int ex, .long ha])), (aB, .inl (cI, 60, .inl B0))] : va_W)) ec_r200_2_o_7).trans (congrArg (fun z_ => ([(o, .inr (4, [.int th, .ref aS, .ref aA, .ref aV, .int sm, .ref aB, .int (nI nn), .int (nI (((wWd B0 nn tn).2).2)), .int z_, .ref aR, .int rm, .int ga, .int fi, .int se, .int ex, .long ha])), (aB, .inl (cI, 60, .inl B0))] : va_W)) ec_r200_2_o_8))
            have hP9 := (w_cgP ew_r200_2 hP)
            have hD9 := (w_cgD ew_r200_2 hD)
            exact W.iret (v := (nI 5)) hx hb hr (fun t ht hW => ⟨⟨(nI 5), (), rfl, (show (nI 5) = (nI ((wWd B0 nn tn).1)) from by first | rfl | (rw [wWd, if_neg c_8, if_neg c_18, if_neg c_28, if_neg c_38, if_pos c_48])), by rw [ht]; exact hP9, va_K.moved hW.alike hK, hD9⟩, hS.F ht⟩) hS.2.2 dX6_word_200
        · have hlt : tn < nn := sSg_lt (by rw [c_38]; decide)
          refine lv_iconst (v := (nI 4)) hx hb dX6_word_41 (by decide) ?_
          refine lv_goto (tgt := 56) hx hb dX6_word_42 (by decide) ?_
          refine lv_istore_n (lv' := [(2, .int (nI 4)), (1, .int (sSg B0 nn tn)), (0, .ref o)]) hx hb dX6_word_56 rfl hl (by decide) rfl (fun ls hl => ?_)
          refine lv_aload_n hx hb dX6_word_57 rfl (lv_at hl 2 rfl) ?_
          refine lv_iload_n hx hb dX6_word_58 rfl (lv_at hl 0 rfl) ?_
          refine n_if_eq (tgt := 66) hx hb dX6_word_59 (by decide) (by omega) (fun c_59 => absurd c_59 (by decide)) (fun c_59 => ?_)
          refine lv_iconst (v := (nI 1)) hx hb dX6_word_62 (by decide) ?_
          refine lv_goto (tgt := 67) hx hb dX6_word_63 (by decide) ?_
          refine va_put (D := (dC, dI)) (ci := 4) (v := .int (bI true)) (ty := .boolean) (C := RX6) (T := TX6) (N := 16) hx hb hts hiX6 tyX6 tyX6_ok nmX6 hown hK hP hD hS 0 rfl rfl 8 (by decide) hf141 (fun _ h9 => h9) rfl (by decide +kernel) (nar_bI _) (fit_bI _) (Nat.le_of_ble_eq_true rfl) dX6_word_67 (fun H locs hP hD hS => ?_)
          replace hP : va_P (dC, dI) vwCl [(o, .inr (4, [.int th, .ref aS, .ref aA, .ref aV, .int sm, .ref aB, .int (nI nn), .int (nI tn), .int (bI true), .ref aR, .int rm, .int ga, .int fi, .int se, .int ex, .long ha])), (aB, .inl (cI, 60, .inl B0))] H := hP
          replace hD : va_D A [(o, .inr (4, [.int th, .ref aS, .ref aA, .ref aV, .int sm, .ref aB, .int (nI nn), .int (nI tn), .int (bI true), .ref aR, .int rm, .int ga, .int fi, .int se, .int ex, .long ha])), (aB, .inl (cI, 60, .inl B0))] := hD
          refine lv_aload_n hx hb dX6_word_70 rfl (lv_at hl 2 rfl) ?_
          refine lv_dup hx hb dX6_word_71 rfl ?_
          refine va_get (D := (dC, dI)) (ci := 4) (v := .int (nI tn)) (C := RX6) (T := TX6) (N := 16) hx hb hts hiX6 hown hK hP 0 rfl rfl 7 (by decide) hf138 (fun _ h9 => h9) rfl dX6_word_72 ?_
          refine lv_aload_n hx hb dX6_word_75 rfl (lv_at hl 2 rfl) ?_
          refine va_get (D := (dC, dI)) (ci := 4) (v := .int (bI true)) (C := RX6) (T := TX6) (N := 16) hx hb hts hiX6 hown hK hP 0 rfl rfl 8 (by decide) hf141 (fun _ h9 => h9) rfl dX6_word_76 ?_
          refine b_if_eq (tgt := 86) hx hb dX6_word_79 (by decide) (fun c_79 => absurd c_79 (by decide)) (fun c_79 => ?_)
          refine lv_iconst (v := (nI 1)) hx hb dX6_word_82 (by decide) ?_
          refine lv_goto (tgt := 87) hx hb dX6_word_83 (by decide) ?_
          refine n_iadd hx hb dX6_word_87 ?_
          refine va_put (D := (dC, dI)) (ci := 4) (v := .int (nI (tn + 1))) (ty := .int) (C := RX6) (T := TX6) (N := 16) hx hb hts hiX6 tyX6 tyX6_ok nmX6 hown hK hP hD hS 0 rfl rfl 7 (by decide) hf138 (fun _ h9 => h9) rfl (by decide +kernel) rfl rfl (Nat.le_of_ble_eq_true rfl) dX6_word_88 (fun H locs hP hD hS => ?_)
          replace hP : va_P (dC, dI) vwCl [(o, .inr (4, [.int th, .ref aS, .ref aA, .ref aV, .int sm, .ref aB, .int (nI nn), .int (nI (tn + 1)), .int (bI true), .ref aR, .int rm, .int ga, .int fi, .int se, .int ex, .long ha])), (aB, .inl (cI, 60, .inl B0))] H := hP
          replace hD : va_D A [(o, .inr (4, [.int th, .ref aS, .ref aA, .ref aV, .int sm, .ref aB, .int (nI nn), .int (nI (tn + 1)), .int (bI true), .ref aR, .int rm, .int ga, .int fi, .int se, .int ex, .long ha])), (aB, .inl (cI, 60, .inl B0))] := hD
          refine lv_iload_n hx hb dX6_word_91 rfl (lv_at hl 0 rfl) ?_
          refine lv_tableIn (tgt := 169) (off := 77) hx hb dX6_word_92 (by decide) (by decide) rfl (by decide) ?_
          refine lv_aload_n hx hb dX6_word_169 rfl (lv_at hl 2 rfl) ?_
          refine lv_bipush (v := (nI 111)) hx hb dX6_word_170 (by decide) ?_
          refine lv_bipush (v := (nI 110)) hx hb dX6_word_172 (by decide) ?_
          refine lv_bipush (v := (nI 116)) hx hb dX6_word_174 (by decide) ?_
          refine lv_bipush (v := (nI 104)) hx hb dX6_word_176 (by decide) ?_
          have hPc := hP.sub (ws' := [(o, .inr (4, [.int th, .ref aS, .ref aA, .ref aV, .int sm, .ref aB, .int (nI nn), .int (nI (tn + 1)), .int (bI true), .ref aR, .int rm, .int ga, .int fi, .int se, .int ex, .long ha])), (aB, .inl (cI, 60, .inl B0))]) [0, 1] rfl
          have hDc := hD.sub (ws' := [(o, .inr (4, [.int th, .ref aS, .ref aA, .ref aV, .int sm, .ref aB, .int (nI nn), .int (nI (tn + 1)), .int (bI true), .ref aR, .int rm, .int ga, .int fi, .int se, .int ex, .long ha])), (aB, .inl (cI, 60, .inl B0))]) [0, 1] (by decide) rfl
          have hFc := va_free (wc := [(o, .inr (4, [.int th, .ref aS, .ref aA, .ref aV, .int sm, .ref aB, .int (nI nn), .int (nI (tn + 1)), .int (bI true), .ref aR, .int rm, .int ga, .int fi, .int se, .int ex, .long ha])), (aB, .inl (cI, 60, .inl B0))]) hD hS hA [0, 1] rfl
          refine va_callv (va_runV (As := [.int (nI 111), .int (nI 110), .int (nI 116), .int (nI 104)]) (rest := []) ⟨hx, hb, hml, hown, hts⟩ (kX6_rest l dC dI cI cV cW H.size o th aS aA aV sm aB true aR rm ga fi se ex ha B0 nn (tn + 1) 111 110 116 104 (hnn) (by omega) (by decide) (by decide)) (cwV 4 hts gX6_word_X6_rest rfl rfl rfl hdX6_rest ⟨Nat.le_of_ble_eq_true rfl, Nat.le_of_ble_eq_true rfl⟩) (pW_V hK hP hPc hDc 0 4 rfl rfl rfl) rfl rfl hl.1 rfl (lv_room (Nat.le_of_ble_eq_true rfl)) dX6_word_178 ⟨Nat.zero_le _, Nat.zero_le _⟩) hS (fun q _ h => hFc q h) hFc (fun u_ t_ H1 locs ht_ hvm_ hw_ hB_ hz_ hk_ hS => ?_)
          obtain ⟨hP1, -, hD1⟩ := hB_
          rw [ht_] at hP1
          obtain ⟨hP, hD⟩ := va_join (wr := []) (w1 := [(o, .inr (4, [.int th, .ref aS, .ref aA, .ref aV, .int sm, .ref aB, .int (nI nn), .int (nI ((wR B0 nn 111 110 116 104 (true, (tn + 1))).2)), .int (bI ((wR B0 nn 111 110 116 104 (true, (tn + 1))).1)), .ref aR, .int rm, .int ga, .int fi, .int se, .int ex, .long ha])), (aB, .inl (cI, 60, .inl B0))]) hP hD [0, 1] [] rfl rfl (by decide) (by decide) hk_ hFc hP1 hD1
          clear hP1 hD1 hPc hDc hFc hk_ hz_ hvm_ ht_
          generalize H1 = H at hP hS ⊢
          replace hP : va_P (dC, dI) vwCl [(o, .inr (4, [.int th, .ref aS, .ref aA, .ref aV, .int sm, .ref aB, .int (nI nn), .int (nI ((wR B0 nn 111 110 116 104 (true, (tn + 1))).2)), .int (bI ((wR B0 nn 111 110 116 104 (true, (tn + 1))).1)), .ref aR, .int rm, .int ga, .int fi, .int se, .int ex, .long ha])), (aB, .inl (cI, 60, .inl B0))] H := hP
          replace hD : va_D A [(o, .inr (4, [.int th, .ref aS, .ref aA, .ref aV, .int sm, .ref aB, .int (nI nn), .int (nI ((wR B0 nn 111 110 116 104 (true, (tn + 1))).2)), .int (bI ((wR B0 nn 111 110 116 104 (true, (tn + 1))).1)), .ref aR, .int rm, .int ga, .int fi, .int se, .int ex, .long ha])), (aB, .inl (cI, 60, .inl B0))] := hD
          refine W.widen (k := 0) (n := 0) (Nat.le_refl 0) (Nat.le_refl 0) ?_
          refine lv_goto (tgt := 199) hx hb dX6_word_181 (by decide) ?_
          refine lv_iload_n hx hb dX6_word_199 rfl (lv_at hl 0 rfl) ?_
          have ec_r200_3_o_7 : (nI ((wR B0 nn 111 110 116 104 (true, (tn + 1))).2)) = (nI (((wWd B0 nn tn).2).2)) := by first | rfl | (rw [wWd, if_neg c_8, if_neg c_18, if_neg c_28, if_pos c_38])
          have ec_r200_3_o_8 : (bI ((wR B0 nn 111 110 116 104 (true, (tn + 1))).1)) = (bI (((wWd B0 nn tn).2).1)) := by first | rfl | (rw [wWd, if_neg c_8, if_neg c_18, if_neg c_28, if_pos c_38])
          have ew_r200_3 : ([(o, .inr (4, [.int th, .ref aS, .ref aA, .ref aV, .int sm, .ref aB, .int (nI nn), .int (nI ((wR B0 nn 111 110 116 104 (true, (tn + 1))).2)), .int (bI ((wR B0 nn 111 110 116 104 (true, (tn + 1))).1)), .ref aR, .int rm, .int ga, .int fi, .int se, .int ex, .long ha])), (aB, .inl (cI, 60, .inl B0))] : va_W) = [(o, .inr (4, [.int th, .ref aS, .ref aA, .ref aV, .int sm, .ref aB, .int (nI nn), .int (nI (((wWd B0 nn tn).2).2)), .int (bI (((wWd B0 nn tn).2).1)), .ref aR, .int rm, .int ga, .int fi, .int se, .int ex, .long ha])), (aB, .inl (cI, 60, .inl B0))] := ((congrArg (fun z_ => ([(o, .inr (4, [.int th, .ref aS, .ref aA, .ref aV, .int sm, .ref aB, .int (nI nn), .int z_, .int (bI ((wR B0 nn 111 110 116 104 (true, (tn + 1))).1)), .ref aR, .int rm, .int ga, .int fi, .int se, .int ex, .long ha])), (aB, .inl (cI, 60, .inl B0))] : va_W)) ec_r200_3_o_7).trans (congrArg (fun z_ => ([(o, .inr (4, [.int th, .ref aS, .ref aA, .ref aV, .int sm, .ref aB, .int (nI nn), .int (nI (((wWd B0 nn tn).2).2)), .int z_, .ref aR, .int rm, .int ga, .int fi, .int se, .int ex, .long ha])), (aB, .inl (cI, 60, .inl B0))] : va_W)) ec_r200_3_o_8))
          have hP9 := (w_cgP ew_r200_3 hP)
          have hD9 := (w_cgD ew_r200_3 hD)
          exact W.iret (v := (nI 4)) hx hb hr (fun t ht hW => ⟨⟨(nI 4), (), rfl, (show (nI 4) = (nI ((wWd B0 nn tn).1)) from by first | rfl | (rw [wWd, if_neg c_8, if_neg c_18, if_neg c_28, if_pos c_38])), by rw [ht]; exact hP9, va_K.moved hW.alike hK, hD9⟩, hS.F ht⟩) hS.2.2 dX6_word_200
      · have hlt : tn < nn := sSg_lt (by rw [c_28]; decide)
        refine lv_iconst (v := (nI 3)) hx hb dX6_word_31 (by decide) ?_
        refine lv_goto (tgt := 56) hx hb dX6_word_32 (by decide) ?_
        refine lv_istore_n (lv' := [(2, .int (nI 3)), (1, .int (sSg B0 nn tn)), (0, .ref o)]) hx hb dX6_word_56 rfl hl (by decide) rfl (fun ls hl => ?_)
        refine lv_aload_n hx hb dX6_word_57 rfl (lv_at hl 2 rfl) ?_
        refine lv_iload_n hx hb dX6_word_58 rfl (lv_at hl 0 rfl) ?_
        refine n_if_eq (tgt := 66) hx hb dX6_word_59 (by decide) (by omega) (fun c_59 => absurd c_59 (by decide)) (fun c_59 => ?_)
        refine lv_iconst (v := (nI 1)) hx hb dX6_word_62 (by decide) ?_
        refine lv_goto (tgt := 67) hx hb dX6_word_63 (by decide) ?_
        refine va_put (D := (dC, dI)) (ci := 4) (v := .int (bI true)) (ty := .boolean) (C := RX6) (T := TX6) (N := 16) hx hb hts hiX6 tyX6 tyX6_ok nmX6 hown hK hP hD hS 0 rfl rfl 8 (by decide) hf141 (fun _ h9 => h9) rfl (by decide +kernel) (nar_bI _) (fit_bI _) (Nat.le_of_ble_eq_true rfl) dX6_word_67 (fun H locs hP hD hS => ?_)
        replace hP : va_P (dC, dI) vwCl [(o, .inr (4, [.int th, .ref aS, .ref aA, .ref aV, .int sm, .ref aB, .int (nI nn), .int (nI tn), .int (bI true), .ref aR, .int rm, .int ga, .int fi, .int se, .int ex, .long ha])), (aB, .inl (cI, 60, .inl B0))] H := hP
        replace hD : va_D A [(o, .inr (4, [.int th, .ref aS, .ref aA, .ref aV, .int sm, .ref aB, .int (nI nn), .int (nI tn), .int (bI true), .ref aR, .int rm, .int ga, .int fi, .int se, .int ex, .long ha])), (aB, .inl (cI, 60, .inl B0))] := hD
        refine lv_aload_n hx hb dX6_word_70 rfl (lv_at hl 2 rfl) ?_
        refine lv_dup hx hb dX6_word_71 rfl ?_
        refine va_get (D := (dC, dI)) (ci := 4) (v := .int (nI tn)) (C := RX6) (T := TX6) (N := 16) hx hb hts hiX6 hown hK hP 0 rfl rfl 7 (by decide) hf138 (fun _ h9 => h9) rfl dX6_word_72 ?_
        refine lv_aload_n hx hb dX6_word_75 rfl (lv_at hl 2 rfl) ?_
        refine va_get (D := (dC, dI)) (ci := 4) (v := .int (bI true)) (C := RX6) (T := TX6) (N := 16) hx hb hts hiX6 hown hK hP 0 rfl rfl 8 (by decide) hf141 (fun _ h9 => h9) rfl dX6_word_76 ?_
        refine b_if_eq (tgt := 86) hx hb dX6_word_79 (by decide) (fun c_79 => absurd c_79 (by decide)) (fun c_79 => ?_)
        refine lv_iconst (v := (nI 1)) hx hb dX6_word_82 (by decide) ?_
        refine lv_goto (tgt := 87) hx hb dX6_word_83 (by decide) ?_
        refine n_iadd hx hb dX6_word_87 ?_
        refine va_put (D := (dC, dI)) (ci := 4) (v := .int (nI (tn + 1))) (ty := .int) (C := RX6) (T := TX6) (N := 16) hx hb hts hiX6 tyX6 tyX6_ok nmX6 hown hK hP hD hS 0 rfl rfl 7 (by decide) hf138 (fun _ h9 => h9) rfl (by decide +kernel) rfl rfl (Nat.le_of_ble_eq_true rfl) dX6_word_88 (fun H locs hP hD hS => ?_)
        replace hP : va_P (dC, dI) vwCl [(o, .inr (4, [.int th, .ref aS, .ref aA, .ref aV, .int sm, .ref aB, .int (nI nn), .int (nI (tn + 1)), .int (bI true), .ref aR, .int rm, .int ga, .int fi, .int se, .int ex, .long ha])), (aB, .inl (cI, 60, .inl B0))] H := hP
        replace hD : va_D A [(o, .inr (4, [.int th, .ref aS, .ref aA, .ref aV, .int sm, .ref aB, .int (nI nn), .int (nI (tn + 1)), .int (bI true), .ref aR, .int rm, .int ga, .int fi, .int se, .int ex, .long ha])), (aB, .inl (cI, 60, .inl B0))] := hD
        refine lv_iload_n hx hb dX6_word_91 rfl (lv_at hl 0 rfl) ?_
        refine lv_tableIn (tgt := 155) (off := 63) hx hb dX6_word_92 (by decide) (by decide) rfl (by decide) ?_
        refine lv_aload_n hx hb dX6_word_155 rfl (lv_at hl 2 rfl) ?_
        refine lv_bipush (v := (nI 111)) hx hb dX6_word_156 (by decide) ?_
        refine lv_bipush (v := (nI 115)) hx hb dX6_word_158 (by decide) ?_
        refine lv_bipush (v := (nI 101)) hx hb dX6_word_160 (by decide) ?_
        refine lv_iconst (v := (nI 0)) hx hb dX6_word_162 (by decide) ?_
        have hPc := hP.sub (ws' := [(o, .inr (4, [.int th, .ref aS, .ref aA, .ref aV, .int sm, .ref aB, .int (nI nn), .int (nI (tn + 1)), .int (bI true), .ref aR, .int rm, .int ga, .int fi, .int se, .int ex, .long ha])), (aB, .inl (cI, 60, .inl B0))]) [0, 1] rfl
        have hDc := hD.sub (ws' := [(o, .inr (4, [.int th, .ref aS, .ref aA, .ref aV, .int sm, .ref aB, .int (nI nn), .int (nI (tn + 1)), .int (bI true), .ref aR, .int rm, .int ga, .int fi, .int se, .int ex, .long ha])), (aB, .inl (cI, 60, .inl B0))]) [0, 1] (by decide) rfl
        have hFc := va_free (wc := [(o, .inr (4, [.int th, .ref aS, .ref aA, .ref aV, .int sm, .ref aB, .int (nI nn), .int (nI (tn + 1)), .int (bI true), .ref aR, .int rm, .int ga, .int fi, .int se, .int ex, .long ha])), (aB, .inl (cI, 60, .inl B0))]) hD hS hA [0, 1] rfl
        refine va_callv (va_runV (As := [.int (nI 111), .int (nI 115), .int (nI 101), .int (nI 0)]) (rest := []) ⟨hx, hb, hml, hown, hts⟩ (kX6_rest l dC dI cI cV cW H.size o th aS aA aV sm aB true aR rm ga fi se ex ha B0 nn (tn + 1) 111 115 101 0 (hnn) (by omega) (by decide) (by decide)) (cwV 4 hts gX6_word_X6_rest rfl rfl rfl hdX6_rest ⟨Nat.le_of_ble_eq_true rfl, Nat.le_of_ble_eq_true rfl⟩) (pW_V hK hP hPc hDc 0 4 rfl rfl rfl) rfl rfl hl.1 rfl (lv_room (Nat.le_of_ble_eq_true rfl)) dX6_word_163 ⟨Nat.zero_le _, Nat.zero_le _⟩) hS (fun q _ h => hFc q h) hFc (fun u_ t_ H1 locs ht_ hvm_ hw_ hB_ hz_ hk_ hS => ?_)
        obtain ⟨hP1, -, hD1⟩ := hB_
        rw [ht_] at hP1
        obtain ⟨hP, hD⟩ := va_join (wr := []) (w1 := [(o, .inr (4, [.int th, .ref aS, .ref aA, .ref aV, .int sm, .ref aB, .int (nI nn), .int (nI ((wR B0 nn 111 115 101 0 (true, (tn + 1))).2)), .int (bI ((wR B0 nn 111 115 101 0 (true, (tn + 1))).1)), .ref aR, .int rm, .int ga, .int fi, .int se, .int ex, .long ha])), (aB, .inl (cI, 60, .inl B0))]) hP hD [0, 1] [] rfl rfl (by decide) (by decide) hk_ hFc hP1 hD1
        clear hP1 hD1 hPc hDc hFc hk_ hz_ hvm_ ht_
        generalize H1 = H at hP hS ⊢
        replace hP : va_P (dC, dI) vwCl [(o, .inr (4, [.int th, .ref aS, .ref aA, .ref aV, .int sm, .ref aB, .int (nI nn), .int (nI ((wR B0 nn 111 115 101 0 (true, (tn + 1))).2)), .int (bI ((wR B0 nn 111 115 101 0 (true, (tn + 1))).1)), .ref aR, .int rm, .int ga, .int fi, .int se, .int ex, .long ha])), (aB, .inl (cI, 60, .inl B0))] H := hP
        replace hD : va_D A [(o, .inr (4, [.int th, .ref aS, .ref aA, .ref aV, .int sm, .ref aB, .int (nI nn), .int (nI ((wR B0 nn 111 115 101 0 (true, (tn + 1))).2)), .int (bI ((wR B0 nn 111 115 101 0 (true, (tn + 1))).1)), .ref aR, .int rm, .int ga, .int fi, .int se, .int ex, .long ha])), (aB, .inl (cI, 60, .inl B0))] := hD
        refine W.widen (k := 0) (n := 0) (Nat.le_refl 0) (Nat.le_refl 0) ?_
        refine lv_goto (tgt := 199) hx hb dX6_word_166 (by decide) ?_
        refine lv_iload_n hx hb dX6_word_199 rfl (lv_at hl 0 rfl) ?_
        have ec_r200_4_o_7 : (nI ((wR B0 nn 111 115 101 0 (true, (tn + 1))).2)) = (nI (((wWd B0 nn tn).2).2)) := by first | rfl | (rw [wWd, if_neg c_8, if_neg c_18, if_pos c_28])
        have ec_r200_4_o_8 : (bI ((wR B0 nn 111 115 101 0 (true, (tn + 1))).1)) = (bI (((wWd B0 nn tn).2).1)) := by first | rfl | (rw [wWd, if_neg c_8, if_neg c_18, if_pos c_28])
        have ew_r200_4 : ([(o, .inr (4, [.int th, .ref aS, .ref aA, .ref aV, .int sm, .ref aB, .int (nI nn), .int (nI ((wR B0 nn 111 115 101 0 (true, (tn + 1))).2)), .int (bI ((wR B0 nn 111 115 101 0 (true, (tn + 1))).1)), .ref aR, .int rm, .int ga, .int fi, .int se, .int ex, .long ha])), (aB, .inl (cI, 60, .inl B0))] : va_W) = [(o, .inr (4, [.int th, .ref aS, .ref aA, .ref aV, .int sm, .ref aB, .int (nI nn), .int (nI (((wWd B0 nn tn).2).2)), .int (bI (((wWd B0 nn tn).2).1)), .ref aR, .int rm, .int ga, .int fi, .int se, .int ex, .long ha])), (aB, .inl (cI, 60, .inl B0))] := ((congrArg (fun z_ => ([(o, .inr (4, [.int th, .ref aS, .ref aA, .ref aV, .int sm, .ref aB, .int (nI nn), .int z_, .int (bI ((wR B0 nn 111 115 101 0 (true, (tn + 1))).1)), .ref aR, .int rm, .int ga, .int fi, .int se, .int ex, .long ha])), (aB, .inl (cI, 60, .inl B0))] : va_W)) ec_r200_4_o_7).trans (congrArg (fun z_ => ([(o, .inr (4, [.int th, .ref aS, .ref aA, .ref aV, .int sm, .ref aB, .int (nI nn), .int (nI (((wWd B0 nn tn).2).2)), .int z_, .ref aR, .int rm, .int ga, .int fi, .int se, .int ex, .long ha])), (aB, .inl (cI, 60, .inl B0))] : va_W)) ec_r200_4_o_8))
        have hP9 := (w_cgP ew_r200_4 hP)
        have hD9 := (w_cgD ew_r200_4 hD)
        exact W.iret (v := (nI 3)) hx hb hr (fun t ht hW => ⟨⟨(nI 3), (), rfl, (show (nI 3) = (nI ((wWd B0 nn tn).1)) from by first | rfl | (rw [wWd, if_neg c_8, if_neg c_18, if_pos c_28])), by rw [ht]; exact hP9, va_K.moved hW.alike hK, hD9⟩, hS.F ht⟩) hS.2.2 dX6_word_200
    · have hlt : tn < nn := sSg_lt (by rw [c_18]; decide)
      refine lv_iconst (v := (nI 2)) hx hb dX6_word_21 (by decide) ?_
      refine lv_goto (tgt := 56) hx hb dX6_word_22 (by decide) ?_
      refine lv_istore_n (lv' := [(2, .int (nI 2)), (1, .int (sSg B0 nn tn)), (0, .ref o)]) hx hb dX6_word_56 rfl hl (by decide) rfl (fun ls hl => ?_)
      refine lv_aload_n hx hb dX6_word_57 rfl (lv_at hl 2 rfl) ?_
      refine lv_iload_n hx hb dX6_word_58 rfl (lv_at hl 0 rfl) ?_
      refine n_if_eq (tgt := 66) hx hb dX6_word_59 (by decide) (by omega) (fun c_59 => absurd c_59 (by decide)) (fun c_59 => ?_)
      refine lv_iconst (v := (nI 1)) hx hb dX6_word_62 (by decide) ?_
      refine lv_goto (tgt := 67) hx hb dX6_word_63 (by decide) ?_
      refine va_put (D := (dC, dI)) (ci := 4) (v := .int (bI true)) (ty := .boolean) (C := RX6) (T := TX6) (N := 16) hx hb hts hiX6 tyX6 tyX6_ok nmX6 hown hK hP hD hS 0 rfl rfl 8 (by decide) hf141 (fun _ h9 => h9) rfl (by decide +kernel) (nar_bI _) (fit_bI _) (Nat.le_of_ble_eq_true rfl) dX6_word_67 (fun H locs hP hD hS => ?_)
      replace hP : va_P (dC, dI) vwCl [(o, .inr (4, [.int th, .ref aS, .ref aA, .ref aV, .int sm, .ref aB, .int (nI nn), .int (nI tn), .int (bI true), .ref aR, .int rm, .int ga, .int fi, .int se, .int ex, .long ha])), (aB, .inl (cI, 60, .inl B0))] H := hP
      replace hD : va_D A [(o, .inr (4, [.int th, .ref aS, .ref aA, .ref aV, .int sm, .ref aB, .int (nI nn), .int (nI tn), .int (bI true), .ref aR, .int rm, .int ga, .int fi, .int se, .int ex, .long ha])), (aB, .inl (cI, 60, .inl B0))] := hD
      refine lv_aload_n hx hb dX6_word_70 rfl (lv_at hl 2 rfl) ?_
      refine lv_dup hx hb dX6_word_71 rfl ?_
      refine va_get (D := (dC, dI)) (ci := 4) (v := .int (nI tn)) (C := RX6) (T := TX6) (N := 16) hx hb hts hiX6 hown hK hP 0 rfl rfl 7 (by decide) hf138 (fun _ h9 => h9) rfl dX6_word_72 ?_
      refine lv_aload_n hx hb dX6_word_75 rfl (lv_at hl 2 rfl) ?_
      refine va_get (D := (dC, dI)) (ci := 4) (v := .int (bI true)) (C := RX6) (T := TX6) (N := 16) hx hb hts hiX6 hown hK hP 0 rfl rfl 8 (by decide) hf141 (fun _ h9 => h9) rfl dX6_word_76 ?_
      refine b_if_eq (tgt := 86) hx hb dX6_word_79 (by decide) (fun c_79 => absurd c_79 (by decide)) (fun c_79 => ?_)
      refine lv_iconst (v := (nI 1)) hx hb dX6_word_82 (by decide) ?_
      refine lv_goto (tgt := 87) hx hb dX6_word_83 (by decide) ?_
      refine n_iadd hx hb dX6_word_87 ?_
      refine va_put (D := (dC, dI)) (ci := 4) (v := .int (nI (tn + 1))) (ty := .int) (C := RX6) (T := TX6) (N := 16) hx hb hts hiX6 tyX6 tyX6_ok nmX6 hown hK hP hD hS 0 rfl rfl 7 (by decide) hf138 (fun _ h9 => h9) rfl (by decide +kernel) rfl rfl (Nat.le_of_ble_eq_true rfl) dX6_word_88 (fun H locs hP hD hS => ?_)
      replace hP : va_P (dC, dI) vwCl [(o, .inr (4, [.int th, .ref aS, .ref aA, .ref aV, .int sm, .ref aB, .int (nI nn), .int (nI (tn + 1)), .int (bI true), .ref aR, .int rm, .int ga, .int fi, .int se, .int ex, .long ha])), (aB, .inl (cI, 60, .inl B0))] H := hP
      replace hD : va_D A [(o, .inr (4, [.int th, .ref aS, .ref aA, .ref aV, .int sm, .ref aB, .int (nI nn), .int (nI (tn + 1)), .int (bI true), .ref aR, .int rm, .int ga, .int fi, .int se, .int ex, .long ha])), (aB, .inl (cI, 60, .inl B0))] := hD
      refine lv_iload_n hx hb dX6_word_91 rfl (lv_at hl 0 rfl) ?_
      refine lv_tableIn (tgt := 141) (off := 49) hx hb dX6_word_92 (by decide) (by decide) rfl (by decide) ?_
      refine lv_aload_n hx hb dX6_word_141 rfl (lv_at hl 2 rfl) ?_
      refine lv_bipush (v := (nI 97)) hx hb dX6_word_142 (by decide) ?_
      refine lv_bipush (v := (nI 108)) hx hb dX6_word_144 (by decide) ?_
      refine lv_bipush (v := (nI 108)) hx hb dX6_word_146 (by decide) ?_
      refine lv_iconst (v := (nI 0)) hx hb dX6_word_148 (by decide) ?_
      have hPc := hP.sub (ws' := [(o, .inr (4, [.int th, .ref aS, .ref aA, .ref aV, .int sm, .ref aB, .int (nI nn), .int (nI (tn + 1)), .int (bI true), .ref aR, .int rm, .int ga, .int fi, .int se, .int ex, .long ha])), (aB, .inl (cI, 60, .inl B0))]) [0, 1] rfl
      have hDc := hD.sub (ws' := [(o, .inr (4, [.int th, .ref aS, .ref aA, .ref aV, .int sm, .ref aB, .int (nI nn), .int (nI (tn + 1)), .int (bI true), .ref aR, .int rm, .int ga, .int fi, .int se, .int ex, .long ha])), (aB, .inl (cI, 60, .inl B0))]) [0, 1] (by decide) rfl
      have hFc := va_free (wc := [(o, .inr (4, [.int th, .ref aS, .ref aA, .ref aV, .int sm, .ref aB, .int (nI nn), .int (nI (tn + 1)), .int (bI true), .ref aR, .int rm, .int ga, .int fi, .int se, .int ex, .long ha])), (aB, .inl (cI, 60, .inl B0))]) hD hS hA [0, 1] rfl
      refine va_callv (va_runV (As := [.int (nI 97), .int (nI 108), .int (nI 108), .int (nI 0)]) (rest := []) ⟨hx, hb, hml, hown, hts⟩ (kX6_rest l dC dI cI cV cW H.size o th aS aA aV sm aB true aR rm ga fi se ex ha B0 nn (tn + 1) 97 108 108 0 (hnn) (by omega) (by decide) (by decide)) (cwV 4 hts gX6_word_X6_rest rfl rfl rfl hdX6_rest ⟨Nat.le_of_ble_eq_true rfl, Nat.le_of_ble_eq_true rfl⟩) (pW_V hK hP hPc hDc 0 4 rfl rfl rfl) rfl rfl hl.1 rfl (lv_room (Nat.le_of_ble_eq_true rfl)) dX6_word_149 ⟨Nat.zero_le _, Nat.zero_le _⟩) hS (fun q _ h => hFc q h) hFc (fun u_ t_ H1 locs ht_ hvm_ hw_ hB_ hz_ hk_ hS => ?_)
      obtain ⟨hP1, -, hD1⟩ := hB_
      rw [ht_] at hP1
      obtain ⟨hP, hD⟩ := va_join (wr := []) (w1 := [(o, .inr (4, [.int th, .ref aS, .ref aA, .ref aV, .int sm, .ref aB, .int (nI nn), .int (nI ((wR B0 nn 97 108 108 0 (true, (tn + 1))).2)), .int (bI ((wR B0 nn 97 108 108 0 (true, (tn + 1))).1)), .ref aR, .int rm, .int ga, .int fi, .int se, .int ex, .long ha])), (aB, .inl (cI, 60, .inl B0))]) hP hD [0, 1] [] rfl rfl (by decide) (by decide) hk_ hFc hP1 hD1
      clear hP1 hD1 hPc hDc hFc hk_ hz_ hvm_ ht_
      generalize H1 = H at hP hS ⊢
      replace hP : va_P (dC, dI) vwCl [(o, .inr (4, [.int th, .ref aS, .ref aA, .ref aV, .int sm, .ref aB, .int (nI nn), .int (nI ((wR B0 nn 97 108 108 0 (true, (tn + 1))).2)), .int (bI ((wR B0 nn 97 108 108 0 (true, (tn + 1))).1)), .ref aR, .int rm, .int ga, .int fi, .int se, .int ex, .long ha])), (aB, .inl (cI, 60, .inl B0))] H := hP
      replace hD : va_D A [(o, .inr (4, [.int th, .ref aS, .ref aA, .ref aV, .int sm, .ref aB, .int (nI nn), .int (nI ((wR B0 nn 97 108 108 0 (true, (tn + 1))).2)), .int (bI ((wR B0 nn 97 108 108 0 (true, (tn + 1))).1)), .ref aR, .int rm, .int ga, .int fi, .int se, .int ex, .long ha])), (aB, .inl (cI, 60, .inl B0))] := hD
      refine W.widen (k := 0) (n := 0) (Nat.le_refl 0) (Nat.le_refl 0) ?_
      refine lv_goto (tgt := 199) hx hb dX6_word_152 (by decide) ?_
      refine lv_iload_n hx hb dX6_word_199 rfl (lv_at hl 0 rfl) ?_
      have ec_r200_5_o_7 : (nI ((wR B0 nn 97 108 108 0 (true, (tn + 1))).2)) = (nI (((wWd B0 nn tn).2).2)) := by first | rfl | (rw [wWd, if_neg c_8, if_pos c_18])
      have ec_r200_5_o_8 : (bI ((wR B0 nn 97 108 108 0 (true, (tn + 1))).1)) = (bI (((wWd B0 nn tn).2).1)) := by first | rfl | (rw [wWd, if_neg c_8, if_pos c_18])
      have ew_r200_5 : ([(o, .inr (4, [.int th, .ref aS, .ref aA, .ref aV, .int sm, .ref aB, .int (nI nn), .int (nI ((wR B0 nn 97 108 108 0 (true, (tn + 1))).2)), .int (bI ((wR B0 nn 97 108 108 0 (true, (tn + 1))).1)), .ref aR, .int rm, .int ga, .int fi, .int se, .int ex, .long ha])), (aB, .inl (cI, 60, .inl B0))] : va_W) = [(o, .inr (4, [.int th, .ref aS, .ref aA, .ref aV, .int sm, .ref aB, .int (nI nn), .int (nI (((wWd B0 nn tn).2).2)), .int (bI (((wWd B0 nn tn).2).1)), .ref aR, .int rm, .int ga, .int fi, .int se, .int ex, .long ha])), (aB, .inl (cI, 60, .inl B0))] := ((congrArg (fun z_ => ([(o, .inr (4, [.int th, .ref aS, .ref aA, .ref aV, .int sm, .ref aB, .int (nI nn), .int z_, .int (bI ((wR B0 nn 97 108 108 0 (true, (tn + 1))).1)), .ref aR, .int rm, .int ga, .int fi, .int se, .int ex, .long ha])), (aB, .inl (cI, 60, .inl B0))] : va_W)) ec_r200_5_o_7).trans (congrArg (fun z_ => ([(o, .inr (4, [.int th, .ref aS, .ref aA, .ref aV, .int sm, .ref aB, .int (nI nn), .int (nI (((wWd B0 nn tn).2).2)), .int z_, .ref aR, .int rm, .int ga, .int fi, .int se, .int ex, .long ha])), (aB, .inl (cI, 60, .inl B0))] : va_W)) ec_r200_5_o_8))
      have hP9 := (w_cgP ew_r200_5 hP)
      have hD9 := (w_cgD ew_r200_5 hD)
      exact W.iret (v := (nI 2)) hx hb hr (fun t ht hW => ⟨⟨(nI 2), (), rfl, (show (nI 2) = (nI ((wWd B0 nn tn).1)) from by first | rfl | (rw [wWd, if_neg c_8, if_pos c_18])), by rw [ht]; exact hP9, va_K.moved hW.alike hK, hD9⟩, hS.F ht⟩) hS.2.2 dX6_word_200
  · have hlt : tn < nn := sSg_lt (by rw [c_8]; decide)
    refine lv_iconst (v := (nI 1)) hx hb dX6_word_11 (by decide) ?_
    refine lv_goto (tgt := 56) hx hb dX6_word_12 (by decide) ?_
    refine lv_istore_n (lv' := [(2, .int (nI 1)), (1, .int (sSg B0 nn tn)), (0, .ref o)]) hx hb dX6_word_56 rfl hl (by decide) rfl (fun ls hl => ?_)
    refine lv_aload_n hx hb dX6_word_57 rfl (lv_at hl 2 rfl) ?_
    refine lv_iload_n hx hb dX6_word_58 rfl (lv_at hl 0 rfl) ?_
    refine n_if_eq (tgt := 66) hx hb dX6_word_59 (by decide) (by omega) (fun c_59 => absurd c_59 (by decide)) (fun c_59 => ?_)
    refine lv_iconst (v := (nI 1)) hx hb dX6_word_62 (by decide) ?_
    refine lv_goto (tgt := 67) hx hb dX6_word_63 (by decide) ?_
    refine va_put (D := (dC, dI)) (ci := 4) (v := .int (bI true)) (ty := .boolean) (C := RX6) (T := TX6) (N := 16) hx hb hts hiX6 tyX6 tyX6_ok nmX6 hown hK hP hD hS 0 rfl rfl 8 (by decide) hf141 (fun _ h9 => h9) rfl (by decide +kernel) (nar_bI _) (fit_bI _) (Nat.le_of_ble_eq_true rfl) dX6_word_67 (fun H locs hP hD hS => ?_)
    replace hP : va_P (dC, dI) vwCl [(o, .inr (4, [.int th, .ref aS, .ref aA, .ref aV, .int sm, .ref aB, .int (nI nn), .int (nI tn), .int (bI true), .ref aR, .int rm, .int ga, .int fi, .int se, .int ex, .long ha])), (aB, .inl (cI, 60, .inl B0))] H := hP
    replace hD : va_D A [(o, .inr (4, [.int th, .ref aS, .ref aA, .ref aV, .int sm, .ref aB, .int (nI nn), .int (nI tn), .int (bI true), .ref aR, .int rm, .int ga, .int fi, .int se, .int ex, .long ha])), (aB, .inl (cI, 60, .inl B0))] := hD
    refine lv_aload_n hx hb dX6_word_70 rfl (lv_at hl 2 rfl) ?_
    refine lv_dup hx hb dX6_word_71 rfl ?_
    refine va_get (D := (dC, dI)) (ci := 4) (v := .int (nI tn)) (C := RX6) (T := TX6) (N := 16) hx hb hts hiX6 hown hK hP 0 rfl rfl 7 (by decide) hf138 (fun _ h9 => h9) rfl dX6_word_72 ?_
    refine lv_aload_n hx hb dX6_word_75 rfl (lv_at hl 2 rfl) ?_
    refine va_get (D := (dC, dI)) (ci := 4) (v := .int (bI true)) (C := RX6) (T := TX6) (N := 16) hx hb hts hiX6 hown hK hP 0 rfl rfl 8 (by decide) hf141 (fun _ h9 => h9) rfl dX6_word_76 ?_
    refine b_if_eq (tgt := 86) hx hb dX6_word_79 (by decide) (fun c_79 => absurd c_79 (by decide)) (fun c_79 => ?_)
    refine lv_iconst (v := (nI 1)) hx hb dX6_word_82 (by decide) ?_
    refine lv_goto (tgt := 87) hx hb dX6_word_83 (by decide) ?_
    refine n_iadd hx hb dX6_word_87 ?_
    refine va_put (D := (dC, dI)) (ci := 4) (v := .int (nI (tn + 1))) (ty := .int) (C := RX6) (T := TX6) (N := 16) hx hb hts hiX6 tyX6 tyX6_ok nmX6 hown hK hP hD hS 0 rfl rfl 7 (by decide) hf138 (fun _ h9 => h9) rfl (by decide +kernel) rfl rfl (Nat.le_of_ble_eq_true rfl) dX6_word_88 (fun H locs hP hD hS => ?_)
    replace hP : va_P (dC, dI) vwCl [(o, .inr (4, [.int th, .ref aS, .ref aA, .ref aV, .int sm, .ref aB, .int (nI nn), .int (nI (tn + 1)), .int (bI true), .ref aR, .int rm, .int ga, .int fi, .int se, .int ex, .long ha])), (aB, .inl (cI, 60, .inl B0))] H := hP
    replace hD : va_D A [(o, .inr (4, [.int th, .ref aS, .ref aA, .ref aV, .int sm, .ref aB, .int (nI nn), .int (nI (tn + 1)), .int (bI true), .ref aR, .int rm, .int ga, .int fi, .int se, .int ex, .long ha])), (aB, .inl (cI, 60, .inl B0))] := hD
    refine lv_iload_n hx hb dX6_word_91 rfl (lv_at hl 0 rfl) ?_
    refine lv_tableIn (tgt := 128) (off := 36) hx hb dX6_word_92 (by decide) (by decide) rfl (by decide) ?_
    refine lv_aload_n hx hb dX6_word_128 rfl (lv_at hl 2 rfl) ?_
    refine lv_bipush (v := (nI 100)) hx hb dX6_word_129 (by decide) ?_
    refine lv_bipush (v := (nI 100)) hx hb dX6_word_131 (by decide) ?_
    refine lv_iconst (v := (nI 0)) hx hb dX6_word_133 (by decide) ?_
    refine lv_iconst (v := (nI 0)) hx hb dX6_word_134 (by decide) ?_
    have hPc := hP.sub (ws' := [(o, .inr (4, [.int th, .ref aS, .ref aA, .ref aV, .int sm, .ref aB, .int (nI nn), .int (nI (tn + 1)), .int (bI true), .ref aR, .int rm, .int ga, .int fi, .int se, .int ex, .long ha])), (aB, .inl (cI, 60, .inl B0))]) [0, 1] rfl
    have hDc := hD.sub (ws' := [(o, .inr (4, [.int th, .ref aS, .ref aA, .ref aV, .int sm, .ref aB, .int (nI nn), .int (nI (tn + 1)), .int (bI true), .ref aR, .int rm, .int ga, .int fi, .int se, .int ex, .long ha])), (aB, .inl (cI, 60, .inl B0))]) [0, 1] (by decide) rfl
    have hFc := va_free (wc := [(o, .inr (4, [.int th, .ref aS, .ref aA, .ref aV, .int sm, .ref aB, .int (nI nn), .int (nI (tn + 1)), .int (bI true), .ref aR, .int rm, .int ga, .int fi, .int se, .int ex, .long ha])), (aB, .inl (cI, 60, .inl B0))]) hD hS hA [0, 1] rfl
    refine va_callv (va_runV (As := [.int (nI 100), .int (nI 100), .int (nI 0), .int (nI 0)]) (rest := []) ⟨hx, hb, hml, hown, hts⟩ (kX6_rest l dC dI cI cV cW H.size o th aS aA aV sm aB true aR rm ga fi se ex ha B0 nn (tn + 1) 100 100 0 0 (hnn) (by omega) (by decide) (by decide)) (cwV 4 hts gX6_word_X6_rest rfl rfl rfl hdX6_rest ⟨Nat.le_of_ble_eq_true rfl, Nat.le_of_ble_eq_true rfl⟩) (pW_V hK hP hPc hDc 0 4 rfl rfl rfl) rfl rfl hl.1 rfl (lv_room (Nat.le_of_ble_eq_true rfl)) dX6_word_135 ⟨Nat.zero_le _, Nat.zero_le _⟩) hS (fun q _ h => hFc q h) hFc (fun u_ t_ H1 locs ht_ hvm_ hw_ hB_ hz_ hk_ hS => ?_)
    obtain ⟨hP1, -, hD1⟩ := hB_
    rw [ht_] at hP1
    obtain ⟨hP, hD⟩ := va_join (wr := []) (w1 := [(o, .inr (4, [.int th, .ref aS, .ref aA, .ref aV, .int sm, .ref aB, .int (nI nn), .int (nI ((wR B0 nn 100 100 0 0 (true, (tn + 1))).2)), .int (bI ((wR B0 nn 100 100 0 0 (true, (tn + 1))).1)), .ref aR, .int rm, .int ga, .int fi, .int se, .int ex, .long ha])), (aB, .inl (cI, 60, .inl B0))]) hP hD [0, 1] [] rfl rfl (by decide) (by decide) hk_ hFc hP1 hD1
    clear hP1 hD1 hPc hDc hFc hk_ hz_ hvm_ ht_
    generalize H1 = H at hP hS ⊢
    replace hP : va_P (dC, dI) vwCl [(o, .inr (4, [.int th, .ref aS, .ref aA, .ref aV, .int sm, .ref aB, .int (nI nn), .int (nI ((wR B0 nn 100 100 0 0 (true, (tn + 1))).2)), .int (bI ((wR B0 nn 100 100 0 0 (true, (tn + 1))).1)), .ref aR, .int rm, .int ga, .int fi, .int se, .int ex, .long ha])), (aB, .inl (cI, 60, .inl B0))] H := hP
    replace hD : va_D A [(o, .inr (4, [.int th, .ref aS, .ref aA, .ref aV, .int sm, .ref aB, .int (nI nn), .int (nI ((wR B0 nn 100 100 0 0 (true, (tn + 1))).2)), .int (bI ((wR B0 nn 100 100 0 0 (true, (tn + 1))).1)), .ref aR, .int rm, .int ga, .int fi, .int se, .int ex, .long ha])), (aB, .inl (cI, 60, .inl B0))] := hD
    refine W.widen (k := 0) (n := 0) (Nat.le_refl 0) (Nat.le_refl 0) ?_
    refine lv_goto (tgt := 199) hx hb dX6_word_138 (by decide) ?_
    refine lv_iload_n hx hb dX6_word_199 rfl (lv_at hl 0 rfl) ?_
    have ec_r200_6_o_7 : (nI ((wR B0 nn 100 100 0 0 (true, (tn + 1))).2)) = (nI (((wWd B0 nn tn).2).2)) := by first | rfl | (rw [wWd, if_pos c_8])
    have ec_r200_6_o_8 : (bI ((wR B0 nn 100 100 0 0 (true, (tn + 1))).1)) = (bI (((wWd B0 nn tn).2).1)) := by first | rfl | (rw [wWd, if_pos c_8])
    have ew_r200_6 : ([(o, .inr (4, [.int th, .ref aS, .ref aA, .ref aV, .int sm, .ref aB, .int (nI nn), .int (nI ((wR B0 nn 100 100 0 0 (true, (tn + 1))).2)), .int (bI ((wR B0 nn 100 100 0 0 (true, (tn + 1))).1)), .ref aR, .int rm, .int ga, .int fi, .int se, .int ex, .long ha])), (aB, .inl (cI, 60, .inl B0))] : va_W) = [(o, .inr (4, [.int th, .ref aS, .ref aA, .ref aV, .int sm, .ref aB, .int (nI nn), .int (nI (((wWd B0 nn tn).2).2)), .int (bI (((wWd B0 nn tn).2).1)), .ref aR, .int rm, .int ga, .int fi, .int se, .int ex, .long ha])), (aB, .inl (cI, 60, .inl B0))] := ((congrArg (fun z_ => ([(o, .inr (4, [.int th, .ref aS, .ref aA, .ref aV, .int sm, .ref aB, .int (nI nn), .int z_, .int (bI ((wR B0 nn 100 100 0 0 (true, (tn + 1))).1)), .ref aR, .int rm, .int ga, .int fi, .int se, .int ex, .long ha])), (aB, .inl (cI, 60, .inl B0))] : va_W)) ec_r200_6_o_7).trans (congrArg (fun z_ => ([(o, .inr (4, [.int th, .ref aS, .ref aA, .ref aV, .int sm, .ref aB, .int (nI nn), .int (nI (((wWd B0 nn tn).2).2)), .int z_, .ref aR, .int rm, .int ga, .int fi, .int se, .int ex, .long ha])), (aB, .inl (cI, 60, .inl B0))] : va_W)) ec_r200_6_o_8))
    have hP9 := (w_cgP ew_r200_6 hP)
    have hD9 := (w_cgD ew_r200_6 hD)
    exact W.iret (v := (nI 1)) hx hb hr (fun t ht hW => ⟨⟨(nI 1), (), rfl, (show (nI 1) = (nI ((wWd B0 nn tn).1)) from by first | rfl | (rw [wWd, if_pos c_8])), by rw [ht]; exact hP9, va_K.moved hW.alike hK, hD9⟩, hS.F ht⟩) hS.2.2 dX6_word_200
theorem hdX6_word : yX6_word.cls = RX6 ∧ yX6_word.cls ≠ "java/lang/invoke/MethodHandle" ∧ yX6_word.cls ≠ "java/lang/invoke/VarHandle" ∧ (parseMethodDescriptor yX6_word.desc).map (fun d => d.parameters.length) = some 0 := by decide +kernel
theorem hdX6_number : yX6_number.cls = RX6 ∧ yX6_number.cls ≠ "java/lang/invoke/MethodHandle" ∧ yX6_number.cls ≠ "java/lang/invoke/VarHandle" ∧ (parseMethodDescriptor yX6_number.desc).map (fun d => d.parameters.length) = some 2 := by decide +kernel
set_option maxHeartbeats 4000000 in
set_option maxRecDepth 100000 in
theorem kX6_readsOrder (l : Launch) (dC : Nat → ClassId) (dI : Nat → Nat → Nat) (cI cV cW : ClassId) (sz : Nat) (o : Nat) (th : Int32) (aS : Nat) (aA : Nat) (aV : Nat) (sm : Int32) (aB : Nat) (wl : Bool) (aR : Nat) (ga : Int32) (fi : Int32) (se : Int32) (ex : Int32) (ha : Int64) (B0 : Nat → Int32) (nn : Nat) (tn : Nat) (mm : Nat) (R0 : Nat → Int32) (hnn : nn ≤ 60) (htn : tn ≤ nn) (hmm : mm ≤ 15) : Met l yX6_readsOrder wsX6_readsOrder ({ frames := 4, cells := 0, slots := 0, locals := 87 }) (pW (dC, dI) (tyS cI cV cW) sz [.ref o] [(o, .inr (4, [.int th, .ref aS, .ref aA, .ref aV, .int sm, .ref aB, .int (nI nn), .int (nI tn), .int (bI wl), .ref aR, .int (nI mm), .int ga, .int fi, .int se, .int ex, .long ha])), (aB, .inl (cI, 60, .inl B0)), (aR, .inl (cI, 48, .inl R0))]) (va_Qv (fun (_ : Unit) => True) (fun (_ : Unit) t => qB (dC, dI) (tyS cI cV cW) (va_A [(o, .inr (4, [.int th, .ref aS, .ref aA, .ref aV, .int sm, .ref aB, .int (nI nn), .int (nI tn), .int (bI wl), .ref aR, .int (nI mm), .int ga, .int fi, .int se, .int ex, .long ha])), (aB, .inl (cI, 60, .inl B0)), (aR, .inl (cI, 48, .inl R0))] sz) [(o, .inr (4, [.int th, .ref aS, .ref aA, .ref aV, .int sm, .ref aB, .int (nI nn), .int (nI ((rOrd B0 nn R0 tn mm).2.1.2)), .int (bI ((rOrd B0 nn R0 tn mm).2.1.1)), .ref aR, .int (nI ((rOrd B0 nn R0 tn mm).2.2)), .int ga, .int fi, .int se, .int ex, .long ha])), (aB, .inl (cI, 60, .inl B0)), (aR, .inl (cI, 48, .inl ((rOrd B0 nn R0 tn mm).1)))] t) (va_A [(o, .inr (4, [.int th, .ref aS, .ref aA, .ref aV, .int sm, .ref aB, .int (nI nn), .int (nI tn), .int (bI wl), .ref aR, .int (nI mm), .int ga, .int fi, .int se, .int ex, .long ha])), (aB, .inl (cI, 60, .inl B0)), (aR, .inl (cI, 48, .inl R0))] sz)) 0 0 (va_A [(o, .inr (4, [.int th, .ref aS, .ref aA, .ref aV, .int sm, .ref aB, .int (nI nn), .int (nI tn), .int (bI wl), .ref aR, .int (nI mm), .int ga, .int fi, .int se, .int ex, .long ha])), (aB, .inl (cI, 60, .inl B0)), (aR, .inl (cI, 48, .inl R0))] sz) := by
  refine Met.ofW (cc := cX6_readsOrder) (maxL := 3) (ret := none) (by decide) rfl ?_
  intro p e s m args below meth c s₁ B hml hv
  obtain ⟨rfl, hsz, hP, hK, hD0⟩ := hv
  have hx := B.exec
  have hb := B.bytes
  have hr := B.returns
  have hts := atoms_spec (ws := wsX6_readsOrder) B.pre
  have hown : s.vm.findClass RX6 = some m.cls := findClass_of_methodNamed B.named
  have hlocks := B.notSynchronized
  subst hsz
  have hD := hD0.self (sz := s.heap.size)
  generalize hAe : va_A [(o, .inr (4, [.int th, .ref aS, .ref aA, .ref aV, .int sm, .ref aB, .int (nI nn), .int (nI tn), .int (bI wl), .ref aR, .int (nI mm), .int ga, .int fi, .int se, .int ex, .long ha])), (aB, .inl (cI, 60, .inl B0)), (aR, .inl (cI, 48, .inl R0))] s.heap.size = A at hD ⊢
  have hA : ∀ q : Nat, s.heap.size ≤ q → A q := fun q h => by rw [← hAe]; exact Or.inr h
  have hS : va_S A s.heap s.heap [] := va_S.rf
  refine w_gen hP hS (fun H locs hP hS => ?_)
  have hf155 := hts (.fieldLink RX6 155 "VaultShelvesModel" "readMany" "I") (by decide +kernel)
  have hf22 := hts (.fieldLink RX6 22 "VaultShelvesModel" "read" "[I") (by decide +kernel)
  have hf141 := hts (.fieldLink RX6 141 "VaultShelvesModel" "isWell" "Z") (by decide +kernel)
  have hiX6 : ∀ w ∈ u_ws RX6 TX6 16, w ∈ wsX6_readsOrder := by decide +kernel
  have hl := lv_entry ([.ref o]) (n := 3) (Nat.le_of_ble_eq_true rfl)
  rw [lg_entry_eq]
  generalize (lg_sl ([.ref o]) ++ List.replicate (3 - (lg_sl ([.ref o])).length) Slot.unset).toArray = ls at hl ⊢
  replace hl : lv_has ls 3 [(0, .ref o)] := hl
  have hk5 := wWd_5 B0 nn tn
  have hW := wWd_le (B := B0) htn
  refine lv_iconst (v := (nI 3)) hx hb dX6_readsOrder_0 (by decide) ?_
  refine lv_aload_n hx hb dX6_readsOrder_1 rfl (lv_at hl 0 rfl) ?_
  refine va_get (D := (dC, dI)) (ci := 4) (v := .int (nI mm)) (C := RX6) (T := TX6) (N := 16) hx hb hts hiX6 hown hK hP 0 rfl rfl 10 (by decide) hf155 (fun _ h9 => h9) rfl dX6_readsOrder_2 ?_
  refine n_imul hx hb dX6_readsOrder_5 ?_
  refine lv_istore_n (lv' := [(1, .int (nI (3 * mm))), (0, .ref o)]) hx hb dX6_readsOrder_6 rfl hl (by decide) rfl (fun ls hl => ?_)
  refine lv_aload_n hx hb dX6_readsOrder_7 rfl (lv_at hl 1 rfl) ?_
  have hPc := hP.sub (ws' := [(o, .inr (4, [.int th, .ref aS, .ref aA, .ref aV, .int sm, .ref aB, .int (nI nn), .int (nI tn), .int (bI wl), .ref aR, .int (nI mm), .int ga, .int fi, .int se, .int ex, .long ha])), (aB, .inl (cI, 60, .inl B0))]) [0, 1] rfl
  have hDc := hD.sub (ws' := [(o, .inr (4, [.int th, .ref aS, .ref aA, .ref aV, .int sm, .ref aB, .int (nI nn), .int (nI tn), .int (bI wl), .ref aR, .int (nI mm), .int ga, .int fi, .int se, .int ex, .long ha])), (aB, .inl (cI, 60, .inl B0))]) [0, 1] (by decide) rfl
  have hFc := va_free (wc := [(o, .inr (4, [.int th, .ref aS, .ref aA, .ref aV, .int sm, .ref aB, .int (nI nn), .int (nI tn), .int (bI wl), .ref aR, .int (nI mm), .int ga, .int fi, .int se, .int ex, .long ha])), (aB, .inl (cI, 60, .inl B0))]) hD hS hA [0, 1] rfl
  refine va_calli (va_runV (As := []) (rest := []) ⟨hx, hb, hml, hown, hts⟩ (kX6_word l dC dI cI cV cW H.size o th aS aA aV sm aB wl aR (nI mm) ga fi se ex ha B0 nn tn (hnn) (htn)) (cwV 0 hts gX6_readsOrder_X6_word rfl rfl rfl hdX6_word ⟨Nat.le_of_ble_eq_true rfl, Nat.le_of_ble_eq_true rfl⟩) (pW_V hK hP hPc hDc 0 4 rfl rfl rfl) rfl rfl hl.1 rfl (lv_room (Nat.le_of_ble_eq_true rfl)) dX6_readsOrder_8 ⟨Nat.zero_le _, Nat.zero_le _⟩) hS (fun q _ h => hFc q h) hFc (fun r_8 u_ t_ H1 locs ht_ hvm_ hw_ hB_ hz_ hk_ hS => ?_)
  obtain ⟨hP1, -, hD1⟩ := hB_
  rw [ht_] at hP1
  obtain ⟨hP, hD⟩ := va_join (wr := [(aR, .inl (cI, 48, .inl R0))]) (w1 := [(o, .inr (4, [.int th, .ref aS, .ref aA, .ref aV, .int sm, .ref aB, .int (nI nn), .int (nI (((wWd B0 nn tn).2).2)), .int (bI (((wWd B0 nn tn).2).1)), .ref aR, .int (nI mm), .int ga, .int fi, .int se, .int ex, .long ha])), (aB, .inl (cI, 60, .inl B0))]) hP hD [0, 1] [2] rfl rfl (by decide) (by decide) hk_ hFc hP1 hD1
  clear hP1 hD1 hPc hDc hFc hk_ hz_ hvm_ ht_
  generalize H1 = H at hP hS ⊢
  replace hP : va_P (dC, dI) vwCl [(o, .inr (4, [.int th, .ref aS, .ref aA, .ref aV, .int sm, .ref aB, .int (nI nn), .int (nI (((wWd B0 nn tn).2).2)), .int (bI (((wWd B0 nn tn).2).1)), .ref aR, .int (nI mm), .int ga, .int fi, .int se, .int ex, .long ha])), (aB, .inl (cI, 60, .inl B0)), (aR, .inl (cI, 48, .inl R0))] H := hP.sub [1, 2, 0] rfl
  replace hD : va_D A [(o, .inr (4, [.int th, .ref aS, .ref aA, .ref aV, .int sm, .ref aB, .int (nI nn), .int (nI (((wWd B0 nn tn).2).2)), .int (bI (((wWd B0 nn tn).2).1)), .ref aR, .int (nI mm), .int ga, .int fi, .int se, .int ex, .long ha])), (aB, .inl (cI, 60, .inl B0)), (aR, .inl (cI, 48, .inl R0))] := hD.sub [1, 2, 0] (by decide) rfl
  refine W.widen (k := 0) (n := 0) (Nat.le_refl 0) (Nat.le_refl 0) ?_
  have hw_ : r_8 = (nI ((wWd B0 nn tn).1)) := hw_
  subst hw_
  refine lv_istore_n (lv' := [(2, .int (nI ((wWd B0 nn tn).1))), (1, .int (nI (3 * mm))), (0, .ref o)]) hx hb dX6_readsOrder_11 rfl hl (by decide) rfl (fun ls hl => ?_)
  refine lv_aload_n hx hb dX6_readsOrder_12 rfl (lv_at hl 2 rfl) ?_
  refine va_get (D := (dC, dI)) (ci := 4) (v := .ref aR) (C := RX6) (T := TX6) (N := 16) hx hb hts hiX6 hown hK hP 0 rfl rfl 9 (by decide) hf22 (fun _ h9 => h9) rfl dX6_readsOrder_13 ?_
  refine lv_iload_n hx hb dX6_readsOrder_16 rfl (lv_at hl 1 rfl) ?_
  refine lv_iload_n hx hb dX6_readsOrder_17 rfl (lv_at hl 0 rfl) ?_
  refine n_iast hx hb hK hP hD hS 2 0 rfl rfl (show 3 * mm < 48 from by omega) (by decide) dX6_readsOrder_18 (fun H locs hP hD hS => ?_)
  replace hP : va_P (dC, dI) vwCl [(o, .inr (4, [.int th, .ref aS, .ref aA, .ref aV, .int sm, .ref aB, .int (nI nn), .int (nI (((wWd B0 nn tn).2).2)), .int (bI (((wWd B0 nn tn).2).1)), .ref aR, .int (nI mm), .int ga, .int fi, .int se, .int ex, .long ha])), (aB, .inl (cI, 60, .inl B0)), (aR, .inl (cI, 48, .inl (upd R0 (3 * mm) (nI ((wWd B0 nn tn).1)))))] H := hP
  replace hD : va_D A [(o, .inr (4, [.int th, .ref aS, .ref aA, .ref aV, .int sm, .ref aB, .int (nI nn), .int (nI (((wWd B0 nn tn).2).2)), .int (bI (((wWd B0 nn tn).2).1)), .ref aR, .int (nI mm), .int ga, .int fi, .int se, .int ex, .long ha])), (aB, .inl (cI, 60, .inl B0)), (aR, .inl (cI, 48, .inl (upd R0 (3 * mm) (nI ((wWd B0 nn tn).1)))))] := hD
  refine lv_iload_n hx hb dX6_readsOrder_19 rfl (lv_at hl 0 rfl) ?_
  refine lv_iconst (v := (nI 1)) hx hb dX6_readsOrder_20 (by decide) ?_
  refine n_icmp_ne (tgt := 42) hx hb dX6_readsOrder_21 (by decide) (by omega) (by omega) (fun c_21 => ?_) (fun c_21 => ?_)
  · refine lv_iload_n hx hb dX6_readsOrder_42 rfl (lv_at hl 0 rfl) ?_
    refine lv_iconst (v := (nI 5)) hx hb dX6_readsOrder_43 (by decide) ?_
    refine n_icmp_ne (tgt := 65) hx hb dX6_readsOrder_44 (by decide) (by omega) (by omega) (fun c_44 => ?_) (fun c_44 => ?_)
    · refine lv_iload_n hx hb dX6_readsOrder_65 rfl (lv_at hl 0 rfl) ?_
      refine lv_iconst (v := (nI 2)) hx hb dX6_readsOrder_66 (by decide) ?_
      refine n_icmp_eq (tgt := 75) hx hb dX6_readsOrder_67 (by decide) (by omega) (by omega) (fun c_67 => ?_) (fun c_67 => ?_)
      · refine lv_aload_n hx hb dX6_readsOrder_75 rfl (lv_at hl 2 rfl) ?_
        refine va_get (D := (dC, dI)) (ci := 4) (v := .ref aR) (C := RX6) (T := TX6) (N := 16) hx hb hts hiX6 hown hK hP 0 rfl rfl 9 (by decide) hf22 (fun _ h9 => h9) rfl dX6_readsOrder_76 ?_
        refine lv_iload_n hx hb dX6_readsOrder_79 rfl (lv_at hl 1 rfl) ?_
        refine lv_iconst (v := (nI 1)) hx hb dX6_readsOrder_80 (by decide) ?_
        refine n_iadd hx hb dX6_readsOrder_81 ?_
        refine lv_aload_n hx hb dX6_readsOrder_82 rfl (lv_at hl 2 rfl) ?_
        refine lv_iconst (v := (nI 0)) hx hb dX6_readsOrder_83 (by decide) ?_
        refine lv_bipush (v := (nI 15)) hx hb dX6_readsOrder_84 (by decide) ?_
        have hPc := hP.sub (ws' := [(o, .inr (4, [.int th, .ref aS, .ref aA, .ref aV, .int sm, .ref aB, .int (nI nn), .int (nI (((wWd B0 nn tn).2).2)), .int (bI (((wWd B0 nn tn).2).1)), .ref aR, .int (nI mm), .int ga, .int fi, .int se, .int ex, .long ha])), (aB, .inl (cI, 60, .inl B0))]) [0, 1] rfl
        have hDc := hD.sub (ws' := [(o, .inr (4, [.int th, .ref aS, .ref aA, .ref aV, .int sm, .ref aB, .int (nI nn), .int (nI (((wWd B0 nn tn).2).2)), .int (bI (((wWd B0 nn tn).2).1)), .ref aR, .int (nI mm), .int ga, .int fi, .int se, .int ex, .long ha])), (aB, .inl (cI, 60, .inl B0))]) [0, 1] (by decide) rfl
        have hFc := va_free (wc := [(o, .inr (4, [.int th, .ref aS, .ref aA, .ref aV, .int sm, .ref aB, .int (nI nn), .int (nI (((wWd B0 nn tn).2).2)), .int (bI (((wWd B0 nn tn).2).1)), .ref aR, .int (nI mm), .int ga, .int fi, .int se, .int ex, .long ha])), (aB, .inl (cI, 60, .inl B0))]) hD hS hA [0, 1] rfl
        refine va_calli (va_runV (As := [.int (nI 0), .int (nI 15)]) (rest := [.int (nI ((3 * mm) + 1)), .ref aR]) ⟨hx, hb, hml, hown, hts⟩ (kX6_number l dC dI cI cV cW H.size o th aS aA aV sm aB (((wWd B0 nn tn).2).1) aR (nI mm) ga fi se ex ha B0 nn (((wWd B0 nn tn).2).2) 0 15 (hnn) (hW) (by omega) (by omega)) (cwV 2 hts gX6_readsOrder_X6_number rfl rfl rfl hdX6_number ⟨Nat.le_of_ble_eq_true rfl, Nat.le_of_ble_eq_true rfl⟩) (pW_V hK hP hPc hDc 0 4 rfl rfl rfl) rfl rfl hl.1 rfl (lv_room (Nat.le_of_ble_eq_true rfl)) dX6_readsOrder_86 ⟨Nat.zero_le _, Nat.zero_le _⟩) hS (fun q _ h => hFc q h) hFc (fun r_86 u_ t_ H1 locs ht_ hvm_ hw_ hB_ hz_ hk_ hS => ?_)
        obtain ⟨hP1, -, hD1⟩ := hB_
        rw [ht_] at hP1
        obtain ⟨hP, hD⟩ := va_join (wr := [(aR, .inl (cI, 48, .inl (upd R0 (3 * mm) (nI ((wWd B0 nn tn).1)))))]) (w1 := [(o, .inr (4, [.int th, .ref aS, .ref aA, .ref aV, .int sm, .ref aB, .int (nI nn), .int (nI (((nNum B0 nn 0 15 ((wWd B0 nn tn).2)).2).2)), .int (bI (((nNum B0 nn 0 15 ((wWd B0 nn tn).2)).2).1)), .ref aR, .int (nI mm), .int ga, .int fi, .int se, .int ex, .long ha])), (aB, .inl (cI, 60, .inl B0))]) hP hD [0, 1] [2] rfl rfl (by decide) (by decide) hk_ hFc hP1 hD1
        clear hP1 hD1 hPc hDc hFc hk_ hz_ hvm_ ht_
        generalize H1 = H at hP hS ⊢
        replace hP : va_P (dC, dI) vwCl [(o, .inr (4, [.int th, .ref aS, .ref aA, .ref aV, .int sm, .ref aB, .int (nI nn), .int (nI (((nNum B0 nn 0 15 ((wWd B0 nn tn).2)).2).2)), .int (bI (((nNum B0 nn 0 15 ((wWd B0 nn tn).2)).2).1)), .ref aR, .int (nI mm), .int ga, .int fi, .int se, .int ex, .long ha])), (aB, .inl (cI, 60, .inl B0)), (aR, .inl (cI, 48, .inl (upd R0 (3 * mm) (nI ((wWd B0 nn tn).1)))))] H := hP.sub [1, 2, 0] rfl
        replace hD : va_D A [(o, .inr (4, [.int th, .ref aS, .ref aA, .ref aV, .int sm, .ref aB, .int (nI nn), .int (nI (((nNum B0 nn 0 15 ((wWd B0 nn tn).2)).2).2)), .int (bI (((nNum B0 nn 0 15 ((wWd B0 nn tn).2)).2).1)), .ref aR, .int (nI mm), .int ga, .int fi, .int se, .int ex, .long ha])), (aB, .inl (cI, 60, .inl B0)), (aR, .inl (cI, 48, .inl (upd R0 (3 * mm) (nI ((wWd B0 nn tn).1)))))] := hD.sub [1, 2, 0] (by decide) rfl
        refine W.widen (k := 0) (n := 0) (Nat.le_refl 0) (Nat.le_refl 0) ?_
        have hw_ : r_86 = ((nNum B0 nn 0 15 ((wWd B0 nn tn).2)).1) := hw_
        subst hw_
        refine n_iast hx hb hK hP hD hS 2 0 rfl rfl (show (3 * mm) + 1 < 48 from by omega) (by decide) dX6_readsOrder_89 (fun H locs hP hD hS => ?_)
        replace hP : va_P (dC, dI) vwCl [(o, .inr (4, [.int th, .ref aS, .ref aA, .ref aV, .int sm, .ref aB, .int (nI nn), .int (nI (((nNum B0 nn 0 15 ((wWd B0 nn tn).2)).2).2)), .int (bI (((nNum B0 nn 0 15 ((wWd B0 nn tn).2)).2).1)), .ref aR, .int (nI mm), .int ga, .int fi, .int se, .int ex, .long ha])), (aB, .inl (cI, 60, .inl B0)), (aR, .inl (cI, 48, .inl (upd (upd R0 (3 * mm) (nI ((wWd B0 nn tn).1))) ((3 * mm) + 1) ((nNum B0 nn 0 15 ((wWd B0 nn tn).2)).1))))] H := hP
        replace hD : va_D A [(o, .inr (4, [.int th, .ref aS, .ref aA, .ref aV, .int sm, .ref aB, .int (nI nn), .int (nI (((nNum B0 nn 0 15 ((wWd B0 nn tn).2)).2).2)), .int (bI (((nNum B0 nn 0 15 ((wWd B0 nn tn).2)).2).1)), .ref aR, .int (nI mm), .int ga, .int fi, .int se, .int ex, .long ha])), (aB, .inl (cI, 60, .inl B0)), (aR, .inl (cI, 48, .inl (upd (upd R0 (3 * mm) (nI ((wWd B0 nn tn).1))) ((3 * mm) + 1) ((nNum B0 nn 0 15 ((wWd B0 nn tn).2)).1))))] := hD
        refine lv_iload_n hx hb dX6_readsOrder_90 rfl (lv_at hl 0 rfl) ?_
        refine lv_iconst (v := (nI 1)) hx hb dX6_readsOrder_91 (by decide) ?_
        refine n_icmp_eq (tgt := 100) hx hb dX6_readsOrder_92 (by decide) (by omega) (by omega) (fun c_92 => (by exfalso; omega)) (fun c_92 => ?_)
        refine lv_iload_n hx hb dX6_readsOrder_95 rfl (lv_at hl 0 rfl) ?_
        refine lv_iconst (v := (nI 3)) hx hb dX6_readsOrder_96 (by decide) ?_
        refine n_icmp_ne (tgt := 120) hx hb dX6_readsOrder_97 (by decide) (by omega) (by omega) (fun c_97 => ?_) (fun c_97 => (by exfalso; omega))
        refine lv_aload_n hx hb dX6_readsOrder_120 rfl (lv_at hl 2 rfl) ?_
        refine lv_dup hx hb dX6_readsOrder_121 rfl ?_
        refine va_get (D := (dC, dI)) (ci := 4) (v := .int (nI mm)) (C := RX6) (T := TX6) (N := 16) hx hb hts hiX6 hown hK hP 0 rfl rfl 10 (by decide) hf155 (fun _ h9 => h9) rfl dX6_readsOrder_122 ?_
        refine lv_aload_n hx hb dX6_readsOrder_125 rfl (lv_at hl 2 rfl) ?_
        refine va_get (D := (dC, dI)) (ci := 4) (v := .int (bI (((nNum B0 nn 0 15 ((wWd B0 nn tn).2)).2).1))) (C := RX6) (T := TX6) (N := 16) hx hb hts hiX6 hown hK hP 0 rfl rfl 8 (by decide) hf141 (fun _ h9 => h9) rfl dX6_readsOrder_126 ?_
        refine b_if_eq (tgt := 136) hx hb dX6_readsOrder_129 (by decide) (fun c_129 => ?_) (fun c_129 => ?_)
        · refine lv_iconst (v := (nI 0)) hx hb dX6_readsOrder_136 (by decide) ?_
          refine n_iadd hx hb dX6_readsOrder_137 ?_
          refine va_put (D := (dC, dI)) (ci := 4) (v := .int (nI mm)) (ty := .int) (C := RX6) (T := TX6) (N := 16) hx hb hts hiX6 tyX6 tyX6_ok nmX6 hown hK hP hD hS 0 rfl rfl 10 (by decide) hf155 (fun _ h9 => h9) rfl (by decide +kernel) rfl rfl (Nat.le_of_ble_eq_true rfl) dX6_readsOrder_138 (fun H locs hP hD hS => ?_)
          replace hP : va_P (dC, dI) vwCl [(o, .inr (4, [.int th, .ref aS, .ref aA, .ref aV, .int sm, .ref aB, .int (nI nn), .int (nI (((nNum B0 nn 0 15 ((wWd B0 nn tn).2)).2).2)), .int (bI (((nNum B0 nn 0 15 ((wWd B0 nn tn).2)).2).1)), .ref aR, .int (nI mm), .int ga, .int fi, .int se, .int ex, .long ha])), (aB, .inl (cI, 60, .inl B0)), (aR, .inl (cI, 48, .inl (upd (upd R0 (3 * mm) (nI ((wWd B0 nn tn).1))) ((3 * mm) + 1) ((nNum B0 nn 0 15 ((wWd B0 nn tn).2)).1))))] H := hP
          replace hD : va_D A [(o, .inr (4, [.int th, .ref aS, .ref aA, .ref aV, .int sm, .ref aB, .int (nI nn), .int (nI (((nNum B0 nn 0 15 ((wWd B0 nn tn).2)).2).2)), .int (bI (((nNum B0 nn 0 15 ((wWd B0 nn tn).2)).2).1)), .ref aR, .int (nI mm), .int ga, .int fi, .int se, .int ex, .long ha])), (aB, .inl (cI, 60, .inl B0)), (aR, .inl (cI, 48, .inl (upd (upd R0 (3 * mm) (nI ((wWd B0 nn tn).1))) ((3 * mm) + 1) ((nNum B0 nn 0 15 ((wWd B0 nn tn).2)).1))))] := hD
          have ec_r141_1_o_7 : (nI (((nNum B0 nn 0 15 ((wWd B0 nn tn).2)).2).2)) = (nI ((rOrd B0 nn R0 tn mm).2.1.2)) := by first | rfl | (first | (rw [rOrd, if_neg c_21, if_neg c_44, if_pos c_67]; done) | (rw [rOrd, if_neg c_21, if_neg c_44, if_pos c_67]; simp [b1, c_129]; done))
          have ec_r141_1_o_8 : (bI (((nNum B0 nn 0 15 ((wWd B0 nn tn).2)).2).1)) = (bI ((rOrd B0 nn R0 tn mm).2.1.1)) := by first | rfl | (first | (rw [rOrd, if_neg c_21, if_neg c_44, if_pos c_67]; done) | (rw [rOrd, if_neg c_21, if_neg c_44, if_pos c_67]; simp [b1, c_129]; done))
          have ec_r141_1_o_10 : (nI mm) = (nI ((rOrd B0 nn R0 tn mm).2.2)) := by first | rfl | (first | (rw [rOrd, if_neg c_21, if_neg c_44, if_pos c_67]; done) | (rw [rOrd, if_neg c_21, if_neg c_44, if_pos c_67]; simp [b1, c_129]; done))
          have ec_r141_1_aR : upd (upd R0 (3 * mm) (nI ((wWd B0 nn tn).1))) ((3 * mm) + 1) ((nNum B0 nn 0 15 ((wWd B0 nn tn).2)).1) = (rOrd B0 nn R0 tn mm).1 := by first | rfl | (first | (rw [rOrd, if_neg c_21, if_neg c_44, if_pos c_67]; done) | (rw [rOrd, if_neg c_21, if_neg c_44, if_pos c_67]; simp [b1, c_129]; done))
          have ew_r141_1 : ([(o, .inr (4, [.int th, .ref aS, .ref aA, .ref aV, .int sm, .ref aB, .int (nI nn), .int (nI (((nNum B0 nn 0 15 ((wWd B0 nn tn).2)).2).2)), .int (bI (((nNum B0 nn 0 15 ((wWd B0 nn tn).2)).2).1)), .ref aR, .int (nI mm), .int ga, .int fi, .int se, .int ex, .long ha])), (aB, .inl (cI, 60, .inl B0)), (aR, .inl (cI, 48, .inl (upd (upd R0 (3 * mm) (nI ((wWd B0 nn tn).1))) ((3 * mm) + 1) ((nNum B0 nn 0 15 ((wWd B0 nn tn).2)).1))))] : va_W) = [(o, .inr (4, [.int th, .ref aS, .ref aA, .ref aV, .int sm, .ref aB, .int (nI nn), .int (nI ((rOrd B0 nn R0 tn mm).2.1.2)), .int (bI ((rOrd B0 nn R0 tn mm).2.1.1)), .ref aR, .int (nI ((rOrd B0 nn R0 tn mm).2.2)), .int ga, .int fi, .int se, .int ex, .long ha])), (aB, .inl (cI, 60, .inl B0)), (aR, .inl (cI, 48, .inl ((rOrd B0 nn R0 tn mm).1)))] := ((((congrArg (fun z_ => ([(o, .inr (4, [.int th, .ref aS, .ref aA, .ref aV, .int sm, .ref aB, .int (nI nn), .int z_, .int (bI (((nNum B0 nn 0 15 ((wWd B0 nn tn).2)).2).1)), .ref aR, .int (nI mm), .int ga, .int fi, .int se, .int ex, .long ha])), (aB, .inl (cI, 60, .inl B0)), (aR, .inl (cI, 48, .inl (upd (upd R0 (3 * mm) (nI ((wWd B0 nn tn).1))) ((3 * mm) + 1) ((nNum B0 nn 0 15 ((wWd B0 nn tn).2)).1))))] : va_W)) ec_r141_1_o_7).trans (congrArg (fun z_ => ([(o, .inr (4, [.int th, .ref aS, .ref aA, .ref aV, .int sm, .ref aB, .int (nI nn), .int (nI ((rOrd B0 nn R0 tn mm).2.1.2)), .int z_, .ref aR, .int (nI mm), .int ga, .int fi, .int se, .int ex, .long ha])), (aB, .inl (cI, 60, .inl B0)), (aR, .inl (cI, 48, .inl (upd (upd R0 (3 * mm) (nI ((wWd B0 nn tn).1))) ((3 * mm) + 1) ((nNum B0 nn 0 15 ((wWd B0 nn tn).2)).1))))] : va_W)) ec_r141_1_o_8)).trans (congrArg (fun z_ => ([(o, .inr (4, [.int th, .ref aS, .ref aA, .ref aV, .int sm, .ref aB, .int (nI nn), .int (nI ((rOrd B0 nn R0 tn mm).2.1.2)), .int (bI ((rOrd B0 nn R0 tn mm).2.1.1)), .ref aR, .int z_, .int ga, .int fi, .int se, .int ex, .long ha])), (aB, .inl (cI, 60, .inl B0)), (aR, .inl (cI, 48, .inl (upd (upd R0 (3 * mm) (nI ((wWd B0 nn tn).1))) ((3 * mm) + 1) ((nNum B0 nn 0 15 ((wWd B0 nn tn).2)).1))))] : va_W)) ec_r141_1_o_10)).trans (congrArg (fun z_ => ([(o, .inr (4, [.int th, .ref aS, .ref aA, .ref aV, .int sm, .ref aB, .int (nI nn), .int (nI ((rOrd B0 nn R0 tn mm).2.1.2)), .int (bI ((rOrd B0 nn R0 tn mm).2.1.1)), .ref aR, .int (nI ((rOrd B0 nn R0 tn mm).2.2)), .int ga, .int fi, .int se, .int ex, .long ha])), (aB, .inl (cI, 60, .inl B0)), (aR, .inl (cI, 48, .inl z_))] : va_W)) ec_r141_1_aR))
          have hP9 := (w_cgP ew_r141_1 hP)
          have hD9 := (w_cgD ew_r141_1 hD)
          exact W.vret hx hb hr (fun t ht hW => ⟨⟨(), rfl, trivial, by rw [ht]; exact hP9, va_K.moved hW.alike hK, hD9⟩, hS.F ht⟩) hS.2.2 dX6_readsOrder_141
        · refine lv_iconst (v := (nI 1)) hx hb dX6_readsOrder_132 (by decide) ?_
          refine lv_goto (tgt := 137) hx hb dX6_readsOrder_133 (by decide) ?_
          refine n_iadd hx hb dX6_readsOrder_137 ?_
          refine va_put (D := (dC, dI)) (ci := 4) (v := .int (nI (mm + 1))) (ty := .int) (C := RX6) (T := TX6) (N := 16) hx hb hts hiX6 tyX6 tyX6_ok nmX6 hown hK hP hD hS 0 rfl rfl 10 (by decide) hf155 (fun _ h9 => h9) rfl (by decide +kernel) rfl rfl (Nat.le_of_ble_eq_true rfl) dX6_readsOrder_138 (fun H locs hP hD hS => ?_)
          replace hP : va_P (dC, dI) vwCl [(o, .inr (4, [.int th, .ref aS, .ref aA, .ref aV, .int sm, .ref aB, .int (nI nn), .int (nI (((nNum B0 nn 0 15 ((wWd B0 nn tn).2)).2).2)), .int (bI (((nNum B0 nn 0 15 ((wWd B0 nn tn).2)).2).1)), .ref aR, .int (nI (mm + 1)), .int ga, .int fi, .int se, .int ex, .long ha])), (aB, .inl (cI, 60, .inl B0)), (aR, .inl (cI, 48, .inl (upd (upd R0 (3 * mm) (nI ((wWd B0 nn tn).1))) ((3 * mm) + 1) ((nNum B0 nn 0 15 ((wWd B0 nn tn).2)).1))))] H := hP
          replace hD : va_D A [(o, .inr (4, [.int th, .ref aS, .ref aA, .ref aV, .int sm, .ref aB, .int (nI nn), .int (nI (((nNum B0 nn 0 15 ((wWd B0 nn tn).2)).2).2)), .int (bI (((nNum B0 nn 0 15 ((wWd B0 nn tn).2)).2).1)), .ref aR, .int (nI (mm + 1)), .int ga, .int fi, .int se, .int ex, .long ha])), (aB, .inl (cI, 60, .inl B0)), (aR, .inl (cI, 48, .inl (upd (upd R0 (3 * mm) (nI ((wWd B0 nn tn).1))) ((3 * mm) + 1) ((nNum B0 nn 0 15 ((wWd B0 nn tn).2)).1))))] := hD
          have ec_r141_2_o_7 : (nI (((nNum B0 nn 0 15 ((wWd B0 nn tn).2)).2).2)) = (nI ((rOrd B0 nn R0 tn mm).2.1.2)) := by first | rfl | (first | (rw [rOrd, if_neg c_21, if_neg c_44, if_pos c_67]; done) | (rw [rOrd, if_neg c_21, if_neg c_44, if_pos c_67]; simp [b1, c_129]; done))
          have ec_r141_2_o_8 : (bI (((nNum B0 nn 0 15 ((wWd B0 nn tn).2)).2).1)) = (bI ((rOrd B0 nn R0 tn mm).2.1.1)) := by first | rfl | (first | (rw [rOrd, if_neg c_21, if_neg c_44, if_pos c_67]; done) | (rw [rOrd, if_neg c_21, if_neg c_44, if_pos c_67]; simp [b1, c_129]; done))
          have ec_r141_2_o_10 : (nI (mm + 1)) = (nI ((rOrd B0 nn R0 tn mm).2.2)) := by first | rfl | (first | (rw [rOrd, if_neg c_21, if_neg c_44, if_pos c_67]; done) | (rw [rOrd, if_neg c_21, if_neg c_44, if_pos c_67]; simp [b1, c_129]; done))
          have ec_r141_2_aR : upd (upd R0 (3 * mm) (nI ((wWd B0 nn tn).1))) ((3 * mm) + 1) ((nNum B0 nn 0 15 ((wWd B0 nn tn).2)).1) = (rOrd B0 nn R0 tn mm).1 := by first | rfl | (first | (rw [rOrd, if_neg c_21, if_neg c_44, if_pos c_67]; done) | (rw [rOrd, if_neg c_21, if_neg c_44, if_pos c_67]; simp [b1, c_129]; done))
          have ew_r141_2 : ([(o, .inr (4, [.int th, .ref aS, .ref aA, .ref aV, .int sm, .ref aB, .int (nI nn), .int (nI (((nNum B0 nn 0 15 ((wWd B0 nn tn).2)).2).2)), .int (bI (((nNum B0 nn 0 15 ((wWd B0 nn tn).2)).2).1)), .ref aR, .int (nI (mm + 1)), .int ga, .int fi, .int se, .int ex, .long ha])), (aB, .inl (cI, 60, .inl B0)), (aR, .inl (cI, 48, .inl (upd (upd R0 (3 * mm) (nI ((wWd B0 nn tn).1))) ((3 * mm) + 1) ((nNum B0 nn 0 15 ((wWd B0 nn tn).2)).1))))] : va_W) = [(o, .inr (4, [.int th, .ref aS, .ref aA, .ref aV, .int sm, .ref aB, .int (nI nn), .int (nI ((rOrd B0 nn R0 tn mm).2.1.2)), .int (bI ((rOrd B0 nn R0 tn mm).2.1.1)), .ref aR, .int (nI ((rOrd B0 nn R0 tn mm).2.2)), .int ga, .int fi, .int se, .int ex, .long ha])), (aB, .inl (cI, 60, .inl B0)), (aR, .inl (cI, 48, .inl ((rOrd B0 nn R0 tn mm).1)))] := ((((congrArg (fun z_ => ([(o, .inr (4, [.int th, .ref aS, .ref aA, .ref aV, .int sm, .ref aB, .int (nI nn), .int z_, .int (bI (((nNum B0 nn 0 15 ((wWd B0 nn tn).2)).2).1)), .ref aR, .int (nI (mm + 1)), .int ga, .int fi, .int se, .int ex, .long ha])), (aB, .inl (cI, 60, .inl B0)), (aR, .inl (cI, 48, .inl (upd (upd R0 (3 * mm) (nI ((wWd B0 nn tn).1))) ((3 * mm) + 1) ((nNum B0 nn 0 15 ((wWd B0 nn tn).2)).1))))] : va_W)) ec_r141_2_o_7).trans (congrArg (fun z_ => ([(o, .inr (4, [.int th, .ref aS, .ref aA, .ref aV, .int sm, .ref aB, .int (nI nn), .int (nI ((rOrd B0 nn R0 tn mm).2.1.2)), .int z_, .ref aR, .int (nI (mm + 1)), .int ga, .int fi, .int se, .int ex, .long ha])), (aB, .inl (cI, 60, .inl B0)), (aR, .inl (cI, 48, .inl (upd (upd R0 (3 * mm) (nI ((wWd B0 nn tn).1))) ((3 * mm) + 1) ((nNum B0 nn 0 15 ((wWd B0 nn tn).2)).1))))] : va_W)) ec_r141_2_o_8)).trans (congrArg (fun z_ => ([(o, .inr (4, [.int th, .ref aS, .ref aA, .ref aV, .int sm, .ref aB, .int (nI nn), .int (nI ((rOrd B0 nn R0 tn mm).2.1.2)), .int (bI ((rOrd B0 nn R0 tn mm).2.1.1)), .ref aR, .int z_, .int ga, .int fi, .int se, .int ex, .long ha])), (aB, .inl (cI, 60, .inl B0)), (aR, .inl (cI, 48, .inl (upd (upd R0 (3 * mm) (nI ((wWd B0 nn tn).1))) ((3 * mm) + 1) ((nNum B0 nn 0 15 ((wWd B0 nn tn).2)).1))))] : va_W)) ec_r141_2_o_10)).trans (congrArg (fun z_ => ([(o, .inr (4, [.int th, .ref aS, .ref aA, .ref aV, .int sm, .ref aB, .int (nI nn), .int (nI ((rOrd B0 nn R0 tn mm).2.1.2)), .int (bI ((rOrd B0 nn R0 tn mm).2.1.1)), .ref aR, .int (nI ((rOrd B0 nn R0 tn mm).2.2)), .int ga, .int fi, .int se, .int ex, .long ha])), (aB, .inl (cI, 60, .inl B0)), (aR, .inl (cI, 48, .inl z_))] : va_W)) ec_r141_2_aR))
          have hP9 := (w_cgP ew_r141_2 hP)
          have hD9 := (w_cgD ew_r141_2 hD)
          exact W.vret hx hb hr (fun t ht hW => ⟨⟨(), rfl, trivial, by rw [ht]; exact hP9, va_K.moved hW.alike hK, hD9⟩, hS.F ht⟩) hS.2.2 dX6_readsOrder_141
      · refine lv_iload_n hx hb dX6_readsOrder_70 rfl (lv_at hl 0 rfl) ?_
        refine lv_iconst (v := (nI 3)) hx hb dX6_readsOrder_71 (by decide) ?_
        refine n_icmp_ne (tgt := 90) hx hb dX6_readsOrder_72 (by decide) (by omega) (by omega) (fun c_72 => ?_) (fun c_72 => ?_)
        · refine lv_iload_n hx hb dX6_readsOrder_90 rfl (lv_at hl 0 rfl) ?_
          refine lv_iconst (v := (nI 1)) hx hb dX6_readsOrder_91 (by decide) ?_
          refine n_icmp_eq (tgt := 100) hx hb dX6_readsOrder_92 (by decide) (by omega) (by omega) (fun c_92 => (by exfalso; omega)) (fun c_92 => ?_)
          refine lv_iload_n hx hb dX6_readsOrder_95 rfl (lv_at hl 0 rfl) ?_
          refine lv_iconst (v := (nI 3)) hx hb dX6_readsOrder_96 (by decide) ?_
          refine n_icmp_ne (tgt := 120) hx hb dX6_readsOrder_97 (by decide) (by omega) (by omega) (fun c_97 => ?_) (fun c_97 => (by exfalso; omega))
          refine lv_aload_n hx hb dX6_readsOrder_120 rfl (lv_at hl 2 rfl) ?_
          refine lv_dup hx hb dX6_readsOrder_121 rfl ?_
          refine va_get (D := (dC, dI)) (ci := 4) (v := .int (nI mm)) (C := RX6) (T := TX6) (N := 16) hx hb hts hiX6 hown hK hP 0 rfl rfl 10 (by decide) hf155 (fun _ h9 => h9) rfl dX6_readsOrder_122 ?_
          refine lv_aload_n hx hb dX6_readsOrder_125 rfl (lv_at hl 2 rfl) ?_
          refine va_get (D := (dC, dI)) (ci := 4) (v := .int (bI (((wWd B0 nn tn).2).1))) (C := RX6) (T := TX6) (N := 16) hx hb hts hiX6 hown hK hP 0 rfl rfl 8 (by decide) hf141 (fun _ h9 => h9) rfl dX6_readsOrder_126 ?_
          refine b_if_eq (tgt := 136) hx hb dX6_readsOrder_129 (by decide) (fun c_129 => ?_) (fun c_129 => ?_)
          · refine lv_iconst (v := (nI 0)) hx hb dX6_readsOrder_136 (by decide) ?_
            refine n_iadd hx hb dX6_readsOrder_137 ?_
            refine va_put (D := (dC, dI)) (ci := 4) (v := .int (nI mm)) (ty := .int) (C := RX6) (T := TX6) (N := 16) hx hb hts hiX6 tyX6 tyX6_ok nmX6 hown hK hP hD hS 0 rfl rfl 10 (by decide) hf155 (fun _ h9 => h9) rfl (by decide +kernel) rfl rfl (Nat.le_of_ble_eq_true rfl) dX6_readsOrder_138 (fun H locs hP hD hS => ?_)
            replace hP : va_P (dC, dI) vwCl [(o, .inr (4, [.int th, .ref aS, .ref aA, .ref aV, .int sm, .ref aB, .int (nI nn), .int (nI (((wWd B0 nn tn).2).2)), .int (bI (((wWd B0 nn tn).2).1)), .ref aR, .int (nI mm), .int ga, .int fi, .int se, .int ex, .long ha])), (aB, .inl (cI, 60, .inl B0)), (aR, .inl (cI, 48, .inl (upd R0 (3 * mm) (nI ((wWd B0 nn tn).1)))))] H := hP
            replace hD : va_D A [(o, .inr (4, [.int th, .ref aS, .ref aA, .ref aV, .int sm, .ref aB, .int (nI nn), .int (nI (((wWd B0 nn tn).2).2)), .int (bI (((wWd B0 nn tn).2).1)), .ref aR, .int (nI mm), .int ga, .int fi, .int se, .int ex, .long ha])), (aB, .inl (cI, 60, .inl B0)), (aR, .inl (cI, 48, .inl (upd R0 (3 * mm) (nI ((wWd B0 nn tn).1)))))] := hD
            have ec_r141_3_o_7 : (nI (((wWd B0 nn tn).2).2)) = (nI ((rOrd B0 nn R0 tn mm).2.1.2)) := by first | rfl | (first | (rw [rOrd, if_neg c_21, if_neg c_44, if_neg c_67, if_neg c_72]; done) | (rw [rOrd, if_neg c_21, if_neg c_44, if_neg c_67, if_neg c_72]; simp [b1, c_129]; done))
            have ec_r141_3_o_8 : (bI (((wWd B0 nn tn).2).1)) = (bI ((rOrd B0 nn R0 tn mm).2.1.1)) := by first | rfl | (first | (rw [rOrd, if_neg c_21, if_neg c_44, if_neg c_67, if_neg c_72]; done) | (rw [rOrd, if_neg c_21, if_neg c_44, if_neg c_67, if_neg c_72]; simp [b1, c_129]; done))
            have ec_r141_3_o_10 : (nI mm) = (nI ((rOrd B0 nn R0 tn mm).2.2)) := by first | rfl | (first | (rw [rOrd, if_neg c_21, if_neg c_44, if_neg c_67, if_neg c_72]; done) | (rw [rOrd, if_neg c_21, if_neg c_44, if_neg c_67, if_neg c_72]; simp [b1, c_129]; done))
            have ec_r141_3_aR : upd R0 (3 * mm) (nI ((wWd B0 nn tn).1)) = (rOrd B0 nn R0 tn mm).1 := by first | rfl | (first | (rw [rOrd, if_neg c_21, if_neg c_44, if_neg c_67, if_neg c_72]; done) | (rw [rOrd, if_neg c_21, if_neg c_44, if_neg c_67, if_neg c_72]; simp [b1, c_129]; done))
            have ew_r141_3 : ([(o, .inr (4, [.int th, .ref aS, .ref aA, .ref aV, .int sm, .ref aB, .int (nI nn), .int (nI (((wWd B0 nn tn).2).2)), .int (bI (((wWd B0 nn tn).2).1)), .ref aR, .int (nI mm), .int ga, .int fi, .int se, .int ex, .long ha])), (aB, .inl (cI, 60, .inl B0)), (aR, .inl (cI, 48, .inl (upd R0 (3 * mm) (nI ((wWd B0 nn tn).1)))))] : va_W) = [(o, .inr (4, [.int th, .ref aS, .ref aA, .ref aV, .int sm, .ref aB, .int (nI nn), .int (nI ((rOrd B0 nn R0 tn mm).2.1.2)), .int (bI ((rOrd B0 nn R0 tn mm).2.1.1)), .ref aR, .int (nI ((rOrd B0 nn R0 tn mm).2.2)), .int ga, .int fi, .int se, .int ex, .long ha])), (aB, .inl (cI, 60, .inl B0)), (aR, .inl (cI, 48, .inl ((rOrd B0 nn R0 tn mm).1)))] := ((((congrArg (fun z_ => ([(o, .inr (4, [.int th, .ref aS, .ref aA, .ref aV, .int sm, .ref aB, .int (nI nn), .int z_, .int (bI (((wWd B0 nn tn).2).1)), .ref aR, .int (nI mm), .int ga, .int fi, .int se, .int ex, .long ha])), (aB, .inl (cI, 60, .inl B0)), (aR, .inl (cI, 48, .inl (upd R0 (3 * mm) (nI ((wWd B0 nn tn).1)))))] : va_W)) ec_r141_3_o_7).trans (congrArg (fun z_ => ([(o, .inr (4, [.int th, .ref aS, .ref aA, .ref aV, .int sm, .ref aB, .int (nI nn), .int (nI ((rOrd B0 nn R0 tn mm).2.1.2)), .int z_, .ref aR, .int (nI mm), .int ga, .int fi, .int se, .int ex, .long ha])), (aB, .inl (cI, 60, .inl B0)), (aR, .inl (cI, 48, .inl (upd R0 (3 * mm) (nI ((wWd B0 nn tn).1)))))] : va_W)) ec_r141_3_o_8)).trans (congrArg (fun z_ => ([(o, .inr (4, [.int th, .ref aS, .ref aA, .ref aV, .int sm, .ref aB, .int (nI nn), .int (nI ((rOrd B0 nn R0 tn mm).2.1.2)), .int (bI ((rOrd B0 nn R0 tn mm).2.1.1)), .ref aR, .int z_, .int ga, .int fi, .int se, .int ex, .long ha])), (aB, .inl (cI, 60, .inl B0)), (aR, .inl (cI, 48, .inl (upd R0 (3 * mm) (nI ((wWd B0 nn tn).1)))))] : va_W)) ec_r141_3_o_10)).trans (congrArg (fun z_ => ([(o, .inr (4, [.int th, .ref aS, .ref aA, .ref aV, .int sm, .ref aB, .int (nI nn), .int (nI ((rOrd B0 nn R0 tn mm).2.1.2)), .int (bI ((rOrd B0 nn R0 tn mm).2.1.1)), .ref aR, .int (nI ((rOrd B0 nn R0 tn mm).2.2)), .int ga, .int fi, .int se, .int ex, .long ha])), (aB, .inl (cI, 60, .inl B0)), (aR, .inl (cI, 48, .inl z_))] : va_W)) ec_r141_3_aR))
            have hP9 := (w_cgP ew_r141_3 hP)
            have hD9 := (w_cgD ew_r141_3 hD)
            exact W.vret hx hb hr (fun t ht hW => ⟨⟨(), rfl, trivial, by rw [ht]; exact hP9, va_K.moved hW.alike hK, hD9⟩, hS.F ht⟩) hS.2.2 dX6_readsOrder_141
          · refine lv_iconst (v := (nI 1)) hx hb dX6_readsOrder_132 (by decide) ?_
            refine lv_goto (tgt := 137) hx hb dX6_readsOrder_133 (by decide) ?_
            refine n_iadd hx hb dX6_readsOrder_137 ?_
            refine va_put (D := (dC, dI)) (ci := 4) (v := .int (nI (mm + 1))) (ty := .int) (C := RX6) (T := TX6) (N := 16) hx hb hts hiX6 tyX6 tyX6_ok nmX6 hown hK hP hD hS 0 rfl rfl 10 (by decide) hf155 (fun _ h9 => h9) rfl (by decide +kernel) rfl rfl (Nat.le_of_ble_eq_true rfl) dX6_readsOrder_138 (fun H locs hP hD hS => ?_)
            replace hP : va_P (dC, dI) vwCl [(o, .inr (4, [.int th, .ref aS, .ref aA, .ref aV, .int sm, .ref aB, .int (nI nn), .int (nI (((wWd B0 nn tn).2).2)), .int (bI (((wWd B0 nn tn).2).1)), .ref aR, .int (nI (mm + 1)), .int ga, .int fi, .int se, .int ex, .long ha])), (aB, .inl (cI, 60, .inl B0)), (aR, .inl (cI, 48, .inl (upd R0 (3 * mm) (nI ((wWd B0 nn tn).1)))))] H := hP
            replace hD : va_D A [(o, .inr (4, [.int th, .ref aS, .ref aA, .ref aV, .int sm, .ref aB, .int (nI nn), .int (nI (((wWd B0 nn tn).2).2)), .int (bI (((wWd B0 nn tn).2).1)), .ref aR, .int (nI (mm + 1)), .int ga, .int fi, .int se, .int ex, .long ha])), (aB, .inl (cI, 60, .inl B0)), (aR, .inl (cI, 48, .inl (upd R0 (3 * mm) (nI ((wWd B0 nn tn).1)))))] := hD
            have ec_r141_4_o_7 : (nI (((wWd B0 nn tn).2).2)) = (nI ((rOrd B0 nn R0 tn mm).2.1.2)) := by first | rfl | (first | (rw [rOrd, if_neg c_21, if_neg c_44, if_neg c_67, if_neg c_72]; done) | (rw [rOrd, if_neg c_21, if_neg c_44, if_neg c_67, if_neg c_72]; simp [b1, c_129]; done))
            have ec_r141_4_o_8 : (bI (((wWd B0 nn tn).2).1)) = (bI ((rOrd B0 nn R0 tn mm).2.1.1)) := by first | rfl | (first | (rw [rOrd, if_neg c_21, if_neg c_44, if_neg c_67, if_neg c_72]; done) | (rw [rOrd, if_neg c_21, if_neg c_44, if_neg c_67, if_neg c_72]; simp [b1, c_129]; done))
            have ec_r141_4_o_10 : (nI (mm + 1)) = (nI ((rOrd B0 nn R0 tn mm).2.2)) := by first | rfl | (first | (rw [rOrd, if_neg c_21, if_neg c_44, if_neg c_67, if_neg c_72]; done) | (rw [rOrd, if_neg c_21, if_neg c_44, if_neg c_67, if_neg c_72]; simp [b1, c_129]; done))
            have ec_r141_4_aR : upd R0 (3 * mm) (nI ((wWd B0 nn tn).1)) = (rOrd B0 nn R0 tn mm).1 := by first | rfl | (first | (rw [rOrd, if_neg c_21, if_neg c_44, if_neg c_67, if_neg c_72]; done) | (rw [rOrd, if_neg c_21, if_neg c_44, if_neg c_67, if_neg c_72]; simp [b1, c_129]; done))
            have ew_r141_4 : ([(o, .inr (4, [.int th, .ref aS, .ref aA, .ref aV, .int sm, .ref aB, .int (nI nn), .int (nI (((wWd B0 nn tn).2).2)), .int (bI (((wWd B0 nn tn).2).1)), .ref aR, .int (nI (mm + 1)), .int ga, .int fi, .int se, .int ex, .long ha])), (aB, .inl (cI, 60, .inl B0)), (aR, .inl (cI, 48, .inl (upd R0 (3 * mm) (nI ((wWd B0 nn tn).1)))))] : va_W) = [(o, .inr (4, [.int th, .ref aS, .ref aA, .ref aV, .int sm, .ref aB, .int (nI nn), .int (nI ((rOrd B0 nn R0 tn mm).2.1.2)), .int (bI ((rOrd B0 nn R0 tn mm).2.1.1)), .ref aR, .int (nI ((rOrd B0 nn R0 tn mm).2.2)), .int ga, .int fi, .int se, .int ex, .long ha])), (aB, .inl (cI, 60, .inl B0)), (aR, .inl (cI, 48, .inl ((rOrd B0 nn R0 tn mm).1)))] := ((((congrArg (fun z_ => ([(o, .inr (4, [.int th, .ref aS, .ref aA, .ref aV, .int sm, .ref aB, .int (nI nn), .int z_, .int (bI (((wWd B0 nn tn).2).1)), .ref aR, .int (nI (mm + 1)), .int ga, .int fi, .int se, .int ex, .long ha])), (aB, .inl (cI, 60, .inl B0)), (aR, .inl (cI, 48, .inl (upd R0 (3 * mm) (nI ((wWd B0 nn tn).1)))))] : va_W)) ec_r141_4_o_7).trans (congrArg (fun z_ => ([(o, .inr (4, [.int th, .ref aS, .ref aA, .ref aV, .int sm, .ref aB, .int (nI nn), .int (nI ((rOrd B0 nn R0 tn mm).2.1.2)), .int z_, .ref aR, .int (nI (mm + 1)), .int ga, .int fi, .int se, .int ex, .long ha])), (aB, .inl (cI, 60, .inl B0)), (aR, .inl (cI, 48, .inl (upd R0 (3 * mm) (nI ((wWd B0 nn tn).1)))))] : va_W)) ec_r141_4_o_8)).trans (congrArg (fun z_ => ([(o, .inr (4, [.int th, .ref aS, .ref aA, .ref aV, .int sm, .ref aB, .int (nI nn), .int (nI ((rOrd B0 nn R0 tn mm).2.1.2)), .int (bI ((rOrd B0 nn R0 tn mm).2.1.1)), .ref aR, .int z_, .int ga, .int fi, .int se, .int ex, .long ha])), (aB, .inl (cI, 60, .inl B0)), (aR, .inl (cI, 48, .inl (upd R0 (3 * mm) (nI ((wWd B0 nn tn).1)))))] : va_W)) ec_r141_4_o_10)).trans (congrArg (fun z_ => ([(o, .inr (4, [.int th, .ref aS, .ref aA, .ref aV, .int sm, .ref aB, .int (nI nn), .int (nI ((rOrd B0 nn R0 tn mm).2.1.2)), .int (bI ((rOrd B0 nn R0 tn mm).2.1.1)), .ref aR, .int (nI ((rOrd B0 nn R0 tn mm).2.2)), .int ga, .int fi, .int se, .int ex, .long ha])), (aB, .inl (cI, 60, .inl B0)), (aR, .inl (cI, 48, .inl z_))] : va_W)) ec_r141_4_aR))
            have hP9 := (w_cgP ew_r141_4 hP)
            have hD9 := (w_cgD ew_r141_4 hD)
            exact W.vret hx hb hr (fun t ht hW => ⟨⟨(), rfl, trivial, by rw [ht]; exact hP9, va_K.moved hW.alike hK, hD9⟩, hS.F ht⟩) hS.2.2 dX6_readsOrder_141
        · refine lv_aload_n hx hb dX6_readsOrder_75 rfl (lv_at hl 2 rfl) ?_
          refine va_get (D := (dC, dI)) (ci := 4) (v := .ref aR) (C := RX6) (T := TX6) (N := 16) hx hb hts hiX6 hown hK hP 0 rfl rfl 9 (by decide) hf22 (fun _ h9 => h9) rfl dX6_readsOrder_76 ?_
          refine lv_iload_n hx hb dX6_readsOrder_79 rfl (lv_at hl 1 rfl) ?_
          refine lv_iconst (v := (nI 1)) hx hb dX6_readsOrder_80 (by decide) ?_
          refine n_iadd hx hb dX6_readsOrder_81 ?_
          refine lv_aload_n hx hb dX6_readsOrder_82 rfl (lv_at hl 2 rfl) ?_
          refine lv_iconst (v := (nI 0)) hx hb dX6_readsOrder_83 (by decide) ?_
          refine lv_bipush (v := (nI 15)) hx hb dX6_readsOrder_84 (by decide) ?_
          have hPc := hP.sub (ws' := [(o, .inr (4, [.int th, .ref aS, .ref aA, .ref aV, .int sm, .ref aB, .int (nI nn), .int (nI (((wWd B0 nn tn).2).2)), .int (bI (((wWd B0 nn tn).2).1)), .ref aR, .int (nI mm), .int ga, .int fi, .int se, .int ex, .long ha])), (aB, .inl (cI, 60, .inl B0))]) [0, 1] rfl
          have hDc := hD.sub (ws' := [(o, .inr (4, [.int th, .ref aS, .ref aA, .ref aV, .int sm, .ref aB, .int (nI nn), .int (nI (((wWd B0 nn tn).2).2)), .int (bI (((wWd B0 nn tn).2).1)), .ref aR, .int (nI mm), .int ga, .int fi, .int se, .int ex, .long ha])), (aB, .inl (cI, 60, .inl B0))]) [0, 1] (by decide) rfl
          have hFc := va_free (wc := [(o, .inr (4, [.int th, .ref aS, .ref aA, .ref aV, .int sm, .ref aB, .int (nI nn), .int (nI (((wWd B0 nn tn).2).2)), .int (bI (((wWd B0 nn tn).2).1)), .ref aR, .int (nI mm), .int ga, .int fi, .int se, .int ex, .long ha])), (aB, .inl (cI, 60, .inl B0))]) hD hS hA [0, 1] rfl
          refine va_calli (va_runV (As := [.int (nI 0), .int (nI 15)]) (rest := [.int (nI ((3 * mm) + 1)), .ref aR]) ⟨hx, hb, hml, hown, hts⟩ (kX6_number l dC dI cI cV cW H.size o th aS aA aV sm aB (((wWd B0 nn tn).2).1) aR (nI mm) ga fi se ex ha B0 nn (((wWd B0 nn tn).2).2) 0 15 (hnn) (hW) (by omega) (by omega)) (cwV 2 hts gX6_readsOrder_X6_number rfl rfl rfl hdX6_number ⟨Nat.le_of_ble_eq_true rfl, Nat.le_of_ble_eq_true rfl⟩) (pW_V hK hP hPc hDc 0 4 rfl rfl rfl) rfl rfl hl.1 rfl (lv_room (Nat.le_of_ble_eq_true rfl)) dX6_readsOrder_86 ⟨Nat.zero_le _, Nat.zero_le _⟩) hS (fun q _ h => hFc q h) hFc (fun r_86 u_ t_ H1 locs ht_ hvm_ hw_ hB_ hz_ hk_ hS => ?_)
          obtain ⟨hP1, -, hD1⟩ := hB_
          rw [ht_] at hP1
          obtain ⟨hP, hD⟩ := va_join (wr := [(aR, .inl (cI, 48, .inl (upd R0 (3 * mm) (nI ((wWd B0 nn tn).1)))))]) (w1 := [(o, .inr (4, [.int th, .ref aS, .ref aA, .ref aV, .int sm, .ref aB, .int (nI nn), .int (nI (((nNum B0 nn 0 15 ((wWd B0 nn tn).2)).2).2)), .int (bI (((nNum B0 nn 0 15 ((wWd B0 nn tn).2)).2).1)), .ref aR, .int (nI mm), .int ga, .int fi, .int se, .int ex, .long ha])), (aB, .inl (cI, 60, .inl B0))]) hP hD [0, 1] [2] rfl rfl (by decide) (by decide) hk_ hFc hP1 hD1
          clear hP1 hD1 hPc hDc hFc hk_ hz_ hvm_ ht_
          generalize H1 = H at hP hS ⊢
          replace hP : va_P (dC, dI) vwCl [(o, .inr (4, [.int th, .ref aS, .ref aA, .ref aV, .int sm, .ref aB, .int (nI nn), .int (nI (((nNum B0 nn 0 15 ((wWd B0 nn tn).2)).2).2)), .int (bI (((nNum B0 nn 0 15 ((wWd B0 nn tn).2)).2).1)), .ref aR, .int (nI mm), .int ga, .int fi, .int se, .int ex, .long ha])), (aB, .inl (cI, 60, .inl B0)), (aR, .inl (cI, 48, .inl (upd R0 (3 * mm) (nI ((wWd B0 nn tn).1)))))] H := hP.sub [1, 2, 0] rfl
          replace hD : va_D A [(o, .inr (4, [.int th, .ref aS, .ref aA, .ref aV, .int sm, .ref aB, .int (nI nn), .int (nI (((nNum B0 nn 0 15 ((wWd B0 nn tn).2)).2).2)), .int (bI (((nNum B0 nn 0 15 ((wWd B0 nn tn).2)).2).1)), .ref aR, .int (nI mm), .int ga, .int fi, .int se, .int ex, .long ha])), (aB, .inl (cI, 60, .inl B0)), (aR, .inl (cI, 48, .inl (upd R0 (3 * mm) (nI ((wWd B0 nn tn).1)))))] := hD.sub [1, 2, 0] (by decide) rfl
          refine W.widen (k := 0) (n := 0) (Nat.le_refl 0) (Nat.le_refl 0) ?_
          have hw_ : r_86 = ((nNum B0 nn 0 15 ((wWd B0 nn tn).2)).1) := hw_
          subst hw_
          refine n_iast hx hb hK hP hD hS 2 0 rfl rfl (show (3 * mm) + 1 < 48 from by omega) (by decide) dX6_readsOrder_89 (fun H locs hP hD hS => ?_)
          replace hP : va_P (dC, dI) vwCl [(o, .inr (4, [.int th, .ref aS, .ref aA, .ref aV, .int sm, .ref aB, .int (nI nn), .int (nI (((nNum B0 nn 0 15 ((wWd B0 nn tn).2)).2).2)), .int (bI (((nNum B0 nn 0 15 ((wWd B0 nn tn).2)).2).1)), .ref aR, .int (nI mm), .int ga, .int fi, .int se, .int ex, .long ha])), (aB, .inl (cI, 60, .inl B0)), (aR, .inl (cI, 48, .inl (upd (upd R0 (3 * mm) (nI ((wWd B0 nn tn).1))) ((3 * mm) + 1) ((nNum B0 nn 0 15 ((wWd B0 nn tn).2)).1))))] H := hP
          replace hD : va_D A [(o, .inr (4, [.int th, .ref aS, .ref aA, .ref aV, .int sm, .ref aB, .int (nI nn), .int (nI (((nNum B0 nn 0 15 ((wWd B0 nn tn).2)).2).2)), .int (bI (((nNum B0 nn 0 15 ((wWd B0 nn tn).2)).2).1)), .ref aR, .int (nI mm), .int ga, .int fi, .int se, .int ex, .long ha])), (aB, .inl (cI, 60, .inl B0)), (aR, .inl (cI, 48, .inl (upd (upd R0 (3 * mm) (nI ((wWd B0 nn tn).1))) ((3 * mm) + 1) ((nNum B0 nn 0 15 ((wWd B0 nn tn).2)).1))))] := hD
          refine lv_iload_n hx hb dX6_readsOrder_90 rfl (lv_at hl 0 rfl) ?_
          refine lv_iconst (v := (nI 1)) hx hb dX6_readsOrder_91 (by decide) ?_
          refine n_icmp_eq (tgt := 100) hx hb dX6_readsOrder_92 (by decide) (by omega) (by omega) (fun c_92 => (by exfalso; omega)) (fun c_92 => ?_)
          refine lv_iload_n hx hb dX6_readsOrder_95 rfl (lv_at hl 0 rfl) ?_
          refine lv_iconst (v := (nI 3)) hx hb dX6_readsOrder_96 (by decide) ?_
          refine n_icmp_ne (tgt := 120) hx hb dX6_readsOrder_97 (by decide) (by omega) (by omega) (fun c_97 => (by exfalso; omega)) (fun c_97 => ?_)
          refine lv_aload_n hx hb dX6_readsOrder_100 rfl (lv_at hl 2 rfl) ?_
          refine lv_bipush (v := (nI 64)) hx hb dX6_readsOrder_101 (by decide) ?_
          have hPc := hP.sub (ws' := [(o, .inr (4, [.int th, .ref aS, .ref aA, .ref aV, .int sm, .ref aB, .int (nI nn), .int (nI (((nNum B0 nn 0 15 ((wWd B0 nn tn).2)).2).2)), .int (bI (((nNum B0 nn 0 15 ((wWd B0 nn tn).2)).2).1)), .ref aR, .int (nI mm), .int ga, .int fi, .int se, .int ex, .long ha])), (aB, .inl (cI, 60, .inl B0))]) [0, 1] rfl
          have hDc := hD.sub (ws' := [(o, .inr (4, [.int th, .ref aS, .ref aA, .ref aV, .int sm, .ref aB, .int (nI nn), .int (nI (((nNum B0 nn 0 15 ((wWd B0 nn tn).2)).2).2)), .int (bI (((nNum B0 nn 0 15 ((wWd B0 nn tn).2)).2).1)), .ref aR, .int (nI mm), .int ga, .int fi, .int se, .int ex, .long ha])), (aB, .inl (cI, 60, .inl B0))]) [0, 1] (by decide) rfl
          have hFc := va_free (wc := [(o, .inr (4, [.int th, .ref aS, .ref aA, .ref aV, .int sm, .ref aB, .int (nI nn), .int (nI (((nNum B0 nn 0 15 ((wWd B0 nn tn).2)).2).2)), .int (bI (((nNum B0 nn 0 15 ((wWd B0 nn tn).2)).2).1)), .ref aR, .int (nI mm), .int ga, .int fi, .int se, .int ex, .long ha])), (aB, .inl (cI, 60, .inl B0))]) hD hS hA [0, 1] rfl
          refine va_callv (va_runV (As := [.int (nI 64)]) (rest := []) ⟨hx, hb, hml, hown, hts⟩ (kX6_wants l dC dI cI cV cW H.size o th aS aA aV sm aB (((nNum B0 nn 0 15 ((wWd B0 nn tn).2)).2).1) aR (nI mm) ga fi se ex ha B0 nn (((nNum B0 nn 0 15 ((wWd B0 nn tn).2)).2).2) 64 (hnn) ((nNum_le (by decide) hW).2.1)) (cwV 1 hts gX6_readsOrder_X6_wants rfl rfl rfl hdX6_wants ⟨Nat.le_of_ble_eq_true rfl, Nat.le_of_ble_eq_true rfl⟩) (pW_V hK hP hPc hDc 0 4 rfl rfl rfl) rfl rfl hl.1 rfl (lv_room (Nat.le_of_ble_eq_true rfl)) dX6_readsOrder_103 ⟨Nat.zero_le _, Nat.zero_le _⟩) hS (fun q _ h => hFc q h) hFc (fun u_ t_ H1 locs ht_ hvm_ hw_ hB_ hz_ hk_ hS => ?_)
          obtain ⟨hP1, -, hD1⟩ := hB_
          rw [ht_] at hP1
          obtain ⟨hP, hD⟩ := va_join (wr := [(aR, .inl (cI, 48, .inl (upd (upd R0 (3 * mm) (nI ((wWd B0 nn tn).1))) ((3 * mm) + 1) ((nNum B0 nn 0 15 ((wWd B0 nn tn).2)).1))))]) (w1 := [(o, .inr (4, [.int th, .ref aS, .ref aA, .ref aV, .int sm, .ref aB, .int (nI nn), .int (nI ((wW B0 nn 64 ((nNum B0 nn 0 15 ((wWd B0 nn tn).2)).2)).2)), .int (bI ((wW B0 nn 64 ((nNum B0 nn 0 15 ((wWd B0 nn tn).2)).2)).1)), .ref aR, .int (nI mm), .int ga, .int fi, .int se, .int ex, .long ha])), (aB, .inl (cI, 60, .inl B0))]) hP hD [0, 1] [2] rfl rfl (by decide) (by decide) hk_ hFc hP1 hD1
          clear hP1 hD1 hPc hDc hFc hk_ hz_ hvm_ ht_
          generalize H1 = H at hP hS ⊢
          replace hP : va_P (dC, dI) vwCl [(o, .inr (4, [.int th, .ref aS, .ref aA, .ref aV, .int sm, .ref aB, .int (nI nn), .int (nI ((wW B0 nn 64 ((nNum B0 nn 0 15 ((wWd B0 nn tn).2)).2)).2)), .int (bI ((wW B0 nn 64 ((nNum B0 nn 0 15 ((wWd B0 nn tn).2)).2)).1)), .ref aR, .int (nI mm), .int ga, .int fi, .int se, .int ex, .long ha])), (aB, .inl (cI, 60, .inl B0)), (aR, .inl (cI, 48, .inl (upd (upd R0 (3 * mm) (nI ((wWd B0 nn tn).1))) ((3 * mm) + 1) ((nNum B0 nn 0 15 ((wWd B0 nn tn).2)).1))))] H := hP.sub [1, 2, 0] rfl
          replace hD : va_D A [(o, .inr (4, [.int th, .ref aS, .ref aA, .ref aV, .int sm, .ref aB, .int (nI nn), .int (nI ((wW B0 nn 64 ((nNum B0 nn 0 15 ((wWd B0 nn tn).2)).2)).2)), .int (bI ((wW B0 nn 64 ((nNum B0 nn 0 15 ((wWd B0 nn tn).2)).2)).1)), .ref aR, .int (nI mm), .int ga, .int fi, .int se, .int ex, .long ha])), (aB, .inl (cI, 60, .inl B0)), (aR, .inl (cI, 48, .inl (upd (upd R0 (3 * mm) (nI ((wWd B0 nn tn).1))) ((3 * mm) + 1) ((nNum B0 nn 0 15 ((wWd B0 nn tn).2)).1))))] := hD.sub [1, 2, 0] (by decide) rfl
          refine W.widen (k := 0) (n := 0) (Nat.le_refl 0) (Nat.le_refl 0) ?_
          refine lv_aload_n hx hb dX6_readsOrder_106 rfl (lv_at hl 2 rfl) ?_
          refine va_get (D := (dC, dI)) (ci := 4) (v := .ref aR) (C := RX6) (T := TX6) (N := 16) hx hb hts hiX6 hown hK hP 0 rfl rfl 9 (by decide) hf22 (fun _ h9 => h9) rfl dX6_readsOrder_107 ?_
          refine lv_iload_n hx hb dX6_readsOrder_110 rfl (lv_at hl 1 rfl) ?_
          refine lv_iconst (v := (nI 2)) hx hb dX6_readsOrder_111 (by decide) ?_
          refine n_iadd hx hb dX6_readsOrder_112 ?_
          refine lv_aload_n hx hb dX6_readsOrder_113 rfl (lv_at hl 2 rfl) ?_
          refine lv_iconst (v := (nI 0)) hx hb dX6_readsOrder_114 (by decide) ?_
          refine lv_iconst (v := (nI 5)) hx hb dX6_readsOrder_115 (by decide) ?_
          have hPc := hP.sub (ws' := [(o, .inr (4, [.int th, .ref aS, .ref aA, .ref aV, .int sm, .ref aB, .int (nI nn), .int (nI ((wW B0 nn 64 ((nNum B0 nn 0 15 ((wWd B0 nn tn).2)).2)).2)), .int (bI ((wW B0 nn 64 ((nNum B0 nn 0 15 ((wWd B0 nn tn).2)).2)).1)), .ref aR, .int (nI mm), .int ga, .int fi, .int se, .int ex, .long ha])), (aB, .inl (cI, 60, .inl B0))]) [0, 1] rfl
          have hDc := hD.sub (ws' := [(o, .inr (4, [.int th, .ref aS, .ref aA, .ref aV, .int sm, .ref aB, .int (nI nn), .int (nI ((wW B0 nn 64 ((nNum B0 nn 0 15 ((wWd B0 nn tn).2)).2)).2)), .int (bI ((wW B0 nn 64 ((nNum B0 nn 0 15 ((wWd B0 nn tn).2)).2)).1)), .ref aR, .int (nI mm), .int ga, .int fi, .int se, .int ex, .long ha])), (aB, .inl (cI, 60, .inl B0))]) [0, 1] (by decide) rfl
          have hFc := va_free (wc := [(o, .inr (4, [.int th, .ref aS, .ref aA, .ref aV, .int sm, .ref aB, .int (nI nn), .int (nI ((wW B0 nn 64 ((nNum B0 nn 0 15 ((wWd B0 nn tn).2)).2)).2)), .int (bI ((wW B0 nn 64 ((nNum B0 nn 0 15 ((wWd B0 nn tn).2)).2)).1)), .ref aR, .int (nI mm), .int ga, .int fi, .int se, .int ex, .long ha])), (aB, .inl (cI, 60, .inl B0))]) hD hS hA [0, 1] rfl
          refine va_calli (va_runV (As := [.int (nI 0), .int (nI 5)]) (rest := [.int (nI ((3 * mm) + 2)), .ref aR]) ⟨hx, hb, hml, hown, hts⟩ (kX6_number l dC dI cI cV cW H.size o th aS aA aV sm aB ((wW B0 nn 64 ((nNum B0 nn 0 15 ((wWd B0 nn tn).2)).2)).1) aR (nI mm) ga fi se ex ha B0 nn ((wW B0 nn 64 ((nNum B0 nn 0 15 ((wWd B0 nn tn).2)).2)).2) 0 5 (hnn) (wW_le (by decide) (nNum_le (by decide) hW).2.1) (by omega) (by omega)) (cwV 2 hts gX6_readsOrder_X6_number rfl rfl rfl hdX6_number ⟨Nat.le_of_ble_eq_true rfl, Nat.le_of_ble_eq_true rfl⟩) (pW_V hK hP hPc hDc 0 4 rfl rfl rfl) rfl rfl hl.1 rfl (lv_room (Nat.le_of_ble_eq_true rfl)) dX6_readsOrder_116 ⟨Nat.zero_le _, Nat.zero_le _⟩) hS (fun q _ h => hFc q h) hFc (fun r_116 u_ t_ H1 locs ht_ hvm_ hw_ hB_ hz_ hk_ hS => ?_)
          obtain ⟨hP1, -, hD1⟩ := hB_
          rw [ht_] at hP1
          obtain ⟨hP, hD⟩ := va_join (wr := [(aR, .inl (cI, 48, .inl (upd (upd R0 (3 * mm) (nI ((wWd B0 nn tn).1))) ((3 * mm) + 1) ((nNum B0 nn 0 15 ((wWd B0 nn tn).2)).1))))]) (w1 := [(o, .inr (4, [.int th, .ref aS, .ref aA, .ref aV, .int sm, .ref aB, .int (nI nn), .int (nI (((nNum B0 nn 0 5 (wW B0 nn 64 ((nNum B0 nn 0 15 ((wWd B0 nn tn).2)).2))).2).2)), .int (bI (((nNum B0 nn 0 5 (wW B0 nn 64 ((nNum B0 nn 0 15 ((wWd B0 nn tn).2)).2))).2).1)), .ref aR, .int (nI mm), .int ga, .int fi, .int se, .int ex, .long ha])), (aB, .inl (cI, 60, .inl B0))]) hP hD [0, 1] [2] rfl rfl (by decide) (by decide) hk_ hFc hP1 hD1
          clear hP1 hD1 hPc hDc hFc hk_ hz_ hvm_ ht_
          generalize H1 = H at hP hS ⊢
          replace hP : va_P (dC, dI) vwCl [(o, .inr (4, [.int th, .ref aS, .ref aA, .ref aV, .int sm, .ref aB, .int (nI nn), .int (nI (((nNum B0 nn 0 5 (wW B0 nn 64 ((nNum B0 nn 0 15 ((wWd B0 nn tn).2)).2))).2).2)), .int (bI (((nNum B0 nn 0 5 (wW B0 nn 64 ((nNum B0 nn 0 15 ((wWd B0 nn tn).2)).2))).2).1)), .ref aR, .int (nI mm), .int ga, .int fi, .int se, .int ex, .long ha])), (aB, .inl (cI, 60, .inl B0)), (aR, .inl (cI, 48, .inl (upd (upd R0 (3 * mm) (nI ((wWd B0 nn tn).1))) ((3 * mm) + 1) ((nNum B0 nn 0 15 ((wWd B0 nn tn).2)).1))))] H := hP.sub [1, 2, 0] rfl
          replace hD : va_D A [(o, .inr (4, [.int th, .ref aS, .ref aA, .ref aV, .int sm, .ref aB, .int (nI nn), .int (nI (((nNum B0 nn 0 5 (wW B0 nn 64 ((nNum B0 nn 0 15 ((wWd B0 nn tn).2)).2))).2).2)), .int (bI (((nNum B0 nn 0 5 (wW B0 nn 64 ((nNum B0 nn 0 15 ((wWd B0 nn tn).2)).2))).2).1)), .ref aR, .int (nI mm), .int ga, .int fi, .int se, .int ex, .long ha])), (aB, .inl (cI, 60, .inl B0)), (aR, .inl (cI, 48, .inl (upd (upd R0 (3 * mm) (nI ((wWd B0 nn tn).1))) ((3 * mm) + 1) ((nNum B0 nn 0 15 ((wWd B0 nn tn).2)).1))))] := hD.sub [1, 2, 0] (by decide) rfl
          refine W.widen (k := 0) (n := 0) (Nat.le_refl 0) (Nat.le_refl 0) ?_
          have hw_ : r_116 = ((nNum B0 nn 0 5 (wW B0 nn 64 ((nNum B0 nn 0 15 ((wWd B0 nn tn).2)).2))).1) := hw_
          subst hw_
          refine n_iast hx hb hK hP hD hS 2 0 rfl rfl (show (3 * mm) + 2 < 48 from by omega) (by decide) dX6_readsOrder_119 (fun H locs hP hD hS => ?_)
          replace hP : va_P (dC, dI) vwCl [(o, .inr (4, [.int th, .ref aS, .ref aA, .ref aV, .int sm, .ref aB, .int (nI nn), .int (nI (((nNum B0 nn 0 5 (wW B0 nn 64 ((nNum B0 nn 0 15 ((wWd B0 nn tn).2)).2))).2).2)), .int (bI (((nNum B0 nn 0 5 (wW B0 nn 64 ((nNum B0 nn 0 15 ((wWd B0 nn tn).2)).2))).2).1)), .ref aR, .int (nI mm), .int ga, .int fi, .int se, .int ex, .long ha])), (aB, .inl (cI, 60, .inl B0)), (aR, .inl (cI, 48, .inl (upd (upd (upd R0 (3 * mm) (nI ((wWd B0 nn tn).1))) ((3 * mm) + 1) ((nNum B0 nn 0 15 ((wWd B0 nn tn).2)).1)) ((3 * mm) + 2) ((nNum B0 nn 0 5 (wW B0 nn 64 ((nNum B0 nn 0 15 ((wWd B0 nn tn).2)).2))).1))))] H := hP
          replace hD : va_D A [(o, .inr (4, [.int th, .ref aS, .ref aA, .ref aV, .int sm, .ref aB, .int (nI nn), .int (nI (((nNum B0 nn 0 5 (wW B0 nn 64 ((nNum B0 nn 0 15 ((wWd B0 nn tn).2)).2))).2).2)), .int (bI (((nNum B0 nn 0 5 (wW B0 nn 64 ((nNum B0 nn 0 15 ((wWd B0 nn tn).2)).2))).2).1)), .ref aR, .int (nI mm), .int ga, .int fi, .int se, .int ex, .long ha])), (aB, .inl (cI, 60, .inl B0)), (aR, .inl (cI, 48, .inl (upd (upd (upd R0 (3 * mm) (nI ((wWd B0 nn tn).1))) ((3 * mm) + 1) ((nNum B0 nn 0 15 ((wWd B0 nn tn).2)).1)) ((3 * mm) + 2) ((nNum B0 nn 0 5 (wW B0 nn 64 ((nNum B0 nn 0 15 ((wWd B0 nn tn).2)).2))).1))))] := hD
          refine lv_aload_n hx hb dX6_readsOrder_120 rfl (lv_at hl 2 rfl) ?_
          refine lv_dup hx hb dX6_readsOrder_121 rfl ?_
          refine va_get (D := (dC, dI)) (ci := 4) (v := .int (nI mm)) (C := RX6) (T := TX6) (N := 16) hx hb hts hiX6 hown hK hP 0 rfl rfl 10 (by decide) hf155 (fun _ h9 => h9) rfl dX6_readsOrder_122 ?_
          refine lv_aload_n hx hb dX6_readsOrder_125 rfl (lv_at hl 2 rfl) ?_
          refine va_get (D := (dC, dI)) (ci := 4) (v := .int (bI (((nNum B0 nn 0 5 (wW B0 nn 64 ((nNum B0 nn 0 15 ((wWd B0 nn tn).2)).2))).2).1))) (C := RX6) (T := TX6) (N := 16) hx hb hts hiX6 hown hK hP 0 rfl rfl 8 (by decide) hf141 (fun _ h9 => h9) rfl dX6_readsOrder_126 ?_
          refine b_if_eq (tgt := 136) hx hb dX6_readsOrder_129 (by decide) (fun c_129 => ?_) (fun c_129 => ?_)
          · refine lv_iconst (v := (nI 0)) hx hb dX6_readsOrder_136 (by decide) ?_
            refine n_iadd hx hb dX6_readsOrder_137 ?_
            refine va_put (D := (dC, dI)) (ci := 4) (v := .int (nI mm)) (ty := .int) (C := RX6) (T := TX6) (N := 16) hx hb hts hiX6 tyX6 tyX6_ok nmX6 hown hK hP hD hS 0 rfl rfl 10 (by decide) hf155 (fun _ h9 => h9) rfl (by decide +kernel) rfl rfl (Nat.le_of_ble_eq_true rfl) dX6_readsOrder_138 (fun H locs hP hD hS => ?_)
            replace hP : va_P (dC, dI) vwCl [(o, .inr (4, [.int th, .ref aS, .ref aA, .ref aV, .int sm, .ref aB, .int (nI nn), .int (nI (((nNum B0 nn 0 5 (wW B0 nn 64 ((nNum B0 nn 0 15 ((wWd B0 nn tn).2)).2))).2).2)), .int (bI (((nNum B0 nn 0 5 (wW B0 nn 64 ((nNum B0 nn 0 15 ((wWd B0 nn tn).2)).2))).2).1)), .ref aR, .int (nI mm), .int ga, .int fi, .int se, .int ex, .long ha])), (aB, .inl (cI, 60, .inl B0)), (aR, .inl (cI, 48, .inl (upd (upd (upd R0 (3 * mm) (nI ((wWd B0 nn tn).1))) ((3 * mm) + 1) ((nNum B0 nn 0 15 ((wWd B0 nn tn).2)).1)) ((3 * mm) + 2) ((nNum B0 nn 0 5 (wW B0 nn 64 ((nNum B0 nn 0 15 ((wWd B0 nn tn).2)).2))).1))))] H := hP
            replace hD : va_D A [(o, .inr (4, [.int th, .ref aS, .ref aA, .ref aV, .int sm, .ref aB, .int (nI nn), .int (nI (((nNum B0 nn 0 5 (wW B0 nn 64 ((nNum B0 nn 0 15 ((wWd B0 nn tn).2)).2))).2).2)), .int (bI (((nNum B0 nn 0 5 (wW B0 nn 64 ((nNum B0 nn 0 15 ((wWd B0 nn tn).2)).2))).2).1)), .ref aR, .int (nI mm), .int ga, .int fi, .int se, .int ex, .long ha])), (aB, .inl (cI, 60, .inl B0)), (aR, .inl (cI, 48, .inl (upd (upd (upd R0 (3 * mm) (nI ((wWd B0 nn tn).1))) ((3 * mm) + 1) ((nNum B0 nn 0 15 ((wWd B0 nn tn).2)).1)) ((3 * mm) + 2) ((nNum B0 nn 0 5 (wW B0 nn 64 ((nNum B0 nn 0 15 ((wWd B0 nn tn).2)).2))).1))))] := hD
            have ec_r141_5_o_7 : (nI (((nNum B0 nn 0 5 (wW B0 nn 64 ((nNum B0 nn 0 15 ((wWd B0 nn tn).2)).2))).2).2)) = (nI ((rOrd B0 nn R0 tn mm).2.1.2)) := by first | rfl | (first | (rw [rOrd, if_neg c_21, if_neg c_44, if_neg c_67, if_pos c_72]; done) | (rw [rOrd, if_neg c_21, if_neg c_44, if_neg c_67, if_pos c_72]; simp [b1, c_129]; done))
            have ec_r141_5_o_8 : (bI (((nNum B0 nn 0 5 (wW B0 nn 64 ((nNum B0 nn 0 15 ((wWd B0 nn tn).2)).2))).2).1)) = (bI ((rOrd B0 nn R0 tn mm).2.1.1)) := by first | rfl | (first | (rw [rOrd, if_neg c_21, if_neg c_44, if_neg c_67, if_pos c_72]; done) | (rw [rOrd, if_neg c_21, if_neg c_44, if_neg c_67, if_pos c_72]; simp [b1, c_129]; done))
            have ec_r141_5_o_10 : (nI mm) = (nI ((rOrd B0 nn R0 tn mm).2.2)) := by first | rfl | (first | (rw [rOrd, if_neg c_21, if_neg c_44, if_neg c_67, if_pos c_72]; done) | (rw [rOrd, if_neg c_21, if_neg c_44, if_neg c_67, if_pos c_72]; simp [b1, c_129]; done))
            have ec_r141_5_aR : upd (upd (upd R0 (3 * mm) (nI ((wWd B0 nn tn).1))) ((3 * mm) + 1) ((nNum B0 nn 0 15 ((wWd B0 nn tn).2)).1)) ((3 * mm) + 2) ((nNum B0 nn 0 5 (wW B0 nn 64 ((nNum B0 nn 0 15 ((wWd B0 nn tn).2)).2))).1) = (rOrd B0 nn R0 tn mm).1 := by first | rfl | (first | (rw [rOrd, if_neg c_21, if_neg c_44, if_neg c_67, if_pos c_72]; done) | (rw [rOrd, if_neg c_21, if_neg c_44, if_neg c_67, if_pos c_72]; simp [b1, c_129]; done))
            have ew_r141_5 : ([(o, .inr (4, [.int th, .ref aS, .ref aA, .ref aV, .int sm, .ref aB, .int (nI nn), .int (nI (((nNum B0 nn 0 5 (wW B0 nn 64 ((nNum B0 nn 0 15 ((wWd B0 nn tn).2)).2))).2).2)), .int (bI (((nNum B0 nn 0 5 (wW B0 nn 64 ((nNum B0 nn 0 15 ((wWd B0 nn tn).2)).2))).2).1)), .ref aR, .int (nI mm), .int ga, .int fi, .int se, .int ex, .long ha])), (aB, .inl (cI, 60, .inl B0)), (aR, .inl (cI, 48, .inl (upd (upd (upd R0 (3 * mm) (nI ((wWd B0 nn tn).1))) ((3 * mm) + 1) ((nNum B0 nn 0 15 ((wWd B0 nn tn).2)).1)) ((3 * mm) + 2) ((nNum B0 nn 0 5 (wW B0 nn 64 ((nNum B0 nn 0 15 ((wWd B0 nn tn).2)).2))).1))))] : va_W) = [(o, .inr (4, [.int th, .ref aS, .ref aA, .ref aV, .int sm, .ref aB, .int (nI nn), .int (nI ((rOrd B0 nn R0 tn mm).2.1.2)), .int (bI ((rOrd B0 nn R0 tn mm).2.1.1)), .ref aR, .int (nI ((rOrd B0 nn R0 tn mm).2.2)), .int ga, .int fi, .int se, .int ex, .long ha])), (aB, .inl (cI, 60, .inl B0)), (aR, .inl (cI, 48, .inl ((rOrd B0 nn R0 tn mm).1)))] := ((((congrArg (fun z_ => ([(o, .inr (4, [.int th, .ref aS, .ref aA, .ref aV, .int sm, .ref aB, .int (nI nn), .int z_, .int (bI (((nNum B0 nn 0 5 (wW B0 nn 64 ((nNum B0 nn 0 15 ((wWd B0 nn tn).2)).2))).2).1)), .ref aR, .int (nI mm), .int ga, .int fi, .int se, .int ex, .long ha])), (aB, .inl (cI, 60, .inl B0)), (aR, .inl (cI, 48, .inl (upd (upd (upd R0 (3 * mm) (nI ((wWd B0 nn tn).1))) ((3 * mm) + 1) ((nNum B0 nn 0 15 ((wWd B0 nn tn).2)).1)) ((3 * mm) + 2) ((nNum B0 nn 0 5 (wW B0 nn 64 ((nNum B0 nn 0 15 ((wWd B0 nn tn).2)).2))).1))))] : va_W)) ec_r141_5_o_7).trans (congrArg (fun z_ => ([(o, .inr (4, [.int th, .ref aS, .ref aA, .ref aV, .int sm, .ref aB, .int (nI nn), .int (nI ((rOrd B0 nn R0 tn mm).2.1.2)), .int z_, .ref aR, .int (nI mm), .int ga, .int fi, .int se, .int ex, .long ha])), (aB, .inl (cI, 60, .inl B0)), (aR, .inl (cI, 48, .inl (upd (upd (upd R0 (3 * mm) (nI ((wWd B0 nn tn).1))) ((3 * mm) + 1) ((nNum B0 nn 0 15 ((wWd B0 nn tn).2)).1)) ((3 * mm) + 2) ((nNum B0 nn 0 5 (wW B0 nn 64 ((nNum B0 nn 0 15 ((wWd B0 nn tn).2)).2))).1))))] : va_W)) ec_r141_5_o_8)).trans (congrArg (fun z_ => ([(o, .inr (4, [.int th, .ref aS, .ref aA, .ref aV, .int sm, .ref aB, .int (nI nn), .int (nI ((rOrd B0 nn R0 tn mm).2.1.2)), .int (bI ((rOrd B0 nn R0 tn mm).2.1.1)), .ref aR, .int z_, .int ga, .int fi, .int se, .int ex, .long ha])), (aB, .inl (cI, 60, .inl B0)), (aR, .inl (cI, 48, .inl (upd (upd (upd R0 (3 * mm) (nI ((wWd B0 nn tn).1))) ((3 * mm) + 1) ((nNum B0 nn 0 15 ((wWd B0 nn tn).2)).1)) ((3 * mm) + 2) ((nNum B0 nn 0 5 (wW B0 nn 64 ((nNum B0 nn 0 15 ((wWd B0 nn tn).2)).2))).1))))] : va_W)) ec_r141_5_o_10)).trans (congrArg (fun z_ => ([(o, .inr (4, [.int th, .ref aS, .ref aA, .ref aV, .int sm, .ref aB, .int (nI nn), .int (nI ((rOrd B0 nn R0 tn mm).2.1.2)), .int (bI ((rOrd B0 nn R0 tn mm).2.1.1)), .ref aR, .int (nI ((rOrd B0 nn R0 tn mm).2.2)), .int ga, .int fi, .int se, .int ex, .long ha])), (aB, .inl (cI, 60, .inl B0)), (aR, .inl (cI, 48, .inl z_))] : va_W)) ec_r141_5_aR))
            have hP9 := (w_cgP ew_r141_5 hP)
            have hD9 := (w_cgD ew_r141_5 hD)
            exact W.vret hx hb hr (fun t ht hW => ⟨⟨(), rfl, trivial, by rw [ht]; exact hP9, va_K.moved hW.alike hK, hD9⟩, hS.F ht⟩) hS.2.2 dX6_readsOrder_141
          · refine lv_iconst (v := (nI 1)) hx hb dX6_readsOrder_132 (by decide) ?_
            refine lv_goto (tgt := 137) hx hb dX6_readsOrder_133 (by decide) ?_
            refine n_iadd hx hb dX6_readsOrder_137 ?_
            refine va_put (D := (dC, dI)) (ci := 4) (v := .int (nI (mm + 1))) (ty := .int) (C := RX6) (T := TX6) (N := 16) hx hb hts hiX6 tyX6 tyX6_ok nmX6 hown hK hP hD hS 0 rfl rfl 10 (by decide) hf155 (fun _ h9 => h9) rfl (by decide +kernel) rfl rfl (Nat.le_of_ble_eq_true rfl) dX6_readsOrder_138 (fun H locs hP hD hS => ?_)
            replace hP : va_P (dC, dI) vwCl [(o, .inr (4, [.int th, .ref aS, .ref aA, .ref aV, .int sm, .ref aB, .int (nI nn), .int (nI (((nNum B0 nn 0 5 (wW B0 nn 64 ((nNum B0 nn 0 15 ((wWd B0 nn tn).2)).2))).2).2)), .int (bI (((nNum B0 nn 0 5 (wW B0 nn 64 ((nNum B0 nn 0 15 ((wWd B0 nn tn).2)).2))).2).1)), .ref aR, .int (nI (mm + 1)), .int ga, .int fi, .int se, .int ex, .long ha])), (aB, .inl (cI, 60, .inl B0)), (aR, .inl (cI, 48, .inl (upd (upd (upd R0 (3 * mm) (nI ((wWd B0 nn tn).1))) ((3 * mm) + 1) ((nNum B0 nn 0 15 ((wWd B0 nn tn).2)).1)) ((3 * mm) + 2) ((nNum B0 nn 0 5 (wW B0 nn 64 ((nNum B0 nn 0 15 ((wWd B0 nn tn).2)).2))).1))))] H := hP
            replace hD : va_D A [(o, .inr (4, [.int th, .ref aS, .ref aA, .ref aV, .int sm, .ref aB, .int (nI nn), .int (nI (((nNum B0 nn 0 5 (wW B0 nn 64 ((nNum B0 nn 0 15 ((wWd B0 nn tn).2)).2))).2).2)), .int (bI (((nNum B0 nn 0 5 (wW B0 nn 64 ((nNum B0 nn 0 15 ((wWd B0 nn tn).2)).2))).2).1)), .ref aR, .int (nI (mm + 1)), .int ga, .int fi, .int se, .int ex, .long ha])), (aB, .inl (cI, 60, .inl B0)), (aR, .inl (cI, 48, .inl (upd (upd (upd R0 (3 * mm) (nI ((wWd B0 nn tn).1))) ((3 * mm) + 1) ((nNum B0 nn 0 15 ((wWd B0 nn tn).2)).1)) ((3 * mm) + 2) ((nNum B0 nn 0 5 (wW B0 nn 64 ((nNum B0 nn 0 15 ((wWd B0 nn tn).2)).2))).1))))] := hD
            have ec_r141_6_o_7 : (nI (((nNum B0 nn 0 5 (wW B0 nn 64 ((nNum B0 nn 0 15 ((wWd B0 nn tn).2)).2))).2).2)) = (nI ((rOrd B0 nn R0 tn mm).2.1.2)) := by first | rfl | (first | (rw [rOrd, if_neg c_21, if_neg c_44, if_neg c_67, if_pos c_72]; done) | (rw [rOrd, if_neg c_21, if_neg c_44, if_neg c_67, if_pos c_72]; simp [b1, c_129]; done))
            have ec_r141_6_o_8 : (bI (((nNum B0 nn 0 5 (wW B0 nn 64 ((nNum B0 nn 0 15 ((wWd B0 nn tn).2)).2))).2).1)) = (bI ((rOrd B0 nn R0 tn mm).2.1.1)) := by first | rfl | (first | (rw [rOrd, if_neg c_21, if_neg c_44, if_neg c_67, if_pos c_72]; done) | (rw [rOrd, if_neg c_21, if_neg c_44, if_neg c_67, if_pos c_72]; simp [b1, c_129]; done))
            have ec_r141_6_o_10 : (nI (mm + 1)) = (nI ((rOrd B0 nn R0 tn mm).2.2)) := by first | rfl | (first | (rw [rOrd, if_neg c_21, if_neg c_44, if_neg c_67, if_pos c_72]; done) | (rw [rOrd, if_neg c_21, if_neg c_44, if_neg c_67, if_pos c_72]; simp [b1, c_129]; done))
            have ec_r141_6_aR : upd (upd (upd R0 (3 * mm) (nI ((wWd B0 nn tn).1))) ((3 * mm) + 1) ((nNum B0 nn 0 15 ((wWd B0 nn tn).2)).1)) ((3 * mm) + 2) ((nNum B0 nn 0 5 (wW B0 nn 64 ((nNum B0 nn 0 15 ((wWd B0 nn tn).2)).2))).1) = (rOrd B0 nn R0 tn mm).1 := by first | rfl | (first | (rw [rOrd, if_neg c_21, if_neg c_44, if_neg c_67, if_pos c_72]; done) | (rw [rOrd, if_neg c_21, if_neg c_44, if_neg c_67, if_pos c_72]; simp [b1, c_129]; done))
            have ew_r141_6 : ([(o, .inr (4, [.int th, .ref aS, .ref aA, .ref aV, .int sm, .ref aB, .int (nI nn), .int (nI (((nNum B0 nn 0 5 (wW B0 nn 64 ((nNum B0 nn 0 15 ((wWd B0 nn tn).2)).2))).2).2)), .int (bI (((nNum B0 nn 0 5 (wW B0 nn 64 ((nNum B0 nn 0 15 ((wWd B0 nn tn).2)).2))).2).1)), .ref aR, .int (nI (mm + 1)), .int ga, .int fi, .int se, .int ex, .long ha])), (aB, .inl (cI, 60, .inl B0)), (aR, .inl (cI, 48, .inl (upd (upd (upd R0 (3 * mm) (nI ((wWd B0 nn tn).1))) ((3 * mm) + 1) ((nNum B0 nn 0 15 ((wWd B0 nn tn).2)).1)) ((3 * mm) + 2) ((nNum B0 nn 0 5 (wW B0 nn 64 ((nNum B0 nn 0 15 ((wWd B0 nn tn).2)).2))).1))))] : va_W) = [(o, .inr (4, [.int th, .ref aS, .ref aA, .ref aV, .int sm, .ref aB, .int (nI nn), .int (nI ((rOrd B0 nn R0 tn mm).2.1.2)), .int (bI ((rOrd B0 nn R0 tn mm).2.1.1)), .ref aR, .int (nI ((rOrd B0 nn R0 tn mm).2.2)), .int ga, .int fi, .int se, .int ex, .long ha])), (aB, .inl (cI, 60, .inl B0)), (aR, .inl (cI, 48, .inl ((rOrd B0 nn R0 tn mm).1)))] := ((((congrArg (fun z_ => ([(o, .inr (4, [.int th, .ref aS, .ref aA, .ref aV, .int sm, .ref aB, .int (nI nn), .int z_, .int (bI (((nNum B0 nn 0 5 (wW B0 nn 64 ((nNum B0 nn 0 15 ((wWd B0 nn tn).2)).2))).2).1)), .ref aR, .int (nI (mm + 1)), .int ga, .int fi, .int se, .int ex, .long ha])), (aB, .inl (cI, 60, .inl B0)), (aR, .inl (cI, 48, .inl (upd (upd (upd R0 (3 * mm) (nI ((wWd B0 nn tn).1))) ((3 * mm) + 1) ((nNum B0 nn 0 15 ((wWd B0 nn tn).2)).1)) ((3 * mm) + 2) ((nNum B0 nn 0 5 (wW B0 nn 64 ((nNum B0 nn 0 15 ((wWd B0 nn tn).2)).2))).1))))] : va_W)) ec_r141_6_o_7).trans (congrArg (fun z_ => ([(o, .inr (4, [.int th, .ref aS, .ref aA, .ref aV, .int sm, .ref aB, .int (nI nn), .int (nI ((rOrd B0 nn R0 tn mm).2.1.2)), .int z_, .ref aR, .int (nI (mm + 1)), .int ga, .int fi, .int se, .int ex, .long ha])), (aB, .inl (cI, 60, .inl B0)), (aR, .inl (cI, 48, .inl (upd (upd (upd R0 (3 * mm) (nI ((wWd B0 nn tn).1))) ((3 * mm) + 1) ((nNum B0 nn 0 15 ((wWd B0 nn tn).2)).1)) ((3 * mm) + 2) ((nNum B0 nn 0 5 (wW B0 nn 64 ((nNum B0 nn 0 15 ((wWd B0 nn tn).2)).2))).1))))] : va_W)) ec_r141_6_o_8)).trans (congrArg (fun z_ => ([(o, .inr (4, [.int th, .ref aS, .ref aA, .ref aV, .int sm, .ref aB, .int (nI nn), .int (nI ((rOrd B0 nn R0 tn mm).2.1.2)), .int (bI ((rOrd B0 nn R0 tn mm).2.1.1)), .ref aR, .int z_, .int ga, .int fi, .int se, .int ex, .long ha])), (aB, .inl (cI, 60, .inl B0)), (aR, .inl (cI, 48, .inl (upd (upd (upd R0 (3 * mm) (nI ((wWd B0 nn tn).1))) ((3 * mm) + 1) ((nNum B0 nn 0 15 ((wWd B0 nn tn).2)).1)) ((3 * mm) + 2) ((nNum B0 nn 0 5 (wW B0 nn 64 ((nNum B0 nn 0 15 ((wWd B0 nn tn).2)).2))).1))))] : va_W)) ec_r141_6_o_10)).trans (congrArg (fun z_ => ([(o, .inr (4, [.int th, .ref aS, .ref aA, .ref aV, .int sm, .ref aB, .int (nI nn), .int (nI ((rOrd B0 nn R0 tn mm).2.1.2)), .int (bI ((rOrd B0 nn R0 tn mm).2.1.1)), .ref aR, .int (nI ((rOrd B0 nn R0 tn mm).2.2)), .int ga, .int fi, .int se, .int ex, .long ha])), (aB, .inl (cI, 60, .inl B0)), (aR, .inl (cI, 48, .inl z_))] : va_W)) ec_r141_6_aR))
            have hP9 := (w_cgP ew_r141_6 hP)
            have hD9 := (w_cgD ew_r141_6 hD)
            exact W.vret hx hb hr (fun t ht hW => ⟨⟨(), rfl, trivial, by rw [ht]; exact hP9, va_K.moved hW.alike hK, hD9⟩, hS.F ht⟩) hS.2.2 dX6_readsOrder_141
    · refine lv_aload_n hx hb dX6_readsOrder_47 rfl (lv_at hl 2 rfl) ?_
      refine va_get (D := (dC, dI)) (ci := 4) (v := .ref aR) (C := RX6) (T := TX6) (N := 16) hx hb hts hiX6 hown hK hP 0 rfl rfl 9 (by decide) hf22 (fun _ h9 => h9) rfl dX6_readsOrder_48 ?_
      refine lv_iload_n hx hb dX6_readsOrder_51 rfl (lv_at hl 1 rfl) ?_
      refine lv_iconst (v := (nI 1)) hx hb dX6_readsOrder_52 (by decide) ?_
      refine n_iadd hx hb dX6_readsOrder_53 ?_
      refine lv_aload_n hx hb dX6_readsOrder_54 rfl (lv_at hl 2 rfl) ?_
      refine lv_iconst (v := (nI 1)) hx hb dX6_readsOrder_55 (by decide) ?_
      refine lv_bipush (v := (nI 20)) hx hb dX6_readsOrder_56 (by decide) ?_
      have hPc := hP.sub (ws' := [(o, .inr (4, [.int th, .ref aS, .ref aA, .ref aV, .int sm, .ref aB, .int (nI nn), .int (nI (((wWd B0 nn tn).2).2)), .int (bI (((wWd B0 nn tn).2).1)), .ref aR, .int (nI mm), .int ga, .int fi, .int se, .int ex, .long ha])), (aB, .inl (cI, 60, .inl B0))]) [0, 1] rfl
      have hDc := hD.sub (ws' := [(o, .inr (4, [.int th, .ref aS, .ref aA, .ref aV, .int sm, .ref aB, .int (nI nn), .int (nI (((wWd B0 nn tn).2).2)), .int (bI (((wWd B0 nn tn).2).1)), .ref aR, .int (nI mm), .int ga, .int fi, .int se, .int ex, .long ha])), (aB, .inl (cI, 60, .inl B0))]) [0, 1] (by decide) rfl
      have hFc := va_free (wc := [(o, .inr (4, [.int th, .ref aS, .ref aA, .ref aV, .int sm, .ref aB, .int (nI nn), .int (nI (((wWd B0 nn tn).2).2)), .int (bI (((wWd B0 nn tn).2).1)), .ref aR, .int (nI mm), .int ga, .int fi, .int se, .int ex, .long ha])), (aB, .inl (cI, 60, .inl B0))]) hD hS hA [0, 1] rfl
      refine va_calli (va_runV (As := [.int (nI 1), .int (nI 20)]) (rest := [.int (nI ((3 * mm) + 1)), .ref aR]) ⟨hx, hb, hml, hown, hts⟩ (kX6_number l dC dI cI cV cW H.size o th aS aA aV sm aB (((wWd B0 nn tn).2).1) aR (nI mm) ga fi se ex ha B0 nn (((wWd B0 nn tn).2).2) 1 20 (hnn) (hW) (by omega) (by omega)) (cwV 2 hts gX6_readsOrder_X6_number rfl rfl rfl hdX6_number ⟨Nat.le_of_ble_eq_true rfl, Nat.le_of_ble_eq_true rfl⟩) (pW_V hK hP hPc hDc 0 4 rfl rfl rfl) rfl rfl hl.1 rfl (lv_room (Nat.le_of_ble_eq_true rfl)) dX6_readsOrder_58 ⟨Nat.zero_le _, Nat.zero_le _⟩) hS (fun q _ h => hFc q h) hFc (fun r_58 u_ t_ H1 locs ht_ hvm_ hw_ hB_ hz_ hk_ hS => ?_)
      obtain ⟨hP1, -, hD1⟩ := hB_
      rw [ht_] at hP1
      obtain ⟨hP, hD⟩ := va_join (wr := [(aR, .inl (cI, 48, .inl (upd R0 (3 * mm) (nI ((wWd B0 nn tn).1)))))]) (w1 := [(o, .inr (4, [.int th, .ref aS, .ref aA, .ref aV, .int sm, .ref aB, .int (nI nn), .int (nI (((nNum B0 nn 1 20 ((wWd B0 nn tn).2)).2).2)), .int (bI (((nNum B0 nn 1 20 ((wWd B0 nn tn).2)).2).1)), .ref aR, .int (nI mm), .int ga, .int fi, .int se, .int ex, .long ha])), (aB, .inl (cI, 60, .inl B0))]) hP hD [0, 1] [2] rfl rfl (by decide) (by decide) hk_ hFc hP1 hD1
      clear hP1 hD1 hPc hDc hFc hk_ hz_ hvm_ ht_
      generalize H1 = H at hP hS ⊢
      replace hP : va_P (dC, dI) vwCl [(o, .inr (4, [.int th, .ref aS, .ref aA, .ref aV, .int sm, .ref aB, .int (nI nn), .int (nI (((nNum B0 nn 1 20 ((wWd B0 nn tn).2)).2).2)), .int (bI (((nNum B0 nn 1 20 ((wWd B0 nn tn).2)).2).1)), .ref aR, .int (nI mm), .int ga, .int fi, .int se, .int ex, .long ha])), (aB, .inl (cI, 60, .inl B0)), (aR, .inl (cI, 48, .inl (upd R0 (3 * mm) (nI ((wWd B0 nn tn).1)))))] H := hP.sub [1, 2, 0] rfl
      replace hD : va_D A [(o, .inr (4, [.int th, .ref aS, .ref aA, .ref aV, .int sm, .ref aB, .int (nI nn), .int (nI (((nNum B0 nn 1 20 ((wWd B0 nn tn).2)).2).2)), .int (bI (((nNum B0 nn 1 20 ((wWd B0 nn tn).2)).2).1)), .ref aR, .int (nI mm), .int ga, .int fi, .int se, .int ex, .long ha])), (aB, .inl (cI, 60, .inl B0)), (aR, .inl (cI, 48, .inl (upd R0 (3 * mm) (nI ((wWd B0 nn tn).1)))))] := hD.sub [1, 2, 0] (by decide) rfl
      refine W.widen (k := 0) (n := 0) (Nat.le_refl 0) (Nat.le_refl 0) ?_
      have hw_ : r_58 = ((nNum B0 nn 1 20 ((wWd B0 nn tn).2)).1) := hw_
      subst hw_
      refine n_iast hx hb hK hP hD hS 2 0 rfl rfl (show (3 * mm) + 1 < 48 from by omega) (by decide) dX6_readsOrder_61 (fun H locs hP hD hS => ?_)
      replace hP : va_P (dC, dI) vwCl [(o, .inr (4, [.int th, .ref aS, .ref aA, .ref aV, .int sm, .ref aB, .int (nI nn), .int (nI (((nNum B0 nn 1 20 ((wWd B0 nn tn).2)).2).2)), .int (bI (((nNum B0 nn 1 20 ((wWd B0 nn tn).2)).2).1)), .ref aR, .int (nI mm), .int ga, .int fi, .int se, .int ex, .long ha])), (aB, .inl (cI, 60, .inl B0)), (aR, .inl (cI, 48, .inl (upd (upd R0 (3 * mm) (nI ((wWd B0 nn tn).1))) ((3 * mm) + 1) ((nNum B0 nn 1 20 ((wWd B0 nn tn).2)).1))))] H := hP
      replace hD : va_D A [(o, .inr (4, [.int th, .ref aS, .ref aA, .ref aV, .int sm, .ref aB, .int (nI nn), .int (nI (((nNum B0 nn 1 20 ((wWd B0 nn tn).2)).2).2)), .int (bI (((nNum B0 nn 1 20 ((wWd B0 nn tn).2)).2).1)), .ref aR, .int (nI mm), .int ga, .int fi, .int se, .int ex, .long ha])), (aB, .inl (cI, 60, .inl B0)), (aR, .inl (cI, 48, .inl (upd (upd R0 (3 * mm) (nI ((wWd B0 nn tn).1))) ((3 * mm) + 1) ((nNum B0 nn 1 20 ((wWd B0 nn tn).2)).1))))] := hD
      refine lv_goto (tgt := 90) hx hb dX6_readsOrder_62 (by decide) ?_
      refine lv_iload_n hx hb dX6_readsOrder_90 rfl (lv_at hl 0 rfl) ?_
      refine lv_iconst (v := (nI 1)) hx hb dX6_readsOrder_91 (by decide) ?_
      refine n_icmp_eq (tgt := 100) hx hb dX6_readsOrder_92 (by decide) (by omega) (by omega) (fun c_92 => (by exfalso; omega)) (fun c_92 => ?_)
      refine lv_iload_n hx hb dX6_readsOrder_95 rfl (lv_at hl 0 rfl) ?_
      refine lv_iconst (v := (nI 3)) hx hb dX6_readsOrder_96 (by decide) ?_
      refine n_icmp_ne (tgt := 120) hx hb dX6_readsOrder_97 (by decide) (by omega) (by omega) (fun c_97 => ?_) (fun c_97 => (by exfalso; omega))
      refine lv_aload_n hx hb dX6_readsOrder_120 rfl (lv_at hl 2 rfl) ?_
      refine lv_dup hx hb dX6_readsOrder_121 rfl ?_
      refine va_get (D := (dC, dI)) (ci := 4) (v := .int (nI mm)) (C := RX6) (T := TX6) (N := 16) hx hb hts hiX6 hown hK hP 0 rfl rfl 10 (by decide) hf155 (fun _ h9 => h9) rfl dX6_readsOrder_122 ?_
      refine lv_aload_n hx hb dX6_readsOrder_125 rfl (lv_at hl 2 rfl) ?_
      refine va_get (D := (dC, dI)) (ci := 4) (v := .int (bI (((nNum B0 nn 1 20 ((wWd B0 nn tn).2)).2).1))) (C := RX6) (T := TX6) (N := 16) hx hb hts hiX6 hown hK hP 0 rfl rfl 8 (by decide) hf141 (fun _ h9 => h9) rfl dX6_readsOrder_126 ?_
      refine b_if_eq (tgt := 136) hx hb dX6_readsOrder_129 (by decide) (fun c_129 => ?_) (fun c_129 => ?_)
      · refine lv_iconst (v := (nI 0)) hx hb dX6_readsOrder_136 (by decide) ?_
        refine n_iadd hx hb dX6_readsOrder_137 ?_
        refine va_put (D := (dC, dI)) (ci := 4) (v := .int (nI mm)) (ty := .int) (C := RX6) (T := TX6) (N := 16) hx hb hts hiX6 tyX6 tyX6_ok nmX6 hown hK hP hD hS 0 rfl rfl 10 (by decide) hf155 (fun _ h9 => h9) rfl (by decide +kernel) rfl rfl (Nat.le_of_ble_eq_true rfl) dX6_readsOrder_138 (fun H locs hP hD hS => ?_)
        replace hP : va_P (dC, dI) vwCl [(o, .inr (4, [.int th, .ref aS, .ref aA, .ref aV, .int sm, .ref aB, .int (nI nn), .int (nI (((nNum B0 nn 1 20 ((wWd B0 nn tn).2)).2).2)), .int (bI (((nNum B0 nn 1 20 ((wWd B0 nn tn).2)).2).1)), .ref aR, .int (nI mm), .int ga, .int fi, .int se, .int ex, .long ha])), (aB, .inl (cI, 60, .inl B0)), (aR, .inl (cI, 48, .inl (upd (upd R0 (3 * mm) (nI ((wWd B0 nn tn).1))) ((3 * mm) + 1) ((nNum B0 nn 1 20 ((wWd B0 nn tn).2)).1))))] H := hP
        replace hD : va_D A [(o, .inr (4, [.int th, .ref aS, .ref aA, .ref aV, .int sm, .ref aB, .int (nI nn), .int (nI (((nNum B0 nn 1 20 ((wWd B0 nn tn).2)).2).2)), .int (bI (((nNum B0 nn 1 20 ((wWd B0 nn tn).2)).2).1)), .ref aR, .int (nI mm), .int ga, .int fi, .int se, .int ex, .long ha])), (aB, .inl (cI, 60, .inl B0)), (aR, .inl (cI, 48, .inl (upd (upd R0 (3 * mm) (nI ((wWd B0 nn tn).1))) ((3 * mm) + 1) ((nNum B0 nn 1 20 ((wWd B0 nn tn).2)).1))))] := hD
        have ec_r141_7_o_7 : (nI (((nNum B0 nn 1 20 ((wWd B0 nn tn).2)).2).2)) = (nI ((rOrd B0 nn R0 tn mm).2.1.2)) := by first | rfl | (first | (rw [rOrd, if_neg c_21, if_pos c_44]; done) | (rw [rOrd, if_neg c_21, if_pos c_44]; simp [b1, c_129]; done))
        have ec_r141_7_o_8 : (bI (((nNum B0 nn 1 20 ((wWd B0 nn tn).2)).2).1)) = (bI ((rOrd B0 nn R0 tn mm).2.1.1)) := by first | rfl | (first | (rw [rOrd, if_neg c_21, if_pos c_44]; done) | (rw [rOrd, if_neg c_21, if_pos c_44]; simp [b1, c_129]; done))
        have ec_r141_7_o_10 : (nI mm) = (nI ((rOrd B0 nn R0 tn mm).2.2)) := by first | rfl | (first | (rw [rOrd, if_neg c_21, if_pos c_44]; done) | (rw [rOrd, if_neg c_21, if_pos c_44]; simp [b1, c_129]; done))
        have ec_r141_7_aR : upd (upd R0 (3 * mm) (nI ((wWd B0 nn tn).1))) ((3 * mm) + 1) ((nNum B0 nn 1 20 ((wWd B0 nn tn).2)).1) = (rOrd B0 nn R0 tn mm).1 := by first | rfl | (first | (rw [rOrd, if_neg c_21, if_pos c_44]; done) | (rw [rOrd, if_neg c_21, if_pos c_44]; simp [b1, c_129]; done))
        have ew_r141_7 : ([(o, .inr (4, [.int th, .ref aS, .ref aA, .ref aV, .int sm, .ref aB, .int (nI nn), .int (nI (((nNum B0 nn 1 20 ((wWd B0 nn tn).2)).2).2)), .int (bI (((nNum B0 nn 1 20 ((wWd B0 nn tn).2)).2).1)), .ref aR, .int (nI mm), .int ga, .int fi, .int se, .int ex, .long ha])), (aB, .inl (cI, 60, .inl B0)), (aR, .inl (cI, 48, .inl (upd (upd R0 (3 * mm) (nI ((wWd B0 nn tn).1))) ((3 * mm) + 1) ((nNum B0 nn 1 20 ((wWd B0 nn tn).2)).1))))] : va_W) = [(o, .inr (4, [.int th, .ref aS, .ref aA, .ref aV, .int sm, .ref aB, .int (nI nn), .int (nI ((rOrd B0 nn R0 tn mm).2.1.2)), .int (bI ((rOrd B0 nn R0 tn mm).2.1.1)), .ref aR, .int (nI ((rOrd B0 nn R0 tn mm).2.2)), .int ga, .int fi, .int se, .int ex, .long ha])), (aB, .inl (cI, 60, .inl B0)), (aR, .inl (cI, 48, .inl ((rOrd B0 nn R0 tn mm).1)))] := ((((congrArg (fun z_ => ([(o, .inr (4, [.int th, .ref aS, .ref aA, .ref aV, .int sm, .ref aB, .int (nI nn), .int z_, .int (bI (((nNum B0 nn 1 20 ((wWd B0 nn tn).2)).2).1)), .ref aR, .int (nI mm), .int ga, .int fi, .int se, .int ex, .long ha])), (aB, .inl (cI, 60, .inl B0)), (aR, .inl (cI, 48, .inl (upd (upd R0 (3 * mm) (nI ((wWd B0 nn tn).1))) ((3 * mm) + 1) ((nNum B0 nn 1 20 ((wWd B0 nn tn).2)).1))))] : va_W)) ec_r141_7_o_7).trans (congrArg (fun z_ => ([(o, .inr (4, [.int th, .ref aS, .ref aA, .ref aV, .int sm, .ref aB, .int (nI nn), .int (nI ((rOrd B0 nn R0 tn mm).2.1.2)), .int z_, .ref aR, .int (nI mm), .int ga, .int fi, .int se, .int ex, .long ha])), (aB, .inl (cI, 60, .inl B0)), (aR, .inl (cI, 48, .inl (upd (upd R0 (3 * mm) (nI ((wWd B0 nn tn).1))) ((3 * mm) + 1) ((nNum B0 nn 1 20 ((wWd B0 nn tn).2)).1))))] : va_W)) ec_r141_7_o_8)).trans (congrArg (fun z_ => ([(o, .inr (4, [.int th, .ref aS, .ref aA, .ref aV, .int sm, .ref aB, .int (nI nn), .int (nI ((rOrd B0 nn R0 tn mm).2.1.2)), .int (bI ((rOrd B0 nn R0 tn mm).2.1.1)), .ref aR, .int z_, .int ga, .int fi, .int se, .int ex, .long ha])), (aB, .inl (cI, 60, .inl B0)), (aR, .inl (cI, 48, .inl (upd (upd R0 (3 * mm) (nI ((wWd B0 nn tn).1))) ((3 * mm) + 1) ((nNum B0 nn 1 20 ((wWd B0 nn tn).2)).1))))] : va_W)) ec_r141_7_o_10)).trans (congrArg (fun z_ => ([(o, .inr (4, [.int th, .ref aS, .ref aA, .ref aV, .int sm, .ref aB, .int (nI nn), .int (nI ((rOrd B0 nn R0 tn mm).2.1.2)), .int (bI ((rOrd B0 nn R0 tn mm).2.1.1)), .ref aR, .int (nI ((rOrd B0 nn R0 tn mm).2.2)), .int ga, .int fi, .int se, .int ex, .long ha])), (aB, .inl (cI, 60, .inl B0)), (aR, .inl (cI, 48, .inl z_))] : va_W)) ec_r141_7_aR))
        have hP9 := (w_cgP ew_r141_7 hP)
        have hD9 := (w_cgD ew_r141_7 hD)
        exact W.vret hx hb hr (fun t ht hW => ⟨⟨(), rfl, trivial, by rw [ht]; exact hP9, va_K.moved hW.alike hK, hD9⟩, hS.F ht⟩) hS.2.2 dX6_readsOrder_141
      · refine lv_iconst (v := (nI 1)) hx hb dX6_readsOrder_132 (by decide) ?_
        refine lv_goto (tgt := 137) hx hb dX6_readsOrder_133 (by decide) ?_
        refine n_iadd hx hb dX6_readsOrder_137 ?_
        refine va_put (D := (dC, dI)) (ci := 4) (v := .int (nI (mm + 1))) (ty := .int) (C := RX6) (T := TX6) (N := 16) hx hb hts hiX6 tyX6 tyX6_ok nmX6 hown hK hP hD hS 0 rfl rfl 10 (by decide) hf155 (fun _ h9 => h9) rfl (by decide +kernel) rfl rfl (Nat.le_of_ble_eq_true rfl) dX6_readsOrder_138 (fun H locs hP hD hS => ?_)
        replace hP : va_P (dC, dI) vwCl [(o, .inr (4, [.int th, .ref aS, .ref aA, .ref aV, .int sm, .ref aB, .int (nI nn), .int (nI (((nNum B0 nn 1 20 ((wWd B0 nn tn).2)).2).2)), .int (bI (((nNum B0 nn 1 20 ((wWd B0 nn tn).2)).2).1)), .ref aR, .int (nI (mm + 1)), .int ga, .int fi, .int se, .int ex, .long ha])), (aB, .inl (cI, 60, .inl B0)), (aR, .inl (cI, 48, .inl (upd (upd R0 (3 * mm) (nI ((wWd B0 nn tn).1))) ((3 * mm) + 1) ((nNum B0 nn 1 20 ((wWd B0 nn tn).2)).1))))] H := hP
        replace hD : va_D A [(o, .inr (4, [.int th, .ref aS, .ref aA, .ref aV, .int sm, .ref aB, .int (nI nn), .int (nI (((nNum B0 nn 1 20 ((wWd B0 nn tn).2)).2).2)), .int (bI (((nNum B0 nn 1 20 ((wWd B0 nn tn).2)).2).1)), .ref aR, .int (nI (mm + 1)), .int ga, .int fi, .int se, .int ex, .long ha])), (aB, .inl (cI, 60, .inl B0)), (aR, .inl (cI, 48, .inl (upd (upd R0 (3 * mm) (nI ((wWd B0 nn tn).1))) ((3 * mm) + 1) ((nNum B0 nn 1 20 ((wWd B0 nn tn).2)).1))))] := hD
        have ec_r141_8_o_7 : (nI (((nNum B0 nn 1 20 ((wWd B0 nn tn).2)).2).2)) = (nI ((rOrd B0 nn R0 tn mm).2.1.2)) := by first | rfl | (first | (rw [rOrd, if_neg c_21, if_pos c_44]; done) | (rw [rOrd, if_neg c_21, if_pos c_44]; simp [b1, c_129]; done))
        have ec_r141_8_o_8 : (bI (((nNum B0 nn 1 20 ((wWd B0 nn tn).2)).2).1)) = (bI ((rOrd B0 nn R0 tn mm).2.1.1)) := by first | rfl | (first | (rw [rOrd, if_neg c_21, if_pos c_44]; done) | (rw [rOrd, if_neg c_21, if_pos c_44]; simp [b1, c_129]; done))
        have ec_r141_8_o_10 : (nI (mm + 1)) = (nI ((rOrd B0 nn R0 tn mm).2.2)) := by first | rfl | (first | (rw [rOrd, if_neg c_21, if_pos c_44]; done) | (rw [rOrd, if_neg c_21, if_pos c_44]; simp [b1, c_129]; done))
        have ec_r141_8_aR : upd (upd R0 (3 * mm) (nI ((wWd B0 nn tn).1))) ((3 * mm) + 1) ((nNum B0 nn 1 20 ((wWd B0 nn tn).2)).1) = (rOrd B0 nn R0 tn mm).1 := by first | rfl | (first | (rw [rOrd, if_neg c_21, if_pos c_44]; done) | (rw [rOrd, if_neg c_21, if_pos c_44]; simp [b1, c_129]; done))
        have ew_r141_8 : ([(o, .inr (4, [.int th, .ref aS, .ref aA, .ref aV, .int sm, .ref aB, .int (nI nn), .int (nI (((nNum B0 nn 1 20 ((wWd B0 nn tn).2)).2).2)), .int (bI (((nNum B0 nn 1 20 ((wWd B0 nn tn).2)).2).1)), .ref aR, .int (nI (mm + 1)), .int ga, .int fi, .int se, .int ex, .long ha])), (aB, .inl (cI, 60, .inl B0)), (aR, .inl (cI, 48, .inl (upd (upd R0 (3 * mm) (nI ((wWd B0 nn tn).1))) ((3 * mm) + 1) ((nNum B0 nn 1 20 ((wWd B0 nn tn).2)).1))))] : va_W) = [(o, .inr (4, [.int th, .ref aS, .ref aA, .ref aV, .int sm, .ref aB, .int (nI nn), .int (nI ((rOrd B0 nn R0 tn mm).2.1.2)), .int (bI ((rOrd B0 nn R0 tn mm).2.1.1)), .ref aR, .int (nI ((rOrd B0 nn R0 tn mm).2.2)), .int ga, .int fi, .int se, .int ex, .long ha])), (aB, .inl (cI, 60, .inl B0)), (aR, .inl (cI, 48, .inl ((rOrd B0 nn R0 tn mm).1)))] := ((((congrArg (fun z_ => ([(o, .inr (4, [.int th, .ref aS, .ref aA, .ref aV, .int sm, .ref aB, .int (nI nn), .int z_, .int (bI (((nNum B0 nn 1 20 ((wWd B0 nn tn).2)).2).1)), .ref aR, .int (nI (mm + 1)), .int ga, .int fi, .int se, .int ex, .long ha])), (aB, .inl (cI, 60, .inl B0)), (aR, .inl (cI, 48, .inl (upd (upd R0 (3 * mm) (nI ((wWd B0 nn tn).1))) ((3 * mm) + 1) ((nNum B0 nn 1 20 ((wWd B0 nn tn).2)).1))))] : va_W)) ec_r141_8_o_7).trans (congrArg (fun z_ => ([(o, .inr (4, [.int th, .ref aS, .ref aA, .ref aV, .int sm, .ref aB, .int (nI nn), .int (nI ((rOrd B0 nn R0 tn mm).2.1.2)), .int z_, .ref aR, .int (nI (mm + 1)), .int ga, .int fi, .int se, .int ex, .long ha])), (aB, .inl (cI, 60, .inl B0)), (aR, .inl (cI, 48, .inl (upd (upd R0 (3 * mm) (nI ((wWd B0 nn tn).1))) ((3 * mm) + 1) ((nNum B0 nn 1 20 ((wWd B0 nn tn).2)).1))))] : va_W)) ec_r141_8_o_8)).trans (congrArg (fun z_ => ([(o, .inr (4, [.int th, .ref aS, .ref aA, .ref aV, .int sm, .ref aB, .int (nI nn), .int (nI ((rOrd B0 nn R0 tn mm).2.1.2)), .int (bI ((rOrd B0 nn R0 tn mm).2.1.1)), .ref aR, .int z_, .int ga, .int fi, .int se, .int ex, .long ha])), (aB, .inl (cI, 60, .inl B0)), (aR, .inl (cI, 48, .inl (upd (upd R0 (3 * mm) (nI ((wWd B0 nn tn).1))) ((3 * mm) + 1) ((nNum B0 nn 1 20 ((wWd B0 nn tn).2)).1))))] : va_W)) ec_r141_8_o_10)).trans (congrArg (fun z_ => ([(o, .inr (4, [.int th, .ref aS, .ref aA, .ref aV, .int sm, .ref aB, .int (nI nn), .int (nI ((rOrd B0 nn R0 tn mm).2.1.2)), .int (bI ((rOrd B0 nn R0 tn mm).2.1.1)), .ref aR, .int (nI ((rOrd B0 nn R0 tn mm).2.2)), .int ga, .int fi, .int se, .int ex, .long ha])), (aB, .inl (cI, 60, .inl B0)), (aR, .inl (cI, 48, .inl z_))] : va_W)) ec_r141_8_aR))
        have hP9 := (w_cgP ew_r141_8 hP)
        have hD9 := (w_cgD ew_r141_8 hD)
        exact W.vret hx hb hr (fun t ht hW => ⟨⟨(), rfl, trivial, by rw [ht]; exact hP9, va_K.moved hW.alike hK, hD9⟩, hS.F ht⟩) hS.2.2 dX6_readsOrder_141
  · refine lv_aload_n hx hb dX6_readsOrder_24 rfl (lv_at hl 2 rfl) ?_
    refine va_get (D := (dC, dI)) (ci := 4) (v := .ref aR) (C := RX6) (T := TX6) (N := 16) hx hb hts hiX6 hown hK hP 0 rfl rfl 9 (by decide) hf22 (fun _ h9 => h9) rfl dX6_readsOrder_25 ?_
    refine lv_iload_n hx hb dX6_readsOrder_28 rfl (lv_at hl 1 rfl) ?_
    refine lv_iconst (v := (nI 1)) hx hb dX6_readsOrder_29 (by decide) ?_
    refine n_iadd hx hb dX6_readsOrder_30 ?_
    refine lv_aload_n hx hb dX6_readsOrder_31 rfl (lv_at hl 2 rfl) ?_
    refine lv_iconst (v := (nI 1)) hx hb dX6_readsOrder_32 (by decide) ?_
    refine lv_bipush (v := (nI 30)) hx hb dX6_readsOrder_33 (by decide) ?_
    have hPc := hP.sub (ws' := [(o, .inr (4, [.int th, .ref aS, .ref aA, .ref aV, .int sm, .ref aB, .int (nI nn), .int (nI (((wWd B0 nn tn).2).2)), .int (bI (((wWd B0 nn tn).2).1)), .ref aR, .int (nI mm), .int ga, .int fi, .int se, .int ex, .long ha])), (aB, .inl (cI, 60, .inl B0))]) [0, 1] rfl
    have hDc := hD.sub (ws' := [(o, .inr (4, [.int th, .ref aS, .ref aA, .ref aV, .int sm, .ref aB, .int (nI nn), .int (nI (((wWd B0 nn tn).2).2)), .int (bI (((wWd B0 nn tn).2).1)), .ref aR, .int (nI mm), .int ga, .int fi, .int se, .int ex, .long ha])), (aB, .inl (cI, 60, .inl B0))]) [0, 1] (by decide) rfl
    have hFc := va_free (wc := [(o, .inr (4, [.int th, .ref aS, .ref aA, .ref aV, .int sm, .ref aB, .int (nI nn), .int (nI (((wWd B0 nn tn).2).2)), .int (bI (((wWd B0 nn tn).2).1)), .ref aR, .int (nI mm), .int ga, .int fi, .int se, .int ex, .long ha])), (aB, .inl (cI, 60, .inl B0))]) hD hS hA [0, 1] rfl
    refine va_calli (va_runV (As := [.int (nI 1), .int (nI 30)]) (rest := [.int (nI ((3 * mm) + 1)), .ref aR]) ⟨hx, hb, hml, hown, hts⟩ (kX6_number l dC dI cI cV cW H.size o th aS aA aV sm aB (((wWd B0 nn tn).2).1) aR (nI mm) ga fi se ex ha B0 nn (((wWd B0 nn tn).2).2) 1 30 (hnn) (hW) (by omega) (by omega)) (cwV 2 hts gX6_readsOrder_X6_number rfl rfl rfl hdX6_number ⟨Nat.le_of_ble_eq_true rfl, Nat.le_of_ble_eq_true rfl⟩) (pW_V hK hP hPc hDc 0 4 rfl rfl rfl) rfl rfl hl.1 rfl (lv_room (Nat.le_of_ble_eq_true rfl)) dX6_readsOrder_35 ⟨Nat.zero_le _, Nat.zero_le _⟩) hS (fun q _ h => hFc q h) hFc (fun r_35 u_ t_ H1 locs ht_ hvm_ hw_ hB_ hz_ hk_ hS => ?_)
    obtain ⟨hP1, -, hD1⟩ := hB_
    rw [ht_] at hP1
    obtain ⟨hP, hD⟩ := va_join (wr := [(aR, .inl (cI, 48, .inl (upd R0 (3 * mm) (nI ((wWd B0 nn tn).1)))))]) (w1 := [(o, .inr (4, [.int th, .ref aS, .ref aA, .ref aV, .int sm, .ref aB, .int (nI nn), .int (nI (((nNum B0 nn 1 30 ((wWd B0 nn tn).2)).2).2)), .int (bI (((nNum B0 nn 1 30 ((wWd B0 nn tn).2)).2).1)), .ref aR, .int (nI mm), .int ga, .int fi, .int se, .int ex, .long ha])), (aB, .inl (cI, 60, .inl B0))]) hP hD [0, 1] [2] rfl rfl (by decide) (by decide) hk_ hFc hP1 hD1
    clear hP1 hD1 hPc hDc hFc hk_ hz_ hvm_ ht_
    generalize H1 = H at hP hS ⊢
    replace hP : va_P (dC, dI) vwCl [(o, .inr (4, [.int th, .ref aS, .ref aA, .ref aV, .int sm, .ref aB, .int (nI nn), .int (nI (((nNum B0 nn 1 30 ((wWd B0 nn tn).2)).2).2)), .int (bI (((nNum B0 nn 1 30 ((wWd B0 nn tn).2)).2).1)), .ref aR, .int (nI mm), .int ga, .int fi, .int se, .int ex, .long ha])), (aB, .inl (cI, 60, .inl B0)), (aR, .inl (cI, 48, .inl (upd R0 (3 * mm) (nI ((wWd B0 nn tn).1)))))] H := hP.sub [1, 2, 0] rfl
    replace hD : va_D A [(o, .inr (4, [.int th, .ref aS, .ref aA, .ref aV, .int sm, .ref aB, .int (nI nn), .int (nI (((nNum B0 nn 1 30 ((wWd B0 nn tn).2)).2).2)), .int (bI (((nNum B0 nn 1 30 ((wWd B0 nn tn).2)).2).1)), .ref aR, .int (nI mm), .int ga, .int fi, .int se, .int ex, .long ha])), (aB, .inl (cI, 60, .inl B0)), (aR, .inl (cI, 48, .inl (upd R0 (3 * mm) (nI ((wWd B0 nn tn).1)))))] := hD.sub [1, 2, 0] (by decide) rfl
    refine W.widen (k := 0) (n := 0) (Nat.le_refl 0) (Nat.le_refl 0) ?_
    have hw_ : r_35 = ((nNum B0 nn 1 30 ((wWd B0 nn tn).2)).1) := hw_
    subst hw_
    refine n_iast hx hb hK hP hD hS 2 0 rfl rfl (show (3 * mm) + 1 < 48 from by omega) (by decide) dX6_readsOrder_38 (fun H locs hP hD hS => ?_)
    replace hP : va_P (dC, dI) vwCl [(o, .inr (4, [.int th, .ref aS, .ref aA, .ref aV, .int sm, .ref aB, .int (nI nn), .int (nI (((nNum B0 nn 1 30 ((wWd B0 nn tn).2)).2).2)), .int (bI (((nNum B0 nn 1 30 ((wWd B0 nn tn).2)).2).1)), .ref aR, .int (nI mm), .int ga, .int fi, .int se, .int ex, .long ha])), (aB, .inl (cI, 60, .inl B0)), (aR, .inl (cI, 48, .inl (upd (upd R0 (3 * mm) (nI ((wWd B0 nn tn).1))) ((3 * mm) + 1) ((nNum B0 nn 1 30 ((wWd B0 nn tn).2)).1))))] H := hP
    replace hD : va_D A [(o, .inr (4, [.int th, .ref aS, .ref aA, .ref aV, .int sm, .ref aB, .int (nI nn), .int (nI (((nNum B0 nn 1 30 ((wWd B0 nn tn).2)).2).2)), .int (bI (((nNum B0 nn 1 30 ((wWd B0 nn tn).2)).2).1)), .ref aR, .int (nI mm), .int ga, .int fi, .int se, .int ex, .long ha])), (aB, .inl (cI, 60, .inl B0)), (aR, .inl (cI, 48, .inl (upd (upd R0 (3 * mm) (nI ((wWd B0 nn tn).1))) ((3 * mm) + 1) ((nNum B0 nn 1 30 ((wWd B0 nn tn).2)).1))))] := hD
    refine lv_goto (tgt := 90) hx hb dX6_readsOrder_39 (by decide) ?_
    refine lv_iload_n hx hb dX6_readsOrder_90 rfl (lv_at hl 0 rfl) ?_
    refine lv_iconst (v := (nI 1)) hx hb dX6_readsOrder_91 (by decide) ?_
    refine n_icmp_eq (tgt := 100) hx hb dX6_readsOrder_92 (by decide) (by omega) (by omega) (fun c_92 => ?_) (fun c_92 => (by exfalso; omega))
    refine lv_aload_n hx hb dX6_readsOrder_100 rfl (lv_at hl 2 rfl) ?_
    refine lv_bipush (v := (nI 64)) hx hb dX6_readsOrder_101 (by decide) ?_
    have hPc := hP.sub (ws' := [(o, .inr (4, [.int th, .ref aS, .ref aA, .ref aV, .int sm, .ref aB, .int (nI nn), .int (nI (((nNum B0 nn 1 30 ((wWd B0 nn tn).2)).2).2)), .int (bI (((nNum B0 nn 1 30 ((wWd B0 nn tn).2)).2).1)), .ref aR, .int (nI mm), .int ga, .int fi, .int se, .int ex, .long ha])), (aB, .inl (cI, 60, .inl B0))]) [0, 1] rfl
    have hDc := hD.sub (ws' := [(o, .inr (4, [.int th, .ref aS, .ref aA, .ref aV, .int sm, .ref aB, .int (nI nn), .int (nI (((nNum B0 nn 1 30 ((wWd B0 nn tn).2)).2).2)), .int (bI (((nNum B0 nn 1 30 ((wWd B0 nn tn).2)).2).1)), .ref aR, .int (nI mm), .int ga, .int fi, .int se, .int ex, .long ha])), (aB, .inl (cI, 60, .inl B0))]) [0, 1] (by decide) rfl
    have hFc := va_free (wc := [(o, .inr (4, [.int th, .ref aS, .ref aA, .ref aV, .int sm, .ref aB, .int (nI nn), .int (nI (((nNum B0 nn 1 30 ((wWd B0 nn tn).2)).2).2)), .int (bI (((nNum B0 nn 1 30 ((wWd B0 nn tn).2)).2).1)), .ref aR, .int (nI mm), .int ga, .int fi, .int se, .int ex, .long ha])), (aB, .inl (cI, 60, .inl B0))]) hD hS hA [0, 1] rfl
    refine va_callv (va_runV (As := [.int (nI 64)]) (rest := []) ⟨hx, hb, hml, hown, hts⟩ (kX6_wants l dC dI cI cV cW H.size o th aS aA aV sm aB (((nNum B0 nn 1 30 ((wWd B0 nn tn).2)).2).1) aR (nI mm) ga fi se ex ha B0 nn (((nNum B0 nn 1 30 ((wWd B0 nn tn).2)).2).2) 64 (hnn) ((nNum_le (by decide) hW).2.1)) (cwV 1 hts gX6_readsOrder_X6_wants rfl rfl rfl hdX6_wants ⟨Nat.le_of_ble_eq_true rfl, Nat.le_of_ble_eq_true rfl⟩) (pW_V hK hP hPc hDc 0 4 rfl rfl rfl) rfl rfl hl.1 rfl (lv_room (Nat.le_of_ble_eq_true rfl)) dX6_readsOrder_103 ⟨Nat.zero_le _, Nat.zero_le _⟩) hS (fun q _ h => hFc q h) hFc (fun u_ t_ H1 locs ht_ hvm_ hw_ hB_ hz_ hk_ hS => ?_)
    obtain ⟨hP1, -, hD1⟩ := hB_
    rw [ht_] at hP1
    obtain ⟨hP, hD⟩ := va_join (wr := [(aR, .inl (cI, 48, .inl (upd (upd R0 (3 * mm) (nI ((wWd B0 nn tn).1))) ((3 * mm) + 1) ((nNum B0 nn 1 30 ((wWd B0 nn tn).2)).1))))]) (w1 := [(o, .inr (4, [.int th, .ref aS, .ref aA, .ref aV, .int sm, .ref aB, .int (nI nn), .int (nI ((wW B0 nn 64 ((nNum B0 nn 1 30 ((wWd B0 nn tn).2)).2)).2)), .int (bI ((wW B0 nn 64 ((nNum B0 nn 1 30 ((wWd B0 nn tn).2)).2)).1)), .ref aR, .int (nI mm), .int ga, .int fi, .int se, .int ex, .long ha])), (aB, .inl (cI, 60, .inl B0))]) hP hD [0, 1] [2] rfl rfl (by decide) (by decide) hk_ hFc hP1 hD1
    clear hP1 hD1 hPc hDc hFc hk_ hz_ hvm_ ht_
    generalize H1 = H at hP hS ⊢
    replace hP : va_P (dC, dI) vwCl [(o, .inr (4, [.int th, .ref aS, .ref aA, .ref aV, .int sm, .ref aB, .int (nI nn), .int (nI ((wW B0 nn 64 ((nNum B0 nn 1 30 ((wWd B0 nn tn).2)).2)).2)), .int (bI ((wW B0 nn 64 ((nNum B0 nn 1 30 ((wWd B0 nn tn).2)).2)).1)), .ref aR, .int (nI mm), .int ga, .int fi, .int se, .int ex, .long ha])), (aB, .inl (cI, 60, .inl B0)), (aR, .inl (cI, 48, .inl (upd (upd R0 (3 * mm) (nI ((wWd B0 nn tn).1))) ((3 * mm) + 1) ((nNum B0 nn 1 30 ((wWd B0 nn tn).2)).1))))] H := hP.sub [1, 2, 0] rfl
    replace hD : va_D A [(o, .inr (4, [.int th, .ref aS, .ref aA, .ref aV, .int sm, .ref aB, .int (nI nn), .int (nI ((wW B0 nn 64 ((nNum B0 nn 1 30 ((wWd B0 nn tn).2)).2)).2)), .int (bI ((wW B0 nn 64 ((nNum B0 nn 1 30 ((wWd B0 nn tn).2)).2)).1)), .ref aR, .int (nI mm), .int ga, .int fi, .int se, .int ex, .long ha])), (aB, .inl (cI, 60, .inl B0)), (aR, .inl (cI, 48, .inl (upd (upd R0 (3 * mm) (nI ((wWd B0 nn tn).1))) ((3 * mm) + 1) ((nNum B0 nn 1 30 ((wWd B0 nn tn).2)).1))))] := hD.sub [1, 2, 0] (by decide) rfl
    refine W.widen (k := 0) (n := 0) (Nat.le_refl 0) (Nat.le_refl 0) ?_
    refine lv_aload_n hx hb dX6_readsOrder_106 rfl (lv_at hl 2 rfl) ?_
    refine va_get (D := (dC, dI)) (ci := 4) (v := .ref aR) (C := RX6) (T := TX6) (N := 16) hx hb hts hiX6 hown hK hP 0 rfl rfl 9 (by decide) hf22 (fun _ h9 => h9) rfl dX6_readsOrder_107 ?_
    refine lv_iload_n hx hb dX6_readsOrder_110 rfl (lv_at hl 1 rfl) ?_
    refine lv_iconst (v := (nI 2)) hx hb dX6_readsOrder_111 (by decide) ?_
    refine n_iadd hx hb dX6_readsOrder_112 ?_
    refine lv_aload_n hx hb dX6_readsOrder_113 rfl (lv_at hl 2 rfl) ?_
    refine lv_iconst (v := (nI 0)) hx hb dX6_readsOrder_114 (by decide) ?_
    refine lv_iconst (v := (nI 5)) hx hb dX6_readsOrder_115 (by decide) ?_
    have hPc := hP.sub (ws' := [(o, .inr (4, [.int th, .ref aS, .ref aA, .ref aV, .int sm, .ref aB, .int (nI nn), .int (nI ((wW B0 nn 64 ((nNum B0 nn 1 30 ((wWd B0 nn tn).2)).2)).2)), .int (bI ((wW B0 nn 64 ((nNum B0 nn 1 30 ((wWd B0 nn tn).2)).2)).1)), .ref aR, .int (nI mm), .int ga, .int fi, .int se, .int ex, .long ha])), (aB, .inl (cI, 60, .inl B0))]) [0, 1] rfl
    have hDc := hD.sub (ws' := [(o, .inr (4, [.int th, .ref aS, .ref aA, .ref aV, .int sm, .ref aB, .int (nI nn), .int (nI ((wW B0 nn 64 ((nNum B0 nn 1 30 ((wWd B0 nn tn).2)).2)).2)), .int (bI ((wW B0 nn 64 ((nNum B0 nn 1 30 ((wWd B0 nn tn).2)).2)).1)), .ref aR, .int (nI mm), .int ga, .int fi, .int se, .int ex, .long ha])), (aB, .inl (cI, 60, .inl B0))]) [0, 1] (by decide) rfl
    have hFc := va_free (wc := [(o, .inr (4, [.int th, .ref aS, .ref aA, .ref aV, .int sm, .ref aB, .int (nI nn), .int (nI ((wW B0 nn 64 ((nNum B0 nn 1 30 ((wWd B0 nn tn).2)).2)).2)), .int (bI ((wW B0 nn 64 ((nNum B0 nn 1 30 ((wWd B0 nn tn).2)).2)).1)), .ref aR, .int (nI mm), .int ga, .int fi, .int se, .int ex, .long ha])), (aB, .inl (cI, 60, .inl B0))]) hD hS hA [0, 1] rfl
    refine va_calli (va_runV (As := [.int (nI 0), .int (nI 5)]) (rest := [.int (nI ((3 * mm) + 2)), .ref aR]) ⟨hx, hb, hml, hown, hts⟩ (kX6_number l dC dI cI cV cW H.size o th aS aA aV sm aB ((wW B0 nn 64 ((nNum B0 nn 1 30 ((wWd B0 nn tn).2)).2)).1) aR (nI mm) ga fi se ex ha B0 nn ((wW B0 nn 64 ((nNum B0 nn 1 30 ((wWd B0 nn tn).2)).2)).2) 0 5 (hnn) (wW_le (by decide) (nNum_le (by decide) hW).2.1) (by omega) (by omega)) (cwV 2 hts gX6_readsOrder_X6_number rfl rfl rfl hdX6_number ⟨Nat.le_of_ble_eq_true rfl, Nat.le_of_ble_eq_true rfl⟩) (pW_V hK hP hPc hDc 0 4 rfl rfl rfl) rfl rfl hl.1 rfl (lv_room (Nat.le_of_ble_eq_true rfl)) dX6_readsOrder_116 ⟨Nat.zero_le _, Nat.zero_le _⟩) hS (fun q _ h => hFc q h) hFc (fun r_116 u_ t_ H1 locs ht_ hvm_ hw_ hB_ hz_ hk_ hS => ?_)
    obtain ⟨hP1, -, hD1⟩ := hB_
    rw [ht_] at hP1
    obtain ⟨hP, hD⟩ := va_join (wr := [(aR, .inl (cI, 48, .inl (upd (upd R0 (3 * mm) (nI ((wWd B0 nn tn).1))) ((3 * mm) + 1) ((nNum B0 nn 1 30 ((wWd B0 nn tn).2)).1))))]) (w1 := [(o, .inr (4, [.int th, .ref aS, .ref aA, .ref aV, .int sm, .ref aB, .int (nI nn), .int (nI (((nNum B0 nn 0 5 (wW B0 nn 64 ((nNum B0 nn 1 30 ((wWd B0 nn tn).2)).2))).2).2)), .int (bI (((nNum B0 nn 0 5 (wW B0 nn 64 ((nNum B0 nn 1 30 ((wWd B0 nn tn).2)).2))).2).1)), .ref aR, .int (nI mm), .int ga, .int fi, .int se, .int ex, .long ha])), (aB, .inl (cI, 60, .inl B0))]) hP hD [0, 1] [2] rfl rfl (by decide) (by decide) hk_ hFc hP1 hD1
    clear hP1 hD1 hPc hDc hFc hk_ hz_ hvm_ ht_
    generalize H1 = H at hP hS ⊢
    replace hP : va_P (dC, dI) vwCl [(o, .inr (4, [.int th, .ref aS, .ref aA, .ref aV, .int sm, .ref aB, .int (nI nn), .int (nI (((nNum B0 nn 0 5 (wW B0 nn 64 ((nNum B0 nn 1 30 ((wWd B0 nn tn).2)).2))).2).2)), .int (bI (((nNum B0 nn 0 5 (wW B0 nn 64 ((nNum B0 nn 1 30 ((wWd B0 nn tn).2)).2))).2).1)), .ref aR, .int (nI mm), .int ga, .int fi, .int se, .int ex, .long ha])), (aB, .inl (cI, 60, .inl B0)), (aR, .inl (cI, 48, .inl (upd (upd R0 (3 * mm) (nI ((wWd B0 nn tn).1))) ((3 * mm) + 1) ((nNum B0 nn 1 30 ((wWd B0 nn tn).2)).1))))] H := hP.sub [1, 2, 0] rfl
    replace hD : va_D A [(o, .inr (4, [.int th, .ref aS, .ref aA, .ref aV, .int sm, .ref aB, .int (nI nn), .int (nI (((nNum B0 nn 0 5 (wW B0 nn 64 ((nNum B0 nn 1 30 ((wWd B0 nn tn).2)).2))).2).2)), .int (bI (((nNum B0 nn 0 5 (wW B0 nn 64 ((nNum B0 nn 1 30 ((wWd B0 nn tn).2)).2))).2).1)), .ref aR, .int (nI mm), .int ga, .int fi, .int se, .int ex, .long ha])), (aB, .inl (cI, 60, .inl B0)), (aR, .inl (cI, 48, .inl (upd (upd R0 (3 * mm) (nI ((wWd B0 nn tn).1))) ((3 * mm) + 1) ((nNum B0 nn 1 30 ((wWd B0 nn tn).2)).1))))] := hD.sub [1, 2, 0] (by decide) rfl
    refine W.widen (k := 0) (n := 0) (Nat.le_refl 0) (Nat.le_refl 0) ?_
    have hw_ : r_116 = ((nNum B0 nn 0 5 (wW B0 nn 64 ((nNum B0 nn 1 30 ((wWd B0 nn tn).2)).2))).1) := hw_
    subst hw_
    refine n_iast hx hb hK hP hD hS 2 0 rfl rfl (show (3 * mm) + 2 < 48 from by omega) (by decide) dX6_readsOrder_119 (fun H locs hP hD hS => ?_)
    replace hP : va_P (dC, dI) vwCl [(o, .inr (4, [.int th, .ref aS, .ref aA, .ref aV, .int sm, .ref aB, .int (nI nn), .int (nI (((nNum B0 nn 0 5 (wW B0 nn 64 ((nNum B0 nn 1 30 ((wWd B0 nn tn).2)).2))).2).2)), .int (bI (((nNum B0 nn 0 5 (wW B0 nn 64 ((nNum B0 nn 1 30 ((wWd B0 nn tn).2)).2))).2).1)), .ref aR, .int (nI mm), .int ga, .int fi, .int se, .int ex, .long ha])), (aB, .inl (cI, 60, .inl B0)), (aR, .inl (cI, 48, .inl (upd (upd (upd R0 (3 * mm) (nI ((wWd B0 nn tn).1))) ((3 * mm) + 1) ((nNum B0 nn 1 30 ((wWd B0 nn tn).2)).1)) ((3 * mm) + 2) ((nNum B0 nn 0 5 (wW B0 nn 64 ((nNum B0 nn 1 30 ((wWd B0 nn tn).2)).2))).1))))] H := hP
    replace hD : va_D A [(o, .inr (4, [.int th, .ref aS, .ref aA, .ref aV, .int sm, .ref aB, .int (nI nn), .int (nI (((nNum B0 nn 0 5 (wW B0 nn 64 ((nNum B0 nn 1 30 ((wWd B0 nn tn).2)).2))).2).2)), .int (bI (((nNum B0 nn 0 5 (wW B0 nn 64 ((nNum B0 nn 1 30 ((wWd B0 nn tn).2)).2))).2).1)), .ref aR, .int (nI mm), .int ga, .int fi, .int se, .int ex, .long ha])), (aB, .inl (cI, 60, .inl B0)), (aR, .inl (cI, 48, .inl (upd (upd (upd R0 (3 * mm) (nI ((wWd B0 nn tn).1))) ((3 * mm) + 1) ((nNum B0 nn 1 30 ((wWd B0 nn tn).2)).1)) ((3 * mm) + 2) ((nNum B0 nn 0 5 (wW B0 nn 64 ((nNum B0 nn 1 30 ((wWd B0 nn tn).2)).2))).1))))] := hD
    refine lv_aload_n hx hb dX6_readsOrder_120 rfl (lv_at hl 2 rfl) ?_
    refine lv_dup hx hb dX6_readsOrder_121 rfl ?_
    refine va_get (D := (dC, dI)) (ci := 4) (v := .int (nI mm)) (C := RX6) (T := TX6) (N := 16) hx hb hts hiX6 hown hK hP 0 rfl rfl 10 (by decide) hf155 (fun _ h9 => h9) rfl dX6_readsOrder_122 ?_
    refine lv_aload_n hx hb dX6_readsOrder_125 rfl (lv_at hl 2 rfl) ?_
    refine va_get (D := (dC, dI)) (ci := 4) (v := .int (bI (((nNum B0 nn 0 5 (wW B0 nn 64 ((nNum B0 nn 1 30 ((wWd B0 nn tn).2)).2))).2).1))) (C := RX6) (T := TX6) (N := 16) hx hb hts hiX6 hown hK hP 0 rfl rfl 8 (by decide) hf141 (fun _ h9 => h9) rfl dX6_readsOrder_126 ?_
    refine b_if_eq (tgt := 136) hx hb dX6_readsOrder_129 (by decide) (fun c_129 => ?_) (fun c_129 => ?_)
    · refine lv_iconst (v := (nI 0)) hx hb dX6_readsOrder_136 (by decide) ?_
      refine n_iadd hx hb dX6_readsOrder_137 ?_
      refine va_put (D := (dC, dI)) (ci := 4) (v := .int (nI mm)) (ty := .int) (C := RX6) (T := TX6) (N := 16) hx hb hts hiX6 tyX6 tyX6_ok nmX6 hown hK hP hD hS 0 rfl rfl 10 (by decide) hf155 (fun _ h9 => h9) rfl (by decide +kernel) rfl rfl (Nat.le_of_ble_eq_true rfl) dX6_readsOrder_138 (fun H locs hP hD hS => ?_)
      replace hP : va_P (dC, dI) vwCl [(o, .inr (4, [.int th, .ref aS, .ref aA, .ref aV, .int sm, .ref aB, .int (nI nn), .int (nI (((nNum B0 nn 0 5 (wW B0 nn 64 ((nNum B0 nn 1 30 ((wWd B0 nn tn).2)).2))).2).2)), .int (bI (((nNum B0 nn 0 5 (wW B0 nn 64 ((nNum B0 nn 1 30 ((wWd B0 nn tn).2)).2))).2).1)), .ref aR, .int (nI mm), .int ga, .int fi, .int se, .int ex, .long ha])), (aB, .inl (cI, 60, .inl B0)), (aR, .inl (cI, 48, .inl (upd (upd (upd R0 (3 * mm) (nI ((wWd B0 nn tn).1))) ((3 * mm) + 1) ((nNum B0 nn 1 30 ((wWd B0 nn tn).2)).1)) ((3 * mm) + 2) ((nNum B0 nn 0 5 (wW B0 nn 64 ((nNum B0 nn 1 30 ((wWd B0 nn tn).2)).2))).1))))] H := hP
      replace hD : va_D A [(o, .inr (4, [.int th, .ref aS, .ref aA, .ref aV, .int sm, .ref aB, .int (nI nn), .int (nI (((nNum B0 nn 0 5 (wW B0 nn 64 ((nNum B0 nn 1 30 ((wWd B0 nn tn).2)).2))).2).2)), .int (bI (((nNum B0 nn 0 5 (wW B0 nn 64 ((nNum B0 nn 1 30 ((wWd B0 nn tn).2)).2))).2).1)), .ref aR, .int (nI mm), .int ga, .int fi, .int se, .int ex, .long ha])), (aB, .inl (cI, 60, .inl B0)), (aR, .inl (cI, 48, .inl (upd (upd (upd R0 (3 * mm) (nI ((wWd B0 nn tn).1))) ((3 * mm) + 1) ((nNum B0 nn 1 30 ((wWd B0 nn tn).2)).1)) ((3 * mm) + 2) ((nNum B0 nn 0 5 (wW B0 nn 64 ((nNum B0 nn 1 30 ((wWd B0 nn tn).2)).2))).1))))] := hD
      have ec_r141_9_o_7 : (nI (((nNum B0 nn 0 5 (wW B0 nn 64 ((nNum B0 nn 1 30 ((wWd B0 nn tn).2)).2))).2).2)) = (nI ((rOrd B0 nn R0 tn mm).2.1.2)) := by first | rfl | (first | (rw [rOrd, if_pos c_21]; done) | (rw [rOrd, if_pos c_21]; simp [b1, c_129]; done))
      have ec_r141_9_o_8 : (bI (((nNum B0 nn 0 5 (wW B0 nn 64 ((nNum B0 nn 1 30 ((wWd B0 nn tn).2)).2))).2).1)) = (bI ((rOrd B0 nn R0 tn mm).2.1.1)) := by first | rfl | (first | (rw [rOrd, if_pos c_21]; done) | (rw [rOrd, if_pos c_21]; simp [b1, c_129]; done))
      have ec_r141_9_o_10 : (nI mm) = (nI ((rOrd B0 nn R0 tn mm).2.2)) := by first | rfl | (first | (rw [rOrd, if_pos c_21]; done) | (rw [rOrd, if_pos c_21]; simp [b1, c_129]; done))
      have ec_r141_9_aR : upd (upd (upd R0 (3 * mm) (nI ((wWd B0 nn tn).1))) ((3 * mm) + 1) ((nNum B0 nn 1 30 ((wWd B0 nn tn).2)).1)) ((3 * mm) + 2) ((nNum B0 nn 0 5 (wW B0 nn 64 ((nNum B0 nn 1 30 ((wWd B0 nn tn).2)).2))).1) = (rOrd B0 nn R0 tn mm).1 := by first | rfl | (first | (rw [rOrd, if_pos c_21]; done) | (rw [rOrd, if_pos c_21]; simp [b1, c_129]; done))
      have ew_r141_9 : ([(o, .inr (4, [.int th, .ref aS, .ref aA, .ref aV, .int sm, .ref aB, .int (nI nn), .int (nI (((nNum B0 nn 0 5 (wW B0 nn 64 ((nNum B0 nn 1 30 ((wWd B0 nn tn).2)).2))).2).2)), .int (bI (((nNum B0 nn 0 5 (wW B0 nn 64 ((nNum B0 nn 1 30 ((wWd B0 nn tn).2)).2))).2).1)), .ref aR, .int (nI mm), .int ga, .int fi, .int se, .int ex, .long ha])), (aB, .inl (cI, 60, .inl B0)), (aR, .inl (cI, 48, .inl (upd (upd (upd R0 (3 * mm) (nI ((wWd B0 nn tn).1))) ((3 * mm) + 1) ((nNum B0 nn 1 30 ((wWd B0 nn tn).2)).1)) ((3 * mm) + 2) ((nNum B0 nn 0 5 (wW B0 nn 64 ((nNum B0 nn 1 30 ((wWd B0 nn tn).2)).2))).1))))] : va_W) = [(o, .inr (4, [.int th, .ref aS, .ref aA, .ref aV, .int sm, .ref aB, .int (nI nn), .int (nI ((rOrd B0 nn R0 tn mm).2.1.2)), .int (bI ((rOrd B0 nn R0 tn mm).2.1.1)), .ref aR, .int (nI ((rOrd B0 nn R0 tn mm).2.2)), .int ga, .int fi, .int se, .int ex, .long ha])), (aB, .inl (cI, 60, .inl B0)), (aR, .inl (cI, 48, .inl ((rOrd B0 nn R0 tn mm).1)))] := ((((congrArg (fun z_ => ([(o, .inr (4, [.int th, .ref aS, .ref aA, .ref aV, .int sm, .ref aB, .int (nI nn), .int z_, .int (bI (((nNum B0 nn 0 5 (wW B0 nn 64 ((nNum B0 nn 1 30 ((wWd B0 nn tn).2)).2))).2).1)), .ref aR, .int (nI mm), .int ga, .int fi, .int se, .int ex, .long ha])), (aB, .inl (cI, 60, .inl B0)), (aR, .inl (cI, 48, .inl (upd (upd (upd R0 (3 * mm) (nI ((wWd B0 nn tn).1))) ((3 * mm) + 1) ((nNum B0 nn 1 30 ((wWd B0 nn tn).2)).1)) ((3 * mm) + 2) ((nNum B0 nn 0 5 (wW B0 nn 64 ((nNum B0 nn 1 30 ((wWd B0 nn tn).2)).2))).1))))] : va_W)) ec_r141_9_o_7).trans (congrArg (fun z_ => ([(o, .inr (4, [.int th, .ref aS, .ref aA, .ref aV, .int sm, .ref aB, .int (nI nn), .int (nI ((rOrd B0 nn R0 tn mm).2.1.2)), .int z_, .ref aR, .int (nI mm), .int ga, .int fi, .int se, .int ex, .long ha])), (aB, .inl (cI, 60, .inl B0)), (aR, .inl (cI, 48, .inl (upd (upd (upd R0 (3 * mm) (nI ((wWd B0 nn tn).1))) ((3 * mm) + 1) ((nNum B0 nn 1 30 ((wWd B0 nn tn).2)).1)) ((3 * mm) + 2) ((nNum B0 nn 0 5 (wW B0 nn 64 ((nNum B0 nn 1 30 ((wWd B0 nn tn).2)).2))).1))))] : va_W)) ec_r141_9_o_8)).trans (congrArg (fun z_ => ([(o, .inr (4, [.int th, .ref aS, .ref aA, .ref aV, .int sm, .ref aB, .int (nI nn), .int (nI ((rOrd B0 nn R0 tn mm).2.1.2)), .int (bI ((rOrd B0 nn R0 tn mm).2.1.1)), .ref aR, .int z_, .int ga, .int fi, .int se, .int ex, .long ha])), (aB, .inl (cI, 60, .inl B0)), (aR, .inl (cI, 48, .inl (upd (upd (upd R0 (3 * mm) (nI ((wWd B0 nn tn).1))) ((3 * mm) + 1) ((nNum B0 nn 1 30 ((wWd B0 nn tn).2)).1)) ((3 * mm) + 2) ((nNum B0 nn 0 5 (wW B0 nn 64 ((nNum B0 nn 1 30 ((wWd B0 nn tn).2)).2))).1))))] : va_W)) ec_r141_9_o_10)).trans (congrArg (fun z_ => ([(o, .inr (4, [.int th, .ref aS, .ref aA, .ref aV, .int sm, .ref aB, .int (nI nn), .int (nI ((rOrd B0 nn R0 tn mm).2.1.2)), .int (bI ((rOrd B0 nn R0 tn mm).2.1.1)), .ref aR, .int (nI ((rOrd B0 nn R0 tn mm).2.2)), .int ga, .int fi, .int se, .int ex, .long ha])), (aB, .inl (cI, 60, .inl B0)), (aR, .inl (cI, 48, .inl z_))] : va_W)) ec_r141_9_aR))
      have hP9 := (w_cgP ew_r141_9 hP)
      have hD9 := (w_cgD ew_r141_9 hD)
      exact W.vret hx hb hr (fun t ht hW => ⟨⟨(), rfl, trivial, by rw [ht]; exact hP9, va_K.moved hW.alike hK, hD9⟩, hS.F ht⟩) hS.2.2 dX6_readsOrder_141
    · refine lv_iconst (v := (nI 1)) hx hb dX6_readsOrder_132 (by decide) ?_
      refine lv_goto (tgt := 137) hx hb dX6_readsOrder_133 (by decide) ?_
      refine n_iadd hx hb dX6_readsOrder_137 ?_
      refine va_put (D := (dC, dI)) (ci := 4) (v := .int (nI (mm + 1))) (ty := .int) (C := RX6) (T := TX6) (N := 16) hx hb hts hiX6 tyX6 tyX6_ok nmX6 hown hK hP hD hS 0 rfl rfl 10 (by decide) hf155 (fun _ h9 => h9) rfl (by decide +kernel) rfl rfl (Nat.le_of_ble_eq_true rfl) dX6_readsOrder_138 (fun H locs hP hD hS => ?_)
      replace hP : va_P (dC, dI) vwCl [(o, .inr (4, [.int th, .ref aS, .ref aA, .ref aV, .int sm, .ref aB, .int (nI nn), .int (nI (((nNum B0 nn 0 5 (wW B0 nn 64 ((nNum B0 nn 1 30 ((wWd B0 nn tn).2)).2))).2).2)), .int (bI (((nNum B0 nn 0 5 (wW B0 nn 64 ((nNum B0 nn 1 30 ((wWd B0 nn tn).2)).2))).2).1)), .ref aR, .int (nI (mm + 1)), .int ga, .int fi, .int se, .int ex, .long ha])), (aB, .inl (cI, 60, .inl B0)), (aR, .inl (cI, 48, .inl (upd (upd (upd R0 (3 * mm) (nI ((wWd B0 nn tn).1))) ((3 * mm) + 1) ((nNum B0 nn 1 30 ((wWd B0 nn tn).2)).1)) ((3 * mm) + 2) ((nNum B0 nn 0 5 (wW B0 nn 64 ((nNum B0 nn 1 30 ((wWd B0 nn tn).2)).2))).1))))] H := hP
      replace hD : va_D A [(o, .inr (4, [.int th, .ref aS, .ref aA, .ref aV, .int sm, .ref aB, .int (nI nn), .int (nI (((nNum B0 nn 0 5 (wW B0 nn 64 ((nNum B0 nn 1 30 ((wWd B0 nn tn).2)).2))).2).2)), .int (bI (((nNum B0 nn 0 5 (wW B0 nn 64 ((nNum B0 nn 1 30 ((wWd B0 nn tn).2)).2))).2).1)), .ref aR, .int (nI (mm + 1)), .int ga, .int fi, .int se, .int ex, .long ha])), (aB, .inl (cI, 60, .inl B0)), (aR, .inl (cI, 48, .inl (upd (upd (upd R0 (3 * mm) (nI ((wWd B0 nn tn).1))) ((3 * mm) + 1) ((nNum B0 nn 1 30 ((wWd B0 nn tn).2)).1)) ((3 * mm) + 2) ((nNum B0 nn 0 5 (wW B0 nn 64 ((nNum B0 nn 1 30 ((wWd B0 nn tn).2)).2))).1))))] := hD
      have ec_r141_10_o_7 : (nI (((nNum B0 nn 0 5 (wW B0 nn 64 ((nNum B0 nn 1 30 ((wWd B0 nn tn).2)).2))).2).2)) = (nI ((rOrd B0 nn R0 tn mm).2.1.2)) := by first | rfl | (first | (rw [rOrd, if_pos c_21]; done) | (rw [rOrd, if_pos c_21]; simp [b1, c_129]; done))
      have ec_r141_10_o_8 : (bI (((nNum B0 nn 0 5 (wW B0 nn 64 ((nNum B0 nn 1 30 ((wWd B0 nn tn).2)).2))).2).1)) = (bI ((rOrd B0 nn R0 tn mm).2.1.1)) := by first | rfl | (first | (rw [rOrd, if_pos c_21]; done) | (rw [rOrd, if_pos c_21]; simp [b1, c_129]; done))
      have ec_r141_10_o_10 : (nI (mm + 1)) = (nI ((rOrd B0 nn R0 tn mm).2.2)) := by first | rfl | (first | (rw [rOrd, if_pos c_21]; done) | (rw [rOrd, if_pos c_21]; simp [b1, c_129]; done))
      have ec_r141_10_aR : upd (upd (upd R0 (3 * mm) (nI ((wWd B0 nn tn).1))) ((3 * mm) + 1) ((nNum B0 nn 1 30 ((wWd B0 nn tn).2)).1)) ((3 * mm) + 2) ((nNum B0 nn 0 5 (wW B0 nn 64 ((nNum B0 nn 1 30 ((wWd B0 nn tn).2)).2))).1) = (rOrd B0 nn R0 tn mm).1 := by first | rfl | (first | (rw [rOrd, if_pos c_21]; done) | (rw [rOrd, if_pos c_21]; simp [b1, c_129]; done))
      have ew_r141_10 : ([(o, .inr (4, [.int th, .ref aS, .ref aA, .ref aV, .int sm, .ref aB, .int (nI nn), .int (nI (((nNum B0 nn 0 5 (wW B0 nn 64 ((nNum B0 nn 1 30 ((wWd B0 nn tn).2)).2))).2).2)), .int (bI (((nNum B0 nn 0 5 (wW B0 nn 64 ((nNum B0 nn 1 30 ((wWd B0 nn tn).2)).2))).2).1)), .ref aR, .int (nI (mm + 1)), .int ga, .int fi, .int se, .int ex, .long ha])), (aB, .inl (cI, 60, .inl B0)), (aR, .inl (cI, 48, .inl (upd (upd (upd R0 (3 * mm) (nI ((wWd B0 nn tn).1))) ((3 * mm) + 1) ((nNum B0 nn 1 30 ((wWd B0 nn tn).2)).1)) ((3 * mm) + 2) ((nNum B0 nn 0 5 (wW B0 nn 64 ((nNum B0 nn 1 30 ((wWd B0 nn tn).2)).2))).1))))] : va_W) = [(o, .inr (4, [.int th, .ref aS, .ref aA, .ref aV, .int sm, .ref aB, .int (nI nn), .int (nI ((rOrd B0 nn R0 tn mm).2.1.2)), .int (bI ((rOrd B0 nn R0 tn mm).2.1.1)), .ref aR, .int (nI ((rOrd B0 nn R0 tn mm).2.2)), .int ga, .int fi, .int se, .int ex, .long ha])), (aB, .inl (cI, 60, .inl B0)), (aR, .inl (cI, 48, .inl ((rOrd B0 nn R0 tn mm).1)))] := ((((congrArg (fun z_ => ([(o, .inr (4, [.int th, .ref aS, .ref aA, .ref aV, .int sm, .ref aB, .int (nI nn), .int z_, .int (bI (((nNum B0 nn 0 5 (wW B0 nn 64 ((nNum B0 nn 1 30 ((wWd B0 nn tn).2)).2))).2).1)), .ref aR, .int (nI (mm + 1)), .int ga, .int fi, .int se, .int ex, .long ha])), (aB, .inl (cI, 60, .inl B0)), (aR, .inl (cI, 48, .inl (upd (upd (upd R0 (3 * mm) (nI ((wWd B0 nn tn).1))) ((3 * mm) + 1) ((nNum B0 nn 1 30 ((wWd B0 nn tn).2)).1)) ((3 * mm) + 2) ((nNum B0 nn 0 5 (wW B0 nn 64 ((nNum B0 nn 1 30 ((wWd B0 nn tn).2)).2))).1))))] : va_W)) ec_r141_10_o_7).trans (congrArg (fun z_ => ([(o, .inr (4, [.int th, .ref aS, .ref aA, .ref aV, .int sm, .ref aB, .int (nI nn), .int (nI ((rOrd B0 nn R0 tn mm).2.1.2)), .int z_, .ref aR, .int (nI (mm + 1)), .int ga, .int fi, .int se, .int ex, .long ha])), (aB, .inl (cI, 60, .inl B0)), (aR, .inl (cI, 48, .inl (upd (upd (upd R0 (3 * mm) (nI ((wWd B0 nn tn).1))) ((3 * mm) + 1) ((nNum B0 nn 1 30 ((wWd B0 nn tn).2)).1)) ((3 * mm) + 2) ((nNum B0 nn 0 5 (wW B0 nn 64 ((nNum B0 nn 1 30 ((wWd B0 nn tn).2)).2))).1))))] : va_W)) ec_r141_10_o_8)).trans (congrArg (fun z_ => ([(o, .inr (4, [.int th, .ref aS, .ref aA, .ref aV, .int sm, .ref aB, .int (nI nn), .int (nI ((rOrd B0 nn R0 tn mm).2.1.2)), .int (bI ((rOrd B0 nn R0 tn mm).2.1.1)), .ref aR, .int z_, .int ga, .int fi, .int se, .int ex, .long ha])), (aB, .inl (cI, 60, .inl B0)), (aR, .inl (cI, 48, .inl (upd (upd (upd R0 (3 * mm) (nI ((wWd B0 nn tn).1))) ((3 * mm) + 1) ((nNum B0 nn 1 30 ((wWd B0 nn tn).2)).1)) ((3 * mm) + 2) ((nNum B0 nn 0 5 (wW B0 nn 64 ((nNum B0 nn 1 30 ((wWd B0 nn tn).2)).2))).1))))] : va_W)) ec_r141_10_o_10)).trans (congrArg (fun z_ => ([(o, .inr (4, [.int th, .ref aS, .ref aA, .ref aV, .int sm, .ref aB, .int (nI nn), .int (nI ((rOrd B0 nn R0 tn mm).2.1.2)), .int (bI ((rOrd B0 nn R0 tn mm).2.1.1)), .ref aR, .int (nI ((rOrd B0 nn R0 tn mm).2.2)), .int ga, .int fi, .int se, .int ex, .long ha])), (aB, .inl (cI, 60, .inl B0)), (aR, .inl (cI, 48, .inl z_))] : va_W)) ec_r141_10_aR))
      have hP9 := (w_cgP ew_r141_10 hP)
      have hD9 := (w_cgD ew_r141_10 hD)
      exact W.vret hx hb hr (fun t ht hW => ⟨⟨(), rfl, trivial, by rw [ht]; exact hP9, va_K.moved hW.alike hK, hD9⟩, hS.F ht⟩) hS.2.2 dX6_readsOrder_141
