theorem hdX4_beginsWith : yX4_beginsWith.cls = RX4 ∧ yX4_beginsWith.cls ≠ "java/lang/invoke/MethodHandle" ∧ yX4_beginsWith.cls ≠ "java/lang/invoke/VarHandle" ∧ (parseMethodDescriptor yX4_beginsWith.desc).map (fun d => d.parameters.length) = some 1 := by decide +kernel
set_option maxHeartbeats 4000000 in
set_option maxRecDepth 100000 in
theorem kX1_wordAhead (l : Launch) (dC : Nat → ClassId) (dI : Nat → Nat → Nat) (cI cV cW : ClassId) (wa sw : Nat) (ad aK aV : Nat → Nat) (x : Nat) (xS : Nat) (xW : Nat) (xN : Nat) (xH : Nat) (nn : Nat) (od : Int32) (tn : Nat) (B0 : Nat → Int32) (hnn : nn ≤ 60) (htn : tn ≤ nn) : Met l yX1_wordAhead wsX1_wordAhead ({ frames := 5, cells := 0, slots := 0, locals := 106 }) (pRi wa sw ad aK aV (dC, dI) (tyS cI cV cW) [.ref x] [(x, .inr (0, [.ref xS, .ref xW, .ref xN, .ref xH, .int (nI nn), .int od, .int (nI tn)])), (xS, .inl (cI, 60, .inl B0))]) (va_Se ad (fun r_ => r_ = cWa (cSg B0 nn tn))) 0 0 (fun _ => False) := by
  refine Met.ofW (cc := cX1_wordAhead) (maxL := 6) (ret := (some (.object "VaultShelves$Word"))) (by decide) rfl ?_
  intro p e s m args below meth c s₁ B hml hv
  obtain ⟨rfl, hP, hK, hIm, hNw⟩ := hv
  have hS : va_S noA s.heap s.heap [] := va_S.rf
  have hx := B.exec
  have hb := B.bytes
  have hr := B.returns
  have hts := atoms_spec (ws := wsX1_wordAhead) B.pre
  have hown : s.vm.findClass RX1 = some m.cls := findClass_of_methodNamed B.named
  have hlocks := B.notSynchronized
  have hiX1 : ∀ w ∈ u_ws RX1 TX1 7, w ∈ wsX1_wordAhead := by decide +kernel
  have hl := lv_entry ([.ref x]) (n := 6) (Nat.le_of_ble_eq_true rfl)
  rw [lg_entry_eq]
  generalize (lg_sl ([.ref x]) ++ List.replicate (6 - (lg_sl ([.ref x])).length) Slot.unset).toArray = ls at hl ⊢
  replace hl : lv_has ls 6 [(0, .ref x)] := hl
  refine lv_aload_n hx hb dX1_wordAhead_0 rfl (lv_at hl 0 rfl) ?_
  refine vp_callSi (W.runV (As := []) (rest := []) ⟨hx, hb, hml, hown, hts⟩ (kX1_signAhead l dC dI cI cV cW x xS xW xN xH nn od tn B0 (hnn) (htn)) (cwV 0 hts gX1_wordAhead_X1_signAhead rfl rfl rfl hdX1_signAhead ⟨Nat.le_of_ble_eq_true rfl, Nat.le_of_ble_eq_true rfl⟩) (pR_V hK hP 0 0 rfl rfl rfl [0, 1] rfl) rfl rfl hl.1 rfl (lv_room (Nat.le_of_ble_eq_true rfl)) dX1_wordAhead_1 ⟨Nat.zero_le _, Nat.zero_le _⟩) (fun r_1 hr_ => ?_)
  subst hr_
  refine lv_istore_n (lv' := [(1, .int (cSg B0 nn tn)), (0, .ref x)]) hx hb dX1_wordAhead_4 rfl hl (by decide) rfl (fun ls hl => ?_)
  refine va_getsN (v := .ref wa) hx hb hIm.1 hS hown (va_Nw.use rfl hNw) (fun _ h9 => h9) dX1_wordAhead_5 ?_
  refine lv_astore_n (lv' := [(2, .ref wa), (1, .int (cSg B0 nn tn)), (0, .ref x)]) hx hb dX1_wordAhead_8 rfl hl (by decide) rfl (fun ls hl => ?_)
  refine lv_aload_n hx hb dX1_wordAhead_9 rfl (lv_at hl 0 rfl) ?_
  refine va_tlen (v := nI 5) hx hb hIm.2.1 hS rfl dX1_wordAhead_10 ?_
  refine lv_istore_n (lv' := [(3, .int (nI 5)), (2, .ref wa), (1, .int (cSg B0 nn tn)), (0, .ref x)]) hx hb dX1_wordAhead_11 rfl hl (by decide) rfl (fun ls hl => ?_)
  refine lv_iconst (v := (nI 0)) hx hb dX1_wordAhead_12 (by decide) ?_
  refine lv_istore (lv' := [(4, .int (nI 0)), (3, .int (nI 5)), (2, .ref wa), (1, .int (cSg B0 nn tn)), (0, .ref x)]) hx hb dX1_wordAhead_13 hl (by decide) rfl (fun ls hl => ?_)
  have hI0 : (fun (i : Nat) ls => (i ≤ 5) ∧ (∀ a, a < i → ¬ wCh a 0 = cSg B0 nn tn) ∧ (lv_has ls 6 [(0, .ref x), (1, .int (cSg B0 nn tn)), (2, .ref wa), (3, .int (nI 5)), (4, .int (nI i))])) 0 ls := ⟨by omega, fun a h => absurd h (Nat.not_lt_zero a), lv_sub hl [4, 3, 2, 1, 0] rfl⟩
  clear hl
  revert ls
  refine lp_ls (fun (i : Nat) ls => (i ≤ 5) ∧ (∀ a, a < i → ¬ wCh a 0 = cSg B0 nn tn) ∧ (lv_has ls 6 [(0, .ref x), (1, .int (cSg B0 nn tn)), (2, .ref wa), (3, .int (nI 5)), (4, .int (nI i))])) (fun (i : Nat) => 5 - i) 0 (fun q_ ls hI ih15 => ?_)
  obtain ⟨i, rfl⟩ : ∃ z, z = q_ := ⟨_, rfl⟩
  obtain ⟨hi, hno, hl⟩ := hI
  refine lv_iload hx hb dX1_wordAhead_15 (lv_at hl 4 rfl) ?_
  refine lv_iload_n hx hb dX1_wordAhead_17 rfl (lv_at hl 3 rfl) ?_
  refine n_icmp_ge (tgt := 45) hx hb dX1_wordAhead_18 (by decide) (by omega) (by omega) (fun c_18 => ?_) (fun c_18 => ?_)
  · have hR9 := cWa_none (fun a ha => hno a (by omega))
    refine lv_null hx hb dX1_wordAhead_45 ?_
    exact W.aret (v := .null) hx hb hr (Or.inl ⟨_, rfl⟩) (Or.inl rfl) (fun t ht hW => ⟨none, rfl, (show none = cWa (cSg B0 nn tn) from by first | rfl | (exact hR9.symm)), ht⟩) (fun q hq => absurd hq List.not_mem_nil) dX1_wordAhead_46
  · refine lv_aload_n hx hb dX1_wordAhead_21 rfl (lv_at hl 2 rfl) ?_
    refine lv_iload hx hb dX1_wordAhead_22 (lv_at hl 4 rfl) ?_
    refine vb_tq (v := .ref (ad i)) hx hb hIm.2.1 hS (vp_in_nI (by omega) (by decide)) (by rw [nI_clamp (by omega)]) dX1_wordAhead_24 ?_
    refine lv_astore (lv' := [(5, .ref (ad i)), (0, .ref x), (1, .int (cSg B0 nn tn)), (2, .ref wa), (3, .int (nI 5)), (4, .int (nI i))]) hx hb dX1_wordAhead_25 hl (by decide) rfl (fun ls hl => ?_)
    refine lv_aload hx hb dX1_wordAhead_27 (lv_at hl 0 rfl) ?_
    refine lv_iload_n hx hb dX1_wordAhead_29 rfl (lv_at hl 2 rfl) ?_
    refine vp_callSi (W.runV (As := [.int (cSg B0 nn tn)]) (rest := []) ⟨hx, hb, hml, hown, hts⟩ (kX4_beginsWith l dC dI cI cV cW wa sw ad aK aV i (cSg B0 nn tn) (by omega)) (cwV 1 hts gX1_wordAhead_X4_beginsWith rfl rfl rfl hdX4_beginsWith ⟨Nat.le_of_ble_eq_true rfl, Nat.le_of_ble_eq_true rfl⟩) (pRi_O hK hP (imR hIm hS) hNw (((hIm.2.2.1 i (by omega)).1.kept hS.2.1).narrow (fun _ h => h.elim)) [] rfl) rfl rfl hl.1 rfl (lv_room (Nat.le_of_ble_eq_true rfl)) dX1_wordAhead_30 ⟨Nat.zero_le _, Nat.zero_le _⟩) (fun r_30 hr_ => ?_)
    subst hr_
    refine b_if_eq (tgt := 39) hx hb dX1_wordAhead_33 (by decide) (fun c_33 => ?_) (fun c_33 => ?_)
    · refine lv_iinc (v := (nI (i + 1))) (lv' := [(4, .int (nI (i + 1))), (5, .ref (ad i)), (0, .ref x), (1, .int (cSg B0 nn tn)), (2, .ref wa), (3, .int (nI 5))]) hx hb dX1_wordAhead_39 hl (k := 5) rfl (n_inc _ 1) (by decide) rfl (fun ls hl => ?_)
      refine lv_goto (tgt := 15) hx hb dX1_wordAhead_42 (by decide) ?_
      exact ih15 (i + 1) ls ⟨by omega, fun a ha => (Nat.lt_or_ge a i).elim (fun q => hno a q) (fun q => by rw [show a = i by omega]; exact of_decide_eq_false c_33), lv_sub hl [2, 3, 4, 5, 0] rfl⟩ (by first | omega | (dsimp only; omega))
    · have hR9 := cWa_some c_18 hno (of_decide_eq_true c_33)
      refine lv_aload hx hb dX1_wordAhead_36 (lv_at hl 0 rfl) ?_
      exact W.aret (v := .ref (ad i)) hx hb hr (Or.inl ⟨_, rfl⟩) (Or.inr ⟨_, rfl⟩) (fun t ht hW => ⟨some i, rfl, (show some i = cWa (cSg B0 nn tn) from by first | rfl | (exact hR9.symm)), ht⟩) (fun q hq => absurd hq List.not_mem_nil) dX1_wordAhead_38
theorem hdX1_readSign : yX1_readSign.cls = RX1 ∧ yX1_readSign.cls ≠ "java/lang/invoke/MethodHandle" ∧ yX1_readSign.cls ≠ "java/lang/invoke/VarHandle" ∧ (parseMethodDescriptor yX1_readSign.desc).map (fun d => d.parameters.length) = some 1 := by decide +kernel
set_option maxHeartbeats 4000000 in
set_option maxRecDepth 100000 in
theorem kX1_readLetters (l : Launch) (dC : Nat → ClassId) (dI : Nat → Nat → Nat) (cI cV cW : ClassId) (wa sw : Nat) (ad aK aV : Nat → Nat) (sz : Nat) (x : Nat) (xS : Nat) (xW : Nat) (xN : Nat) (xH : Nat) (nn : Nat) (od : Int32) (tn : Nat) (B0 : Nat → Int32) (i : Nat) (hnn : nn ≤ 60) (htn : tn ≤ nn) (hi : i < 5) : Met l yX1_readLetters wsX1_readLetters ({ frames := 4, cells := 0, slots := 0, locals := 85 }) (pWi wa sw ad aK aV (dC, dI) (tyS cI cV cW) sz [.ref x, .ref (aK i)] [(x, .inr (0, [.ref xS, .ref xW, .ref xN, .ref xH, .int (nI nn), .int od, .int (nI tn)])), (xS, .inl (cI, 60, .inl B0))]) (va_Qi (fun (r_ : Int32) (_ : Unit) => r_ = (bI ((cLt B0 nn i tn (wLn.getD i 0)).1))) (fun (_ : Unit) t => qB (dC, dI) (tyS cI cV cW) (va_A [(x, .inr (0, [.ref xS, .ref xW, .ref xN, .ref xH, .int (nI nn), .int od, .int (nI tn)])), (xS, .inl (cI, 60, .inl B0))] sz) [(x, .inr (0, [.ref xS, .ref xW, .ref xN, .ref xH, .int (nI nn), .int od, .int (nI ((cLt B0 nn i tn (wLn.getD i 0)).2))])), (xS, .inl (cI, 60, .inl B0))] t) (va_A [(x, .inr (0, [.ref xS, .ref xW, .ref xN, .ref xH, .int (nI nn), .int od, .int (nI tn)])), (xS, .inl (cI, 60, .inl B0))] sz)) 0 0 (va_A [(x, .inr (0, [.ref xS, .ref xW, .ref xN, .ref xH, .int (nI nn), .int od, .int (nI tn)])), (xS, .inl (cI, 60, .inl B0))] sz) := by
  refine Met.ofW (cc := cX1_readLetters) (maxL := 3) (ret := (some .boolean)) (by decide) rfl ?_
  intro p e s m args below meth c s₁ B hml hv
  obtain ⟨rfl, hsz, hP, hK, hD0, hIm, hNw⟩ := hv
  have hx := B.exec
  have hb := B.bytes
  have hr := B.returns
  have hts := atoms_spec (ws := wsX1_readLetters) B.pre
  have hown : s.vm.findClass RX1 = some m.cls := findClass_of_methodNamed B.named
  have hlocks := B.notSynchronized
  subst hsz
  have hD := hD0.self (sz := s.heap.size)
  generalize hAe : va_A [(x, .inr (0, [.ref xS, .ref xW, .ref xN, .ref xH, .int (nI nn), .int od, .int (nI tn)])), (xS, .inl (cI, 60, .inl B0))] s.heap.size = A at hD hIm ⊢
  have hA : ∀ q : Nat, s.heap.size ≤ q → A q := fun q h => by rw [← hAe]; exact Or.inr h
  have hS : va_S A s.heap s.heap [] := va_S.rf
  refine w_gen hP hS (fun H locs hP hS => ?_)
  have hiX1 : ∀ w ∈ u_ws RX1 TX1 7, w ∈ wsX1_readLetters := by decide +kernel
  have hl := lv_entry ([.ref x, .ref (aK i)]) (n := 3) (Nat.le_of_ble_eq_true rfl)
  rw [lg_entry_eq]
  generalize (lg_sl ([.ref x, .ref (aK i)]) ++ List.replicate (3 - (lg_sl ([.ref x, .ref (aK i)])).length) Slot.unset).toArray = ls at hl ⊢
  replace hl : lv_has ls 3 [(0, .ref x), (1, .ref (aK i))] := hl
  have hle := (wLn_le i hi).1
  refine lv_iconst (v := (nI 0)) hx hb dX1_readLetters_0 (by decide) ?_
  refine lv_istore_n (lv' := [(2, .int (nI 0)), (0, .ref x), (1, .ref (aK i))]) hx hb dX1_readLetters_1 rfl hl (by decide) rfl (fun ls hl => ?_)
  have ec_i2_x_6 : (nI tn) = (nI (tn + 0)) := by rfl
  have ew_i2 : ([(x, .inr (0, [.ref xS, .ref xW, .ref xN, .ref xH, .int (nI nn), .int od, .int (nI tn)])), (xS, .inl (cI, 60, .inl B0))] : va_W) = [(x, .inr (0, [.ref xS, .ref xW, .ref xN, .ref xH, .int (nI nn), .int od, .int (nI (tn + 0))])), (xS, .inl (cI, 60, .inl B0))] := (congrArg (fun z_ => ([(x, .inr (0, [.ref xS, .ref xW, .ref xN, .ref xH, .int (nI nn), .int od, .int z_])), (xS, .inl (cI, 60, .inl B0))] : va_W)) ec_i2_x_6)
  have hI0 : (fun (j : Nat) ls H locs => (j ≤ wLn.getD i 0) ∧ (tn + j ≤ nn) ∧ (cLt B0 nn i tn j = (true, tn + j)) ∧ (va_P (dC, dI) vwCl [(x, .inr (0, [.ref xS, .ref xW, .ref xN, .ref xH, .int (nI nn), .int od, .int (nI (tn + j))])), (xS, .inl (cI, 60, .inl B0))] H) ∧ (va_D A [(x, .inr (0, [.ref xS, .ref xW, .ref xN, .ref xH, .int (nI nn), .int od, .int (nI (tn + j))])), (xS, .inl (cI, 60, .inl B0))]) ∧ (va_S A s.heap H locs) ∧ (lv_has ls 3 [(0, .ref x), (1, .ref (aK i)), (2, .int (nI j))])) 0 ls H locs := ⟨by omega, by omega, rfl, (w_cgP ew_i2 hP), (w_cgD ew_i2 hD), hS, lv_sub hl [1, 2, 0] rfl⟩
  clear hl hP hD hS
  revert ls
  revert locs
  revert H
  refine lp_H (fun (j : Nat) ls H locs => (j ≤ wLn.getD i 0) ∧ (tn + j ≤ nn) ∧ (cLt B0 nn i tn j = (true, tn + j)) ∧ (va_P (dC, dI) vwCl [(x, .inr (0, [.ref xS, .ref xW, .ref xN, .ref xH, .int (nI nn), .int od, .int (nI (tn + j))])), (xS, .inl (cI, 60, .inl B0))] H) ∧ (va_D A [(x, .inr (0, [.ref xS, .ref xW, .ref xN, .ref xH, .int (nI nn), .int od, .int (nI (tn + j))])), (xS, .inl (cI, 60, .inl B0))]) ∧ (va_S A s.heap H locs) ∧ (lv_has ls 3 [(0, .ref x), (1, .ref (aK i)), (2, .int (nI j))])) (fun (j : Nat) => wLn.getD i 0 - j) 0 (fun q_ H locs ls hI ih2 => ?_)
  obtain ⟨j, rfl⟩ : ∃ z, z = q_ := ⟨_, rfl⟩
  obtain ⟨hj, ht, hE, hP, hD, hS, hl⟩ := hI
  refine lv_iload_n hx hb dX1_readLetters_2 rfl (lv_at hl 2 rfl) ?_
  refine lv_aload_n hx hb dX1_readLetters_3 rfl (lv_at hl 1 rfl) ?_
  refine vp_callSi (W.runV (As := []) (rest := [.int (nI j)]) ⟨hx, hb, hml, hown, hts⟩ (kJ0_length_8abf5 l dC dI cI cV cW wa sw ad aK aV i (hi)) (cwV 0 hts gX1_readLetters_J0_length_8abf5 rfl rfl rfl hdJ0_length_8abf5 ⟨Nat.le_of_ble_eq_true rfl, Nat.le_of_ble_eq_true rfl⟩) (pRi_O hK hP (imR hIm hS) hNw (((hIm.2.2.2.1.1 i (by omega)).1.kept hS.2.1).narrow (fun _ h => h.elim)) [] rfl) rfl rfl hl.1 rfl (lv_room (Nat.le_of_ble_eq_true rfl)) dX1_readLetters_4 ⟨Nat.zero_le _, Nat.zero_le _⟩) (fun r_4 hr_ => ?_)
  subst hr_
  refine n_icmp_ge (tgt := 30) hx hb dX1_readLetters_7 (by decide) (by omega) (by omega) (fun c_7 => ?_) (fun c_7 => ?_)
  · have hR9 : cLt B0 nn i tn (wLn.getD i 0) = (true, tn + j) := by rw [show wLn.getD i 0 = j by omega]; exact hE
    refine lv_iconst (v := (nI 1)) hx hb dX1_readLetters_30 (by decide) ?_
    have ec_r31_1_x_6 : (nI (tn + j)) = (nI ((cLt B0 nn i tn (wLn.getD i 0)).2)) := by first | rfl | (rw [hR9])
    have ew_r31_1 : ([(x, .inr (0, [.ref xS, .ref xW, .ref xN, .ref xH, .int (nI nn), .int od, .int (nI (tn + j))])), (xS, .inl (cI, 60, .inl B0))] : va_W) = [(x, .inr (0, [.ref xS, .ref xW, .ref xN, .ref xH, .int (nI nn), .int od, .int (nI ((cLt B0 nn i tn (wLn.getD i 0)).2))])), (xS, .inl (cI, 60, .inl B0))] := (congrArg (fun z_ => ([(x, .inr (0, [.ref xS, .ref xW, .ref xN, .ref xH, .int (nI nn), .int od, .int z_])), (xS, .inl (cI, 60, .inl B0))] : va_W)) ec_r31_1_x_6)
    have hP9 := (w_cgP ew_r31_1 hP)
    have hD9 := (w_cgD ew_r31_1 hD)
    exact W.zret (v := (bI true)) hx hb hr (nar_bI _) (fun t ht hW => ⟨⟨(bI true), (), rfl, (congrArg bI (show true = ((cLt B0 nn i tn (wLn.getD i 0)).1) from by first | rfl | (rw [hR9]))), by rw [ht]; exact hP9, va_K.moved hW.alike hK, hD9⟩, hS.F ht⟩) hS.2.2 dX1_readLetters_31
  · refine lv_aload_n hx hb dX1_readLetters_10 rfl (lv_at hl 0 rfl) ?_
    refine lv_aload_n hx hb dX1_readLetters_11 rfl (lv_at hl 1 rfl) ?_
    refine lv_iload_n hx hb dX1_readLetters_12 rfl (lv_at hl 2 rfl) ?_
    refine vp_callSi (W.runV (As := [.int (nI j)]) (rest := [.ref x]) ⟨hx, hb, hml, hown, hts⟩ (kJ0_charAt_5068e l dC dI cI cV cW wa sw ad aK aV i j (hi) (by omega)) (cwV 1 hts gX1_readLetters_J0_charAt_5068e rfl rfl rfl hdJ0_charAt_5068e ⟨Nat.le_of_ble_eq_true rfl, Nat.le_of_ble_eq_true rfl⟩) (pRi_O hK hP (imR hIm hS) hNw (((hIm.2.2.2.1.1 i (by omega)).1.kept hS.2.1).narrow (fun _ h => h.elim)) [] rfl) rfl rfl hl.1 rfl (lv_room (Nat.le_of_ble_eq_true rfl)) dX1_readLetters_13 ⟨Nat.zero_le _, Nat.zero_le _⟩) (fun r_13 hr_ => ?_)
    subst hr_
    have hPc := hP.sub (ws' := [(x, .inr (0, [.ref xS, .ref xW, .ref xN, .ref xH, .int (nI nn), .int od, .int (nI (tn + j))])), (xS, .inl (cI, 60, .inl B0))]) [0, 1] rfl
    have hDc := hD.sub (ws' := [(x, .inr (0, [.ref xS, .ref xW, .ref xN, .ref xH, .int (nI nn), .int od, .int (nI (tn + j))])), (xS, .inl (cI, 60, .inl B0))]) [0, 1] (by decide) rfl
    have hFc := va_free (wc := [(x, .inr (0, [.ref xS, .ref xW, .ref xN, .ref xH, .int (nI nn), .int od, .int (nI (tn + j))])), (xS, .inl (cI, 60, .inl B0))]) hD hS hA [0, 1] rfl
    refine va_calli (va_runV (As := [.int (wCh i j)]) (rest := []) ⟨hx, hb, hml, hown, hts⟩ (kX1_readSign l dC dI cI cV cW H.size x xS xW xN xH nn od (tn + j) B0 (wCh i j) (hnn) (by omega)) (cwV 1 hts gX1_readLetters_X1_readSign rfl rfl rfl hdX1_readSign ⟨Nat.le_of_ble_eq_true rfl, Nat.le_of_ble_eq_true rfl⟩) (pW_V hK hP hPc hDc 0 0 rfl rfl rfl) rfl rfl hl.1 rfl (lv_room (Nat.le_of_ble_eq_true rfl)) dX1_readLetters_16 ⟨Nat.zero_le _, Nat.zero_le _⟩) hS (fun q _ h => hFc q h) hFc (fun r_16 u_ t_ H1 locs ht_ hvm_ hw_ hB_ hz_ hk_ hS => ?_)
    obtain ⟨hP1, -, hD1⟩ := hB_
    rw [ht_] at hP1
    obtain ⟨hP, hD⟩ := va_join (wr := []) (w1 := [(x, .inr (0, [.ref xS, .ref xW, .ref xN, .ref xH, .int (nI nn), .int od, .int (nI (if cSg B0 nn (tn + j) = (wCh i j) then (tn + j) + 1 else (tn + j)))])), (xS, .inl (cI, 60, .inl B0))]) hP hD [0, 1] [] rfl rfl (by decide) (by decide) hk_ hFc hP1 hD1
    clear hP1 hD1 hPc hDc hFc hk_ hz_ hvm_ ht_
    generalize H1 = H at hP hS ⊢
    replace hP : va_P (dC, dI) vwCl [(x, .inr (0, [.ref xS, .ref xW, .ref xN, .ref xH, .int (nI nn), .int od, .int (nI (if cSg B0 nn (tn + j) = (wCh i j) then (tn + j) + 1 else (tn + j)))])), (xS, .inl (cI, 60, .inl B0))] H := hP
    replace hD : va_D A [(x, .inr (0, [.ref xS, .ref xW, .ref xN, .ref xH, .int (nI nn), .int od, .int (nI (if cSg B0 nn (tn + j) = (wCh i j) then (tn + j) + 1 else (tn + j)))])), (xS, .inl (cI, 60, .inl B0))] := hD
    refine W.widen (k := 0) (n := 0) (Nat.le_refl 0) (Nat.le_refl 0) ?_
    have hw_ : r_16 = (bI (decide (cSg B0 nn (tn + j) = (wCh i j)))) := hw_
    subst hw_
    refine b_if_ne (tgt := 24) hx hb dX1_readLetters_19 (by decide) (fun c_19 => ?_) (fun c_19 => ?_)
    · refine lv_iinc (v := (nI (j + 1))) (lv' := [(2, .int (nI (j + 1))), (0, .ref x), (1, .ref (aK i))]) hx hb dX1_readLetters_24 hl (k := 2) rfl (n_inc _ 1) (by decide) rfl (fun ls hl => ?_)
      refine lv_goto (tgt := 2) hx hb dX1_readLetters_27 (by decide) ?_
      have ec_b2_2_x_6 : (nI (if cSg B0 nn (tn + j) = (wCh i j) then (tn + j) + 1 else (tn + j))) = (nI (tn + (j + 1))) := by first | rfl | (rw [if_pos (of_decide_eq_true c_19)]; rfl)
      have ew_b2_2 : ([(x, .inr (0, [.ref xS, .ref xW, .ref xN, .ref xH, .int (nI nn), .int od, .int (nI (if cSg B0 nn (tn + j) = (wCh i j) then (tn + j) + 1 else (tn + j)))])), (xS, .inl (cI, 60, .inl B0))] : va_W) = [(x, .inr (0, [.ref xS, .ref xW, .ref xN, .ref xH, .int (nI nn), .int od, .int (nI (tn + (j + 1)))])), (xS, .inl (cI, 60, .inl B0))] := (congrArg (fun z_ => ([(x, .inr (0, [.ref xS, .ref xW, .ref xN, .ref xH, .int (nI nn), .int od, .int z_])), (xS, .inl (cI, 60, .inl B0))] : va_W)) ec_b2_2_x_6)
      exact ih2 (j + 1) H locs ls ⟨by omega, Nat.succ_le_of_lt (cSg_lt (B := B0) (t := tn + j) (by rw [of_decide_eq_true c_19]; exact wCh_m1 i hi j c_7)), cLt_t hE (of_decide_eq_true c_19), (w_cgP ew_b2_2 hP), (w_cgD ew_b2_2 hD), hS, lv_sub hl [1, 2, 0] rfl⟩ (by first | omega | (dsimp only; omega))
    · have hR9 := cLt_f hE (of_decide_eq_false c_19) (wLn.getD i 0) c_7
      have ef_0_3 : ([(x, .inr (0, [.ref xS, .ref xW, .ref xN, .ref xH, .int (nI nn), .int od, .int (nI (if cSg B0 nn (tn + j) = (wCh i j) then (tn + j) + 1 else (tn + j)))])), (xS, .inl (cI, 60, .inl B0))] : va_W) = [(x, .inr (0, [.ref xS, .ref xW, .ref xN, .ref xH, .int (nI nn), .int od, .int (nI (tn + j))])), (xS, .inl (cI, 60, .inl B0))] := congrArg (fun z_ => ([(x, .inr (0, [.ref xS, .ref xW, .ref xN, .ref xH, .int (nI nn), .int od, .int z_])), (xS, .inl (cI, 60, .inl B0))] : va_W)) (show (nI (if cSg B0 nn (tn + j) = (wCh i j) then (tn + j) + 1 else (tn + j))) = (nI (tn + j)) from by rw [if_neg (of_decide_eq_false c_19)])
      replace hP := w_cgP ef_0_3 hP
      replace hD := w_cgD ef_0_3 hD
      refine lv_iconst (v := (nI 0)) hx hb dX1_readLetters_22 (by decide) ?_
      have ec_r23_4_x_6 : (nI (tn + j)) = (nI ((cLt B0 nn i tn (wLn.getD i 0)).2)) := by first | rfl | (rw [hR9])
      have ew_r23_4 : ([(x, .inr (0, [.ref xS, .ref xW, .ref xN, .ref xH, .int (nI nn), .int od, .int (nI (tn + j))])), (xS, .inl (cI, 60, .inl B0))] : va_W) = [(x, .inr (0, [.ref xS, .ref xW, .ref xN, .ref xH, .int (nI nn), .int od, .int (nI ((cLt B0 nn i tn (wLn.getD i 0)).2))])), (xS, .inl (cI, 60, .inl B0))] := (congrArg (fun z_ => ([(x, .inr (0, [.ref xS, .ref xW, .ref xN, .ref xH, .int (nI nn), .int od, .int z_])), (xS, .inl (cI, 60, .inl B0))] : va_W)) ec_r23_4_x_6)
      have hP9 := (w_cgP ew_r23_4 hP)
      have hD9 := (w_cgD ew_r23_4 hD)
      exact W.zret (v := (bI false)) hx hb hr (nar_bI _) (fun t ht hW => ⟨⟨(bI false), (), rfl, (congrArg bI (show false = ((cLt B0 nn i tn (wLn.getD i 0)).1) from by first | rfl | (rw [hR9]))), by rw [ht]; exact hP9, va_K.moved hW.alike hK, hD9⟩, hS.F ht⟩) hS.2.2 dX1_readLetters_23
set_option maxHeartbeats 4000000 in
set_option maxRecDepth 100000 in
theorem kX1_readNumber (l : Launch) (dC : Nat → ClassId) (dI : Nat → Nat → Nat) (cI cV cW : ClassId) (wa sw : Nat) (ad aK aV : Nat → Nat) (sz : Nat) (x : Nat) (xS : Nat) (xW : Nat) (xN : Nat) (xH : Nat) (nn : Nat) (od : Int32) (tn : Nat) (B0 : Nat → Int32) (Nm : Nat → Int32) (oo : Nat) (i : Nat) (hnn : nn ≤ 60) (htn : tn ≤ nn) (hoo : oo < 60) (hi : i < 5) : Met l yX1_readNumber wsX1_readNumber ({ frames := 2, cells := 0, slots := 0, locals := 41 }) (pWi wa sw ad aK aV (dC, dI) (tyS cI cV cW) sz [.ref x, .int (nI oo), .ref (ad i)] [(x, .inr (0, [.ref xS, .ref xW, .ref xN, .ref xH, .int (nI nn), .int od, .int (nI tn)])), (xS, .inl (cI, 60, .inl B0)), (xN, .inl (cI, 60, .inl Nm))]) (va_Qi (fun (r_ : Int32) (_ : Unit) => r_ = (bI ((cNb B0 nn i tn).1.1))) (fun (_ : Unit) t => qB (dC, dI) (tyS cI cV cW) (va_A [(x, .inr (0, [.ref xS, .ref xW, .ref xN, .ref xH, .int (nI nn), .int od, .int (nI tn)])), (xS, .inl (cI, 60, .inl B0)), (xN, .inl (cI, 60, .inl Nm))] sz) [(x, .inr (0, [.ref xS, .ref xW, .ref xN, .ref xH, .int (nI nn), .int od, .int (nI ((cNb B0 nn i tn).1.2))])), (xS, .inl (cI, 60, .inl B0)), (xN, .inl (cI, 60, .inl (if (cNb B0 nn i tn).1.1 = true then upd Nm oo (cNb B0 nn i tn).2 else Nm)))] t) (va_A [(x, .inr (0, [.ref xS, .ref xW, .ref xN, .ref xH, .int (nI nn), .int od, .int (nI tn)])), (xS, .inl (cI, 60, .inl B0)), (xN, .inl (cI, 60, .inl Nm))] sz)) 0 0 (va_A [(x, .inr (0, [.ref xS, .ref xW, .ref xN, .ref xH, .int (nI nn), .int od, .int (nI tn)])), (xS, .inl (cI, 60, .inl B0)), (xN, .inl (cI, 60, .inl Nm))] sz) := by
  refine Met.ofW (cc := cX1_readNumber) (maxL := 5) (ret := (some .boolean)) (by decide) rfl ?_
  intro p e s m args below meth c s₁ B hml hv
  obtain ⟨rfl, hsz, hP, hK, hD0, hIm, hNw⟩ := hv
  have hx := B.exec
  have hb := B.bytes
  have hr := B.returns
  have hts := atoms_spec (ws := wsX1_readNumber) B.pre
  have hown : s.vm.findClass RX1 = some m.cls := findClass_of_methodNamed B.named
  have hlocks := B.notSynchronized
  subst hsz
  have hD := hD0.self (sz := s.heap.size)
  generalize hAe : va_A [(x, .inr (0, [.ref xS, .ref xW, .ref xN, .ref xH, .int (nI nn), .int od, .int (nI tn)])), (xS, .inl (cI, 60, .inl B0)), (xN, .inl (cI, 60, .inl Nm))] s.heap.size = A at hD hIm ⊢
  have hA : ∀ q : Nat, s.heap.size ≤ q → A q := fun q h => by rw [← hAe]; exact Or.inr h
  have hS : va_S A s.heap s.heap [] := va_S.rf
  refine w_gen hP hS (fun H locs hP hS => ?_)
  have hf92 := hts (.fieldLink RX1 92 "VaultShelves$Word" "least" "I") (by decide +kernel)
  have hf31 := hts (.fieldLink RX1 31 "VaultShelves$OrderText" "position" "I") (by decide +kernel)
  have hf95 := hts (.fieldLink RX1 95 "VaultShelves$Word" "most" "I") (by decide +kernel)
  have hf21 := hts (.fieldLink RX1 21 "VaultShelves$OrderText" "numbers" "[I") (by decide +kernel)
  have hiX1 : ∀ w ∈ u_ws RX1 TX1 7, w ∈ wsX1_readNumber := by decide +kernel
  have hl := lv_entry ([.ref x, .int (nI oo), .ref (ad i)]) (n := 5) (Nat.le_of_ble_eq_true rfl)
  rw [lg_entry_eq]
  generalize (lg_sl ([.ref x, .int (nI oo), .ref (ad i)]) ++ List.replicate (5 - (lg_sl ([.ref x, .int (nI oo), .ref (ad i)])).length) Slot.unset).toArray = ls at hl ⊢
  replace hl : lv_has ls 5 [(0, .ref x), (1, .int (nI oo)), (2, .ref (ad i))] := hl
  refine lv_aload_n hx hb dX1_readNumber_0 rfl (lv_at hl 0 rfl) ?_
  refine vp_callSi (W.runV (As := []) (rest := []) ⟨hx, hb, hml, hown, hts⟩ (kX1_digitAhead l dC dI cI cV cW x xS xW xN xH nn od tn B0 (hnn) (htn)) (cwV 0 hts gX1_readNumber_X1_digitAhead rfl rfl rfl hdX1_digitAhead ⟨Nat.le_of_ble_eq_true rfl, Nat.le_of_ble_eq_true rfl⟩) (pR_V hK hP 0 0 rfl rfl rfl [0, 1] rfl) rfl rfl hl.1 rfl (lv_room (Nat.le_of_ble_eq_true rfl)) dX1_readNumber_1 ⟨Nat.zero_le _, Nat.zero_le _⟩) (fun r_1 hr_ => ?_)
  subst hr_
  refine lv_istore_n (lv' := [(3, .int (cDg B0 nn tn)), (0, .ref x), (1, .int (nI oo)), (2, .ref (ad i))]) hx hb dX1_readNumber_4 rfl hl (by decide) rfl (fun ls hl => ?_)
  refine lv_iload_n hx hb dX1_readNumber_5 rfl (lv_at hl 0 rfl) ?_
  refine lv_iconst (v := (-1)) hx hb dX1_readNumber_6 (by decide) ?_
  refine lv_icmp_eq (tgt := 18) hx hb dX1_readNumber_7 (by decide) (fun c_7 => ?_) (fun c_7 => ?_)
  · have hR9 : cNb B0 nn i tn = ((false, tn), 0) := by rw [cNb, if_pos (Or.inl c_7)]
    refine lv_iconst (v := (nI 0)) hx hb dX1_readNumber_18 (by decide) ?_
    have ec_r19_1_x_6 : (nI tn) = (nI ((cNb B0 nn i tn).1.2)) := by first | rfl | (first | (rw [hR9]; done) | (rw [hR9]; rfl))
    have ec_r19_1_xN : Nm = (if (cNb B0 nn i tn).1.1 = true then upd Nm oo (cNb B0 nn i tn).2 else Nm) := by first | rfl | (first | (rw [hR9]; done) | (rw [hR9]; rfl))
    have ew_r19_1 : ([(x, .inr (0, [.ref xS, .ref xW, .ref xN, .ref xH, .int (nI nn), .int od, .int (nI tn)])), (xS, .inl (cI, 60, .inl B0)), (xN, .inl (cI, 60, .inl Nm))] : va_W) = [(x, .inr (0, [.ref xS, .ref xW, .ref xN, .ref xH, .int (nI nn), .int od, .int (nI ((cNb B0 nn i tn).1.2))])), (xS, .inl (cI, 60, .inl B0)), (xN, .inl (cI, 60, .inl (if (cNb B0 nn i tn).1.1 = true then upd Nm oo (cNb B0 nn i tn).2 else Nm)))] := ((congrArg (fun z_ => ([(x, .inr (0, [.ref xS, .ref xW, .ref xN, .ref xH, .int (nI nn), .int od, .int z_])), (xS, .inl (cI, 60, .inl B0)), (xN, .inl (cI, 60, .inl Nm))] : va_W)) ec_r19_1_x_6).trans (congrArg (fun z_ => ([(x, .inr (0, [.ref xS, .ref xW, .ref xN, .ref xH, .int (nI nn), .int od, .int (nI ((cNb B0 nn i tn).1.2))])), (xS, .inl (cI, 60, .inl B0)), (xN, .inl (cI, 60, .inl z_))] : va_W)) ec_r19_1_xN))
    have hP9 := (w_cgP ew_r19_1 hP)
    have hD9 := (w_cgD ew_r19_1 hD)
    exact W.zret (v := (bI false)) hx hb hr (nar_bI _) (fun t ht hW => ⟨⟨(bI false), (), rfl, (congrArg bI (show false = ((cNb B0 nn i tn).1.1) from by first | rfl | (first | (rw [hR9]; done) | (rw [hR9]; rfl)))), by rw [ht]; exact hP9, va_K.moved hW.alike hK, hD9⟩, hS.F ht⟩) hS.2.2 dX1_readNumber_19
  · refine lv_iload_n hx hb dX1_readNumber_10 rfl (lv_at hl 0 rfl) ?_
    refine lv_aload_n hx hb dX1_readNumber_11 rfl (lv_at hl 3 rfl) ?_
    refine vk_getf (v := .int (wLe i)) hx hb (hIm.2.2.1 i (by omega)).2.2.1 hS hown hf92 (fun _ h9 => h9) dX1_readNumber_12 ?_
    refine lv_icmp_ge (tgt := 20) hx hb dX1_readNumber_15 (by decide) (fun c_15 => ?_) (fun c_15 => ?_)
    · have hlt := cDg_lt (B := B0) c_7
      refine lv_aload_n hx hb dX1_readNumber_20 rfl (lv_at hl 1 rfl) ?_
      refine lv_dup hx hb dX1_readNumber_21 rfl ?_
      refine va_get (D := (dC, dI)) (ci := 0) (v := .int (nI tn)) (C := RX1) (T := TX1) (N := 7) hx hb hts hiX1 hown hK hP 0 rfl rfl 6 (by decide) hf31 (fun _ h9 => h9) rfl dX1_readNumber_22 ?_
      refine lv_iconst (v := (nI 1)) hx hb dX1_readNumber_25 (by decide) ?_
      refine n_iadd hx hb dX1_readNumber_26 ?_
      refine va_put (D := (dC, dI)) (ci := 0) (v := .int (nI (tn + 1))) (ty := .int) (C := RX1) (T := TX1) (N := 7) hx hb hts hiX1 tyX1 tyX1_ok nmX1 hown hK hP hD hS 0 rfl rfl 6 (by decide) hf31 (fun _ h9 => h9) rfl (by decide +kernel) rfl rfl (Nat.le_of_ble_eq_true rfl) dX1_readNumber_27 (fun H locs hP hD hS => ?_)
      replace hP : va_P (dC, dI) vwCl [(x, .inr (0, [.ref xS, .ref xW, .ref xN, .ref xH, .int (nI nn), .int od, .int (nI (tn + 1))])), (xS, .inl (cI, 60, .inl B0)), (xN, .inl (cI, 60, .inl Nm))] H := hP
      replace hD : va_D A [(x, .inr (0, [.ref xS, .ref xW, .ref xN, .ref xH, .int (nI nn), .int od, .int (nI (tn + 1))])), (xS, .inl (cI, 60, .inl B0)), (xN, .inl (cI, 60, .inl Nm))] := hD
      refine lv_aload_n hx hb dX1_readNumber_30 rfl (lv_at hl 1 rfl) ?_
      refine vp_callSi (W.runV (As := []) (rest := []) ⟨hx, hb, hml, hown, hts⟩ (kX1_digitAhead l dC dI cI cV cW x xS xW xN xH nn od (tn + 1) B0 (hnn) (by omega)) (cwV 0 hts gX1_readNumber_X1_digitAhead rfl rfl rfl hdX1_digitAhead ⟨Nat.le_of_ble_eq_true rfl, Nat.le_of_ble_eq_true rfl⟩) (pR_V hK hP 0 0 rfl rfl rfl [0, 1] rfl) rfl rfl hl.1 rfl (lv_room (Nat.le_of_ble_eq_true rfl)) dX1_readNumber_31 ⟨Nat.zero_le _, Nat.zero_le _⟩) (fun r_31 hr_ => ?_)
      subst hr_
      refine lv_istore (lv' := [(4, .int (cDg B0 nn (tn + 1))), (3, .int (cDg B0 nn tn)), (0, .ref x), (1, .int (nI oo)), (2, .ref (ad i))]) hx hb dX1_readNumber_34 hl (by decide) rfl (fun ls hl => ?_)
      refine lv_iload_n hx hb dX1_readNumber_36 rfl (lv_at hl 1 rfl) ?_
      refine lv_if_le (tgt := 78) hx hb dX1_readNumber_37 (by decide) (fun c_37 => ?_) (fun c_37 => ?_)
      · have hR9 : cNb B0 nn i tn = ((true, tn + 1), cDg B0 nn tn) := by rw [cNb, if_neg (fun q => q.elim c_7 (Int32.not_lt.mpr c_15)), if_neg (fun q => Int32.not_lt.mpr c_37 q.1)]
        refine lv_aload_n hx hb dX1_readNumber_78 rfl (lv_at hl 2 rfl) ?_
        refine va_get (D := (dC, dI)) (ci := 0) (v := .ref xN) (C := RX1) (T := TX1) (N := 7) hx hb hts hiX1 hown hK hP 0 rfl rfl 2 (by decide) hf21 (fun _ h9 => h9) rfl dX1_readNumber_79 ?_
        refine lv_iload_n hx hb dX1_readNumber_82 rfl (lv_at hl 3 rfl) ?_
        refine lv_iload_n hx hb dX1_readNumber_83 rfl (lv_at hl 1 rfl) ?_
        refine n_iast hx hb hK hP hD hS 2 0 rfl rfl (show oo < 60 from by omega) (by decide) dX1_readNumber_84 (fun H locs hP hD hS => ?_)
        replace hP : va_P (dC, dI) vwCl [(x, .inr (0, [.ref xS, .ref xW, .ref xN, .ref xH, .int (nI nn), .int od, .int (nI (tn + 1))])), (xS, .inl (cI, 60, .inl B0)), (xN, .inl (cI, 60, .inl (upd Nm oo (cDg B0 nn tn))))] H := hP
        replace hD : va_D A [(x, .inr (0, [.ref xS, .ref xW, .ref xN, .ref xH, .int (nI nn), .int od, .int (nI (tn + 1))])), (xS, .inl (cI, 60, .inl B0)), (xN, .inl (cI, 60, .inl (upd Nm oo (cDg B0 nn tn))))] := hD
        refine lv_iconst (v := (nI 1)) hx hb dX1_readNumber_85 (by decide) ?_
        have ec_r86_2_x_6 : (nI (tn + 1)) = (nI ((cNb B0 nn i tn).1.2)) := by first | rfl | (first | (rw [hR9]; done) | (rw [hR9]; rfl))
        have ec_r86_2_xN : (upd Nm oo (cDg B0 nn tn)) = (if (cNb B0 nn i tn).1.1 = true then upd Nm oo (cNb B0 nn i tn).2 else Nm) := by first | rfl | (first | (rw [hR9]; done) | (rw [hR9]; rfl))
        have ew_r86_2 : ([(x, .inr (0, [.ref xS, .ref xW, .ref xN, .ref xH, .int (nI nn), .int od, .int (nI (tn + 1))])), (xS, .inl (cI, 60, .inl B0)), (xN, .inl (cI, 60, .inl (upd Nm oo (cDg B0 nn tn))))] : va_W) = [(x, .inr (0, [.ref xS, .ref xW, .ref xN, .ref xH, .int (nI nn), .int od, .int (nI ((cNb B0 nn i tn).1.2))])), (xS, .inl (cI, 60, .inl B0)), (xN, .inl (cI, 60, .inl (if (cNb B0 nn i tn).1.1 = true then upd Nm oo (cNb B0 nn i tn).2 else Nm)))] := ((congrArg (fun z_ => ([(x, .inr (0, [.ref xS, .ref xW, .ref xN, .ref xH, .int (nI nn), .int od, .int z_])), (xS, .inl (cI, 60, .inl B0)), (xN, .inl (cI, 60, .inl (upd Nm oo (cDg B0 nn tn))))] : va_W)) ec_r86_2_x_6).trans (congrArg (fun z_ => ([(x, .inr (0, [.ref xS, .ref xW, .ref xN, .ref xH, .int (nI nn), .int od, .int (nI ((cNb B0 nn i tn).1.2))])), (xS, .inl (cI, 60, .inl B0)), (xN, .inl (cI, 60, .inl z_))] : va_W)) ec_r86_2_xN))
        have hP9 := (w_cgP ew_r86_2 hP)
        have hD9 := (w_cgD ew_r86_2 hD)
        exact W.zret (v := (bI true)) hx hb hr (nar_bI _) (fun t ht hW => ⟨⟨(bI true), (), rfl, (congrArg bI (show true = ((cNb B0 nn i tn).1.1) from by first | rfl | (first | (rw [hR9]; done) | (rw [hR9]; rfl)))), by rw [ht]; exact hP9, va_K.moved hW.alike hK, hD9⟩, hS.F ht⟩) hS.2.2 dX1_readNumber_86
      · refine lv_iload hx hb dX1_readNumber_40 (lv_at hl 0 rfl) ?_
        refine lv_iconst (v := (-1)) hx hb dX1_readNumber_42 (by decide) ?_
        refine lv_icmp_eq (tgt := 78) hx hb dX1_readNumber_43 (by decide) (fun c_43 => ?_) (fun c_43 => ?_)
        · have hR9 : cNb B0 nn i tn = ((true, tn + 1), cDg B0 nn tn) := by rw [cNb, if_neg (fun q => q.elim c_7 (Int32.not_lt.mpr c_15)), if_neg (fun q => q.2.1 c_43)]
          refine lv_aload_n hx hb dX1_readNumber_78 rfl (lv_at hl 2 rfl) ?_
          refine va_get (D := (dC, dI)) (ci := 0) (v := .ref xN) (C := RX1) (T := TX1) (N := 7) hx hb hts hiX1 hown hK hP 0 rfl rfl 2 (by decide) hf21 (fun _ h9 => h9) rfl dX1_readNumber_79 ?_
          refine lv_iload_n hx hb dX1_readNumber_82 rfl (lv_at hl 3 rfl) ?_
          refine lv_iload_n hx hb dX1_readNumber_83 rfl (lv_at hl 1 rfl) ?_
          refine n_iast hx hb hK hP hD hS 2 0 rfl rfl (show oo < 60 from by omega) (by decide) dX1_readNumber_84 (fun H locs hP hD hS => ?_)
          replace hP : va_P (dC, dI) vwCl [(x, .inr (0, [.ref xS, .ref xW, .ref xN, .ref xH, .int (nI nn), .int od, .int (nI (tn + 1))])), (xS, .inl (cI, 60, .inl B0)), (xN, .inl (cI, 60, .inl (upd Nm oo (cDg B0 nn tn))))] H := hP
          replace hD : va_D A [(x, .inr (0, [.ref xS, .ref xW, .ref xN, .ref xH, .int (nI nn), .int od, .int (nI (tn + 1))])), (xS, .inl (cI, 60, .inl B0)), (xN, .inl (cI, 60, .inl (upd Nm oo (cDg B0 nn tn))))] := hD
          refine lv_iconst (v := (nI 1)) hx hb dX1_readNumber_85 (by decide) ?_
          have ec_r86_3_x_6 : (nI (tn + 1)) = (nI ((cNb B0 nn i tn).1.2)) := by first | rfl | (first | (rw [hR9]; done) | (rw [hR9]; rfl))
          have ec_r86_3_xN : (upd Nm oo (cDg B0 nn tn)) = (if (cNb B0 nn i tn).1.1 = true then upd Nm oo (cNb B0 nn i tn).2 else Nm) := by first | rfl | (first | (rw [hR9]; done) | (rw [hR9]; rfl))
          have ew_r86_3 : ([(x, .inr (0, [.ref xS, .ref xW, .ref xN, .ref xH, .int (nI nn), .int od, .int (nI (tn + 1))])), (xS, .inl (cI, 60, .inl B0)), (xN, .inl (cI, 60, .inl (upd Nm oo (cDg B0 nn tn))))] : va_W) = [(x, .inr (0, [.ref xS, .ref xW, .ref xN, .ref xH, .int (nI nn), .int od, .int (nI ((cNb B0 nn i tn).1.2))])), (xS, .inl (cI, 60, .inl B0)), (xN, .inl (cI, 60, .inl (if (cNb B0 nn i tn).1.1 = true then upd Nm oo (cNb B0 nn i tn).2 else Nm)))] := ((congrArg (fun z_ => ([(x, .inr (0, [.ref xS, .ref xW, .ref xN, .ref xH, .int (nI nn), .int od, .int z_])), (xS, .inl (cI, 60, .inl B0)), (xN, .inl (cI, 60, .inl (upd Nm oo (cDg B0 nn tn))))] : va_W)) ec_r86_3_x_6).trans (congrArg (fun z_ => ([(x, .inr (0, [.ref xS, .ref xW, .ref xN, .ref xH, .int (nI nn), .int od, .int (nI ((cNb B0 nn i tn).1.2))])), (xS, .inl (cI, 60, .inl B0)), (xN, .inl (cI, 60, .inl z_))] : va_W)) ec_r86_3_xN))
          have hP9 := (w_cgP ew_r86_3 hP)
          have hD9 := (w_cgD ew_r86_3 hD)
          exact W.zret (v := (bI true)) hx hb hr (nar_bI _) (fun t ht hW => ⟨⟨(bI true), (), rfl, (congrArg bI (show true = ((cNb B0 nn i tn).1.1) from by first | rfl | (first | (rw [hR9]; done) | (rw [hR9]; rfl)))), by rw [ht]; exact hP9, va_K.moved hW.alike hK, hD9⟩, hS.F ht⟩) hS.2.2 dX1_readNumber_86
        · refine lv_bipush (v := (nI 10)) hx hb dX1_readNumber_46 (by decide) ?_
          refine lv_iload_n hx hb dX1_readNumber_48 rfl (lv_at hl 1 rfl) ?_
          refine lv_imul hx hb dX1_readNumber_49 ?_
          refine lv_iload hx hb dX1_readNumber_50 (lv_at hl 0 rfl) ?_
          refine lv_iadd hx hb dX1_readNumber_52 ?_
          refine lv_aload_n hx hb dX1_readNumber_53 rfl (lv_at hl 4 rfl) ?_
          refine vk_getf (v := .int (wMo i)) hx hb (hIm.2.2.1 i (by omega)).2.2.2.1 hS hown hf95 (fun _ h9 => h9) dX1_readNumber_54 ?_
          refine lv_icmp_gt (tgt := 78) hx hb dX1_readNumber_57 (by decide) (fun c_57 => ?_) (fun c_57 => ?_)
          · have hR9 : cNb B0 nn i tn = ((true, tn + 1), cDg B0 nn tn) := by rw [cNb, if_neg (fun q => q.elim c_7 (Int32.not_lt.mpr c_15)), if_neg (fun q => Int32.not_le.mpr c_57 q.2.2)]
            refine lv_aload_n hx hb dX1_readNumber_78 rfl (lv_at hl 2 rfl) ?_
            refine va_get (D := (dC, dI)) (ci := 0) (v := .ref xN) (C := RX1) (T := TX1) (N := 7) hx hb hts hiX1 hown hK hP 0 rfl rfl 2 (by decide) hf21 (fun _ h9 => h9) rfl dX1_readNumber_79 ?_
            refine lv_iload_n hx hb dX1_readNumber_82 rfl (lv_at hl 3 rfl) ?_
            refine lv_iload_n hx hb dX1_readNumber_83 rfl (lv_at hl 1 rfl) ?_
            refine n_iast hx hb hK hP hD hS 2 0 rfl rfl (show oo < 60 from by omega) (by decide) dX1_readNumber_84 (fun H locs hP hD hS => ?_)
            replace hP : va_P (dC, dI) vwCl [(x, .inr (0, [.ref xS, .ref xW, .ref xN, .ref xH, .int (nI nn), .int od, .int (nI (tn + 1))])), (xS, .inl (cI, 60, .inl B0)), (xN, .inl (cI, 60, .inl (upd Nm oo (cDg B0 nn tn))))] H := hP
            replace hD : va_D A [(x, .inr (0, [.ref xS, .ref xW, .ref xN, .ref xH, .int (nI nn), .int od, .int (nI (tn + 1))])), (xS, .inl (cI, 60, .inl B0)), (xN, .inl (cI, 60, .inl (upd Nm oo (cDg B0 nn tn))))] := hD
            refine lv_iconst (v := (nI 1)) hx hb dX1_readNumber_85 (by decide) ?_
            have ec_r86_4_x_6 : (nI (tn + 1)) = (nI ((cNb B0 nn i tn).1.2)) := by first | rfl | (first | (rw [hR9]; done) | (rw [hR9]; rfl))
            have ec_r86_4_xN : (upd Nm oo (cDg B0 nn tn)) = (if (cNb B0 nn i tn).1.1 = true then upd Nm oo (cNb B0 nn i tn).2 else Nm) := by first | rfl | (first | (rw [hR9]; done) | (rw [hR9]; rfl))
            have ew_r86_4 : ([(x, .inr (0, [.ref xS, .ref xW, .ref xN, .ref xH, .int (nI nn), .int od, .int (nI (tn + 1))])), (xS, .inl (cI, 60, .inl B0)), (xN, .inl (cI, 60, .inl (upd Nm oo (cDg B0 nn tn))))] : va_W) = [(x, .inr (0, [.ref xS, .ref xW, .ref xN, .ref xH, .int (nI nn), .int od, .int (nI ((cNb B0 nn i tn).1.2))])), (xS, .inl (cI, 60, .inl B0)), (xN, .inl (cI, 60, .inl (if (cNb B0 nn i tn).1.1 = true then upd Nm oo (cNb B0 nn i tn).2 else Nm)))] := ((congrArg (fun z_ => ([(x, .inr (0, [.ref xS, .ref xW, .ref xN, .ref xH, .int (nI nn), .int od, .int z_])), (xS, .inl (cI, 60, .inl B0)), (xN, .inl (cI, 60, .inl (upd Nm oo (cDg B0 nn tn))))] : va_W)) ec_r86_4_x_6).trans (congrArg (fun z_ => ([(x, .inr (0, [.ref xS, .ref xW, .ref xN, .ref xH, .int (nI nn), .int od, .int (nI ((cNb B0 nn i tn).1.2))])), (xS, .inl (cI, 60, .inl B0)), (xN, .inl (cI, 60, .inl z_))] : va_W)) ec_r86_4_xN))
            have hP9 := (w_cgP ew_r86_4 hP)
            have hD9 := (w_cgD ew_r86_4 hD)
            exact W.zret (v := (bI true)) hx hb hr (nar_bI _) (fun t ht hW => ⟨⟨(bI true), (), rfl, (congrArg bI (show true = ((cNb B0 nn i tn).1.1) from by first | rfl | (first | (rw [hR9]; done) | (rw [hR9]; rfl)))), by rw [ht]; exact hP9, va_K.moved hW.alike hK, hD9⟩, hS.F ht⟩) hS.2.2 dX1_readNumber_86
          · have hR9 : cNb B0 nn i tn = ((true, tn + 1 + 1), 10 * cDg B0 nn tn + cDg B0 nn (tn + 1)) := by rw [cNb, if_neg (fun q => q.elim c_7 (Int32.not_lt.mpr c_15)), if_pos ⟨Int32.not_le.mp c_37, c_43, Int32.not_lt.mp c_57⟩]
            refine lv_bipush (v := (nI 10)) hx hb dX1_readNumber_60 (by decide) ?_
            refine lv_iload_n hx hb dX1_readNumber_62 rfl (lv_at hl 1 rfl) ?_
            refine lv_imul hx hb dX1_readNumber_63 ?_
            refine lv_iload hx hb dX1_readNumber_64 (lv_at hl 0 rfl) ?_
            refine lv_iadd hx hb dX1_readNumber_66 ?_
            refine lv_istore_n (lv' := [(3, .int ((10 * (cDg B0 nn tn)) + (cDg B0 nn (tn + 1)))), (4, .int (cDg B0 nn (tn + 1))), (0, .ref x), (1, .int (nI oo)), (2, .ref (ad i))]) hx hb dX1_readNumber_67 rfl hl (by decide) rfl (fun ls hl => ?_)
            refine lv_aload_n hx hb dX1_readNumber_68 rfl (lv_at hl 2 rfl) ?_
            refine lv_dup hx hb dX1_readNumber_69 rfl ?_
            refine va_get (D := (dC, dI)) (ci := 0) (v := .int (nI (tn + 1))) (C := RX1) (T := TX1) (N := 7) hx hb hts hiX1 hown hK hP 0 rfl rfl 6 (by decide) hf31 (fun _ h9 => h9) rfl dX1_readNumber_70 ?_
            refine lv_iconst (v := (nI 1)) hx hb dX1_readNumber_73 (by decide) ?_
            refine n_iadd hx hb dX1_readNumber_74 ?_
            refine va_put (D := (dC, dI)) (ci := 0) (v := .int (nI ((tn + 1) + 1))) (ty := .int) (C := RX1) (T := TX1) (N := 7) hx hb hts hiX1 tyX1 tyX1_ok nmX1 hown hK hP hD hS 0 rfl rfl 6 (by decide) hf31 (fun _ h9 => h9) rfl (by decide +kernel) rfl rfl (Nat.le_of_ble_eq_true rfl) dX1_readNumber_75 (fun H locs hP hD hS => ?_)
            replace hP : va_P (dC, dI) vwCl [(x, .inr (0, [.ref xS, .ref xW, .ref xN, .ref xH, .int (nI nn), .int od, .int (nI ((tn + 1) + 1))])), (xS, .inl (cI, 60, .inl B0)), (xN, .inl (cI, 60, .inl Nm))] H := hP
            replace hD : va_D A [(x, .inr (0, [.ref xS, .ref xW, .ref xN, .ref xH, .int (nI nn), .int od, .int (nI ((tn + 1) + 1))])), (xS, .inl (cI, 60, .inl B0)), (xN, .inl (cI, 60, .inl Nm))] := hD
            refine lv_aload_n hx hb dX1_readNumber_78 rfl (lv_at hl 2 rfl) ?_
            refine va_get (D := (dC, dI)) (ci := 0) (v := .ref xN) (C := RX1) (T := TX1) (N := 7) hx hb hts hiX1 hown hK hP 0 rfl rfl 2 (by decide) hf21 (fun _ h9 => h9) rfl dX1_readNumber_79 ?_
            refine lv_iload_n hx hb dX1_readNumber_82 rfl (lv_at hl 3 rfl) ?_
            refine lv_iload_n hx hb dX1_readNumber_83 rfl (lv_at hl 0 rfl) ?_
            refine n_iast hx hb hK hP hD hS 2 0 rfl rfl (show oo < 60 from by omega) (by decide) dX1_readNumber_84 (fun H locs hP hD hS => ?_)
            replace hP : va_P (dC, dI) vwCl [(x, .inr (0, [.ref xS, .ref xW, .ref xN, .ref xH, .int (nI nn), .int od, .int (nI ((tn + 1) + 1))])), (xS, .inl (cI, 60, .inl B0)), (xN, .inl (cI, 60, .inl (upd Nm oo ((10 * (cDg B0 nn tn)) + (cDg B0 nn (tn + 1))))))] H := hP
            replace hD : va_D A [(x, .inr (0, [.ref xS, .ref xW, .ref xN, .ref xH, .int (nI nn), .int od, .int (nI ((tn + 1) + 1))])), (xS, .inl (cI, 60, .inl B0)), (xN, .inl (cI, 60, .inl (upd Nm oo ((10 * (cDg B0 nn tn)) + (cDg B0 nn (tn + 1))))))] := hD
            refine lv_iconst (v := (nI 1)) hx hb dX1_readNumber_85 (by decide) ?_
            have ec_r86_5_x_6 : (nI ((tn + 1) + 1)) = (nI ((cNb B0 nn i tn).1.2)) := by first | rfl | (first | (rw [hR9]; done) | (rw [hR9]; rfl))
            have ec_r86_5_xN : (upd Nm oo ((10 * (cDg B0 nn tn)) + (cDg B0 nn (tn + 1)))) = (if (cNb B0 nn i tn).1.1 = true then upd Nm oo (cNb B0 nn i tn).2 else Nm) := by first | rfl | (first | (rw [hR9]; done) | (rw [hR9]; rfl))
            have ew_r86_5 : ([(x, .inr (0, [.ref xS, .ref xW, .ref xN, .ref xH, .int (nI nn), .int od, .int (nI ((tn + 1) + 1))])), (xS, .inl (cI, 60, .inl B0)), (xN, .inl (cI, 60, .inl (upd Nm oo ((10 * (cDg B0 nn tn)) + (cDg B0 nn (tn + 1))))))] : va_W) = [(x, .inr (0, [.ref xS, .ref xW, .ref xN, .ref xH, .int (nI nn), .int od, .int (nI ((cNb B0 nn i tn).1.2))])), (xS, .inl (cI, 60, .inl B0)), (xN, .inl (cI, 60, .inl (if (cNb B0 nn i tn).1.1 = true then upd Nm oo (cNb B0 nn i tn).2 else Nm)))] := ((congrArg (fun z_ => ([(x, .inr (0, [.ref xS, .ref xW, .ref xN, .ref xH, .int (nI nn), .int od, .int z_])), (xS, .inl (cI, 60, .inl B0)), (xN, .inl (cI, 60, .inl (upd Nm oo ((10 * (cDg B0 nn tn)) + (cDg B0 nn (tn + 1))))))] : va_W)) ec_r86_5_x_6).trans (congrArg (fun z_ => ([(x, .inr (0, [.ref xS, .ref xW, .ref xN, .ref xH, .int (nI nn), .int od, .int (nI ((cNb B0 nn i tn).1.2))])), (xS, .inl (cI, 60, .inl B0)), (xN, .inl (cI, 60, .inl z_))] : va_W)) ec_r86_5_xN))
            have hP9 := (w_cgP ew_r86_5 hP)
            have hD9 := (w_cgD ew_r86_5 hD)
            exact W.zret (v := (bI true)) hx hb hr (nar_bI _) (fun t ht hW => ⟨⟨(bI true), (), rfl, (congrArg bI (show true = ((cNb B0 nn i tn).1.1) from by first | rfl | (first | (rw [hR9]; done) | (rw [hR9]; rfl)))), by rw [ht]; exact hP9, va_K.moved hW.alike hK, hD9⟩, hS.F ht⟩) hS.2.2 dX1_readNumber_86
    · have hR9 : cNb B0 nn i tn = ((false, tn), 0) := by rw [cNb, if_pos (Or.inr (Int32.not_le.mp c_15))]
      refine lv_iconst (v := (nI 0)) hx hb dX1_readNumber_18 (by decide) ?_
      have ec_r19_6_x_6 : (nI tn) = (nI ((cNb B0 nn i tn).1.2)) := by first | rfl | (first | (rw [hR9]; done) | (rw [hR9]; rfl))
      have ec_r19_6_xN : Nm = (if (cNb B0 nn i tn).1.1 = true then upd Nm oo (cNb B0 nn i tn).2 else Nm) := by first | rfl | (first | (rw [hR9]; done) | (rw [hR9]; rfl))
      have ew_r19_6 : ([(x, .inr (0, [.ref xS, .ref xW, .ref xN, .ref xH, .int (nI nn), .int od, .int (nI tn)])), (xS, .inl (cI, 60, .inl B0)), (xN, .inl (cI, 60, .inl Nm))] : va_W) = [(x, .inr (0, [.ref xS, .ref xW, .ref xN, .ref xH, .int (nI nn), .int od, .int (nI ((cNb B0 nn i tn).1.2))])), (xS, .inl (cI, 60, .inl B0)), (xN, .inl (cI, 60, .inl (if (cNb B0 nn i tn).1.1 = true then upd Nm oo (cNb B0 nn i tn).2 else Nm)))] := ((congrArg (fun z_ => ([(x, .inr (0, [.ref xS, .ref xW, .ref xN, .ref xH, .int (nI nn), .int od, .int z_])), (xS, .inl (cI, 60, .inl B0)), (xN, .inl (cI, 60, .inl Nm))] : va_W)) ec_r19_6_x_6).trans (congrArg (fun z_ => ([(x, .inr (0, [.ref xS, .ref xW, .ref xN, .ref xH, .int (nI nn), .int od, .int (nI ((cNb B0 nn i tn).1.2))])), (xS, .inl (cI, 60, .inl B0)), (xN, .inl (cI, 60, .inl z_))] : va_W)) ec_r19_6_xN))
      have hP9 := (w_cgP ew_r19_6 hP)
      have hD9 := (w_cgD ew_r19_6 hD)
      exact W.zret (v := (bI false)) hx hb hr (nar_bI _) (fun t ht hW => ⟨⟨(bI false), (), rfl, (congrArg bI (show false = ((cNb B0 nn i tn).1.1) from by first | rfl | (first | (rw [hR9]; done) | (rw [hR9]; rfl)))), by rw [ht]; exact hP9, va_K.moved hW.alike hK, hD9⟩, hS.F ht⟩) hS.2.2 dX1_readNumber_19
