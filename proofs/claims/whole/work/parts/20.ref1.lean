set_option maxHeartbeats 4000000 in
set_option maxRecDepth 100000 in
theorem kX6_in (l : Launch) (dC : Nat → ClassId) (dI : Nat → Nat → Nat) (cI cV cW : ClassId) (v : Int32) (lo : Int32) (hi : Int32)  : Met l yX6_in wsX6_in ({ frames := 0, cells := 0, slots := 0, locals := 0 }) (pR (dC, dI) (tyS cI cV cW) [.int v, .int lo, .int hi] []) (vp_Si (fun r_ => r_ = (bI (sIn v lo hi)))) 0 0 (fun _ => False) := by
  refine Met.ofW (cc := cX6_in) (maxL := 3) (ret := (some .boolean)) (by decide) rfl ?_
  intro p e s m args below meth c s₁ B hml hv
  obtain ⟨rfl, hP, hK⟩ := hv
  have hx := B.exec
  have hb := B.bytes
  have hr := B.returns
  have hts := atoms_spec (ws := wsX6_in) B.pre
  have hown : s.vm.findClass RX6 = some m.cls := findClass_of_methodNamed B.named
  have hlocks := B.notSynchronized
  have hl := lv_entry ([.int v, .int lo, .int hi]) (n := 3) (Nat.le_of_ble_eq_true rfl)
  rw [lg_entry_eq]
  generalize (lg_sl ([.int v, .int lo, .int hi]) ++ List.replicate (3 - (lg_sl ([.int v, .int lo, .int hi])).length) Slot.unset).toArray = ls at hl ⊢
  replace hl : lv_has ls 3 [(0, .int v), (1, .int lo), (2, .int hi)] := hl
  refine lv_iload_n hx hb dX6_in_0 rfl (lv_at hl 0 rfl) ?_
  refine lv_iload_n hx hb dX6_in_1 rfl (lv_at hl 1 rfl) ?_
  refine lv_icmp_lt (tgt := 14) hx hb dX6_in_2 (by decide) (fun c_2 => ?_) (fun c_2 => ?_)
  · refine lv_iconst (v := (nI 0)) hx hb dX6_in_14 (by decide) ?_
    exact W.zret (v := (bI false)) hx hb hr (nar_bI _) (fun t ht hW => ⟨_, rfl, (congrArg bI (show false = sIn v lo hi from by first | rfl | (first | (simp [sIn, Int32.not_le.mpr c_2]; done) | (simp [sIn, Int32.not_lt.mp c_2, Int32.not_le.mpr c_7]; done) | (simp [sIn, Int32.not_lt.mp c_2, Int32.not_lt.mp c_7]; done)))), ht⟩) (fun q hq => absurd hq List.not_mem_nil) dX6_in_15
  · refine lv_iload_n hx hb dX6_in_5 rfl (lv_at hl 0 rfl) ?_
    refine lv_iload_n hx hb dX6_in_6 rfl (lv_at hl 2 rfl) ?_
    refine lv_icmp_gt (tgt := 14) hx hb dX6_in_7 (by decide) (fun c_7 => ?_) (fun c_7 => ?_)
    · refine lv_iconst (v := (nI 0)) hx hb dX6_in_14 (by decide) ?_
      exact W.zret (v := (bI false)) hx hb hr (nar_bI _) (fun t ht hW => ⟨_, rfl, (congrArg bI (show false = sIn v lo hi from by first | rfl | (first | (simp [sIn, Int32.not_le.mpr c_2]; done) | (simp [sIn, Int32.not_lt.mp c_2, Int32.not_le.mpr c_7]; done) | (simp [sIn, Int32.not_lt.mp c_2, Int32.not_lt.mp c_7]; done)))), ht⟩) (fun q hq => absurd hq List.not_mem_nil) dX6_in_15
    · refine lv_iconst (v := (nI 1)) hx hb dX6_in_10 (by decide) ?_
      refine lv_goto (tgt := 15) hx hb dX6_in_11 (by decide) ?_
      exact W.zret (v := (bI true)) hx hb hr (nar_bI _) (fun t ht hW => ⟨_, rfl, (congrArg bI (show true = sIn v lo hi from by first | rfl | (first | (simp [sIn, Int32.not_le.mpr c_2]; done) | (simp [sIn, Int32.not_lt.mp c_2, Int32.not_le.mpr c_7]; done) | (simp [sIn, Int32.not_lt.mp c_2, Int32.not_lt.mp c_7]; done)))), ht⟩) (fun q hq => absurd hq List.not_mem_nil) dX6_in_15
theorem hdX6_in : yX6_in.cls ≠ "java/lang/invoke/MethodHandle" ∧ yX6_in.cls ≠ "java/lang/invoke/VarHandle" ∧ (parseMethodDescriptor yX6_in.desc).map (fun d => d.parameters.length) = some 3 := by decide +kernel
set_option maxHeartbeats 4000000 in
set_option maxRecDepth 100000 in
theorem kX6_isShelf (l : Launch) (dC : Nat → ClassId) (dI : Nat → Nat → Nat) (cI cV cW : ClassId) (x : Int32)  : Met l yX6_isShelf wsX6_isShelf ({ frames := 1, cells := 0, slots := 0, locals := 22 }) (pR (dC, dI) (tyS cI cV cW) [.int x] []) (vp_Si (fun r_ => r_ = (bI (sIn x 0 5)))) 0 0 (fun _ => False) := by
  refine Met.ofW (cc := cX6_isShelf) (maxL := 1) (ret := (some .boolean)) (by decide) rfl ?_
  intro p e s m args below meth c s₁ B hml hv
  obtain ⟨rfl, hP, hK⟩ := hv
  have hx := B.exec
  have hb := B.bytes
  have hr := B.returns
  have hts := atoms_spec (ws := wsX6_isShelf) B.pre
  have hown : s.vm.findClass RX6 = some m.cls := findClass_of_methodNamed B.named
  have hlocks := B.notSynchronized
  have hl := lv_entry ([.int x]) (n := 1) (Nat.le_of_ble_eq_true rfl)
  rw [lg_entry_eq]
  generalize (lg_sl ([.int x]) ++ List.replicate (1 - (lg_sl ([.int x])).length) Slot.unset).toArray = ls at hl ⊢
  replace hl : lv_has ls 1 [(0, .int x)] := hl
  refine lv_iload_n hx hb dX6_isShelf_0 rfl (lv_at hl 0 rfl) ?_
  refine lv_iconst (v := (nI 0)) hx hb dX6_isShelf_1 (by decide) ?_
  refine lv_iconst (v := (nI 5)) hx hb dX6_isShelf_2 (by decide) ?_
  refine vp_callSi (W.runS (As := [.int x, .int (nI 0), .int (nI 5)]) (rest := []) ⟨hx, hb, hml, hown, hts⟩ (kX6_in l dC dI cI cV cW x 0 5) (va_cwS 3 hts gX6_isShelf_X6_in rfl rfl rfl hdX6_in ⟨Nat.le_of_ble_eq_true rfl, Nat.le_of_ble_eq_true rfl⟩) (pR_S hK hP [] rfl) rfl rfl hl.1 rfl (lv_room (Nat.le_of_ble_eq_true rfl)) dX6_isShelf_3 ⟨Nat.zero_le _, Nat.zero_le _⟩) (fun r_3 hr_ => ?_)
  subst hr_
  exact W.zret (v := (bI (sIn x 0 5))) hx hb hr (nar_bI _) (fun t ht hW => ⟨_, rfl, rfl, ht⟩) (fun q hq => absurd hq List.not_mem_nil) dX6_isShelf_6
set_option maxHeartbeats 4000000 in
set_option maxRecDepth 100000 in
theorem kX6_thrown (l : Launch) (dC : Nat → ClassId) (dI : Nat → Nat → Nat) (cI cV cW : ClassId) (o : Nat) (th : Int32) (aS : Nat) (aA : Nat) (aV : Nat) (sm : Int32) (aB : Nat) (ln : Int32) (at_ : Int32) (wl : Int32) (aR : Nat) (rm : Int32) (ga : Int32) (fi : Int32) (se : Int32) (ex : Int32) (ha : Int64)  : Met l yX6_thrown wsX6_thrown ({ frames := 0, cells := 0, slots := 0, locals := 0 }) (pR (dC, dI) (tyS cI cV cW) [.ref o] [(o, .inr (4, [.int th, .ref aS, .ref aA, .ref aV, .int sm, .ref aB, .int ln, .int at_, .int wl, .ref aR, .int rm, .int ga, .int fi, .int se, .int ex, .long ha]))]) (vp_Si (fun r_ => r_ = th)) 0 0 (fun _ => False) := by
  refine Met.ofW (cc := cX6_thrown) (maxL := 1) (ret := (some .int)) (by decide) rfl ?_
  intro p e s m args below meth c s₁ B hml hv
  obtain ⟨rfl, hP, hK⟩ := hv
  have hx := B.exec
  have hb := B.bytes
  have hr := B.returns
  have hts := atoms_spec (ws := wsX6_thrown) B.pre
  have hown : s.vm.findClass RX6 = some m.cls := findClass_of_methodNamed B.named
  have hlocks := B.notSynchronized
  have hf25 := hts (.fieldLink RX6 25 "VaultShelvesModel" "thrown" "I") (by decide +kernel)
  have hiX6 : ∀ w ∈ u_ws RX6 TX6 16, w ∈ wsX6_thrown := by decide +kernel
  have hl := lv_entry ([.ref o]) (n := 1) (Nat.le_of_ble_eq_true rfl)
  rw [lg_entry_eq]
  generalize (lg_sl ([.ref o]) ++ List.replicate (1 - (lg_sl ([.ref o])).length) Slot.unset).toArray = ls at hl ⊢
  replace hl : lv_has ls 1 [(0, .ref o)] := hl
  refine lv_aload_n hx hb dX6_thrown_0 rfl (lv_at hl 0 rfl) ?_
  refine va_get (D := (dC, dI)) (ci := 4) (v := .int th) (C := RX6) (T := TX6) (N := 16) hx hb hts hiX6 hown hK hP 0 rfl rfl 0 (by decide) hf25 (fun _ h9 => h9) rfl dX6_thrown_1 ?_
  exact W.iret (v := th) hx hb hr (fun t ht hW => ⟨_, rfl, rfl, ht⟩) (fun q hq => absurd hq List.not_mem_nil) dX6_thrown_4
set_option maxHeartbeats 4000000 in
set_option maxRecDepth 100000 in
theorem kX6_fails (l : Launch) (dC : Nat → ClassId) (dI : Nat → Nat → Nat) (cI cV cW : ClassId) (sz : Nat) (o : Nat) (th : Int32) (aS : Nat) (aA : Nat) (aV : Nat) (sm : Int32) (aB : Nat) (ln : Int32) (at_ : Int32) (wl : Int32) (aR : Nat) (rm : Int32) (ga : Int32) (fi : Int32) (se : Int32) (ex : Int32) (ha : Int64) (code : Int32)  : Met l yX6_fails wsX6_fails ({ frames := 0, cells := 0, slots := 0, locals := 0 }) (pW (dC, dI) (tyS cI cV cW) sz [.ref o, .int code] [(o, .inr (4, [.int th, .ref aS, .ref aA, .ref aV, .int sm, .ref aB, .int ln, .int at_, .int wl, .ref aR, .int rm, .int ga, .int fi, .int se, .int ex, .long ha]))]) (va_Qi (fun (r_ : Int32) (_ : Unit) => r_ = (nI 0)) (fun (_ : Unit) t => qB (dC, dI) (tyS cI cV cW) (va_A [(o, .inr (4, [.int th, .ref aS, .ref aA, .ref aV, .int sm, .ref aB, .int ln, .int at_, .int wl, .ref aR, .int rm, .int ga, .int fi, .int se, .int ex, .long ha]))] sz) [(o, .inr (4, [.int code, .ref aS, .ref aA, .ref aV, .int sm, .ref aB, .int ln, .int at_, .int wl, .ref aR, .int rm, .int ga, .int fi, .int se, .int ex, .long ha]))] t) (va_A [(o, .inr (4, [.int th, .ref aS, .ref aA, .ref aV, .int sm, .ref aB, .int ln, .int at_, .int wl, .ref aR, .int rm, .int ga, .int fi, .int se, .int ex, .long ha]))] sz)) 0 0 (va_A [(o, .inr (4, [.int th, .ref aS, .ref aA, .ref aV, .int sm, .ref aB, .int ln, .int at_, .int wl, .ref aR, .int rm, .int ga, .int fi, .int se, .int ex, .long ha]))] sz) := by
  refine Met.ofW (cc := cX6_fails) (maxL := 2) (ret := (some .int)) (by decide) rfl ?_
  intro p e s m args below meth c s₁ B hml hv
  obtain ⟨rfl, hsz, hP, hK, hD0⟩ := hv
  have hx := B.exec
  have hb := B.bytes
  have hr := B.returns
  have hts := atoms_spec (ws := wsX6_fails) B.pre
  have hown : s.vm.findClass RX6 = some m.cls := findClass_of_methodNamed B.named
  have hlocks := B.notSynchronized
  subst hsz
  have hD := hD0.self (sz := s.heap.size)
  generalize hAe : va_A [(o, .inr (4, [.int th, .ref aS, .ref aA, .ref aV, .int sm, .ref aB, .int ln, .int at_, .int wl, .ref aR, .int rm, .int ga, .int fi, .int se, .int ex, .long ha]))] s.heap.size = A at hD ⊢
  have hA : ∀ q : Nat, s.heap.size ≤ q → A q := fun q h => by rw [← hAe]; exact Or.inr h
  have hS : va_S A s.heap s.heap [] := va_S.rf
  refine w_gen hP hS (fun H locs hP hS => ?_)
  have hf25 := hts (.fieldLink RX6 25 "VaultShelvesModel" "thrown" "I") (by decide +kernel)
  have hiX6 : ∀ w ∈ u_ws RX6 TX6 16, w ∈ wsX6_fails := by decide +kernel
  have hl := lv_entry ([.ref o, .int code]) (n := 2) (Nat.le_of_ble_eq_true rfl)
  rw [lg_entry_eq]
  generalize (lg_sl ([.ref o, .int code]) ++ List.replicate (2 - (lg_sl ([.ref o, .int code])).length) Slot.unset).toArray = ls at hl ⊢
  replace hl : lv_has ls 2 [(0, .ref o), (1, .int code)] := hl
  refine lv_aload_n hx hb dX6_fails_0 rfl (lv_at hl 0 rfl) ?_
  refine lv_iload_n hx hb dX6_fails_1 rfl (lv_at hl 1 rfl) ?_
  refine va_put (D := (dC, dI)) (ci := 4) (v := .int code) (ty := .int) (C := RX6) (T := TX6) (N := 16) hx hb hts hiX6 tyX6 tyX6_ok nmX6 hown hK hP hD hS 0 rfl rfl 0 (by decide) hf25 (fun _ h9 => h9) rfl (by decide +kernel) rfl rfl (Nat.le_of_ble_eq_true rfl) dX6_fails_2 (fun H locs hP hD hS => ?_)
  replace hP : va_P (dC, dI) vwCl [(o, .inr (4, [.int code, .ref aS, .ref aA, .ref aV, .int sm, .ref aB, .int ln, .int at_, .int wl, .ref aR, .int rm, .int ga, .int fi, .int se, .int ex, .long ha]))] H := hP
  replace hD : va_D A [(o, .inr (4, [.int code, .ref aS, .ref aA, .ref aV, .int sm, .ref aB, .int ln, .int at_, .int wl, .ref aR, .int rm, .int ga, .int fi, .int se, .int ex, .long ha]))] := hD
  refine lv_iconst (v := (nI 0)) hx hb dX6_fails_5 (by decide) ?_
  have hP9 := hP
  have hD9 := hD
  exact W.iret (v := (nI 0)) hx hb hr (fun t ht hW => ⟨⟨(nI 0), (), rfl, rfl, by rw [ht]; exact hP9, va_K.moved hW.alike hK, hD9⟩, hS.F ht⟩) hS.2.2 dX6_fails_6
set_option maxHeartbeats 4000000 in
set_option maxRecDepth 100000 in
theorem kX6_isRecord (l : Launch) (dC : Nat → ClassId) (dI : Nat → Nat → Nat) (cI cV cW : ClassId) (o : Nat) (th : Int32) (aS : Nat) (aA : Nat) (aV : Nat) (sm : Int32) (aB : Nat) (ln : Int32) (at_ : Int32) (wl : Int32) (aR : Nat) (rm : Int32) (ga : Int32) (fi : Int32) (se : Int32) (ex : Int32) (ha : Int64) (S : Nat → Int32) (x : Int32)  : Met l yX6_isRecord wsX6_isRecord ({ frames := 1, cells := 0, slots := 0, locals := 22 }) (pR (dC, dI) (tyS cI cV cW) [.ref o, .int x] [(o, .inr (4, [.int th, .ref aS, .ref aA, .ref aV, .int sm, .ref aB, .int ln, .int at_, .int wl, .ref aR, .int rm, .int ga, .int fi, .int se, .int ex, .long ha])), (aS, .inl (cI, 96, .inl S))]) (vp_Si (fun r_ => r_ = (bI (sIn x 0 (S 0 - 1))))) 0 0 (fun _ => False) := by
  refine Met.ofW (cc := cX6_isRecord) (maxL := 2) (ret := (some .boolean)) (by decide) rfl ?_
  intro p e s m args below meth c s₁ B hml hv
  obtain ⟨rfl, hP, hK⟩ := hv
  have hx := B.exec
  have hb := B.bytes
  have hr := B.returns
  have hts := atoms_spec (ws := wsX6_isRecord) B.pre
  have hown : s.vm.findClass RX6 = some m.cls := findClass_of_methodNamed B.named
  have hlocks := B.notSynchronized
  have hf7 := hts (.fieldLink RX6 7 "VaultShelvesModel" "s" "[I") (by decide +kernel)
  have hiX6 : ∀ w ∈ u_ws RX6 TX6 16, w ∈ wsX6_isRecord := by decide +kernel
  have hl := lv_entry ([.ref o, .int x]) (n := 2) (Nat.le_of_ble_eq_true rfl)
  rw [lg_entry_eq]
  generalize (lg_sl ([.ref o, .int x]) ++ List.replicate (2 - (lg_sl ([.ref o, .int x])).length) Slot.unset).toArray = ls at hl ⊢
  replace hl : lv_has ls 2 [(0, .ref o), (1, .int x)] := hl
  refine lv_iload_n hx hb dX6_isRecord_0 rfl (lv_at hl 1 rfl) ?_
  refine lv_iconst (v := (nI 0)) hx hb dX6_isRecord_1 (by decide) ?_
  refine lv_aload_n hx hb dX6_isRecord_2 rfl (lv_at hl 0 rfl) ?_
  refine va_get (D := (dC, dI)) (ci := 4) (v := .ref aS) (C := RX6) (T := TX6) (N := 16) hx hb hts hiX6 hown hK hP 0 rfl rfl 1 (by decide) hf7 (fun _ h9 => h9) rfl dX6_isRecord_3 ?_
  refine lv_iconst (v := (nI 0)) hx hb dX6_isRecord_6 (by decide) ?_
  refine n_iald hx hb hK hP 1 0 rfl rfl (show 0 < 96 from by omega) (by decide) dX6_isRecord_7 ?_
  refine lv_iconst (v := (nI 1)) hx hb dX6_isRecord_8 (by decide) ?_
  refine lv_isub hx hb dX6_isRecord_9 ?_
  refine vp_callSi (W.runS (As := [.int x, .int (nI 0), .int ((S 0) - 1)]) (rest := []) ⟨hx, hb, hml, hown, hts⟩ (kX6_in l dC dI cI cV cW x 0 ((S 0) - 1)) (va_cwS 3 hts gX6_isRecord_X6_in rfl rfl rfl hdX6_in ⟨Nat.le_of_ble_eq_true rfl, Nat.le_of_ble_eq_true rfl⟩) (pR_S hK hP [] rfl) rfl rfl hl.1 rfl (lv_room (Nat.le_of_ble_eq_true rfl)) dX6_isRecord_10 ⟨Nat.zero_le _, Nat.zero_le _⟩) (fun r_10 hr_ => ?_)
  subst hr_
  exact W.zret (v := (bI (sIn x 0 ((S 0) - 1)))) hx hb hr (nar_bI _) (fun t ht hW => ⟨_, rfl, (congrArg bI (show sIn x 0 ((S 0) - 1) = sIn x 0 (S 0 - 1) from by rfl)), ht⟩) (fun q hq => absurd hq List.not_mem_nil) dX6_isRecord_13
set_option maxHeartbeats 4000000 in
set_option maxRecDepth 100000 in
theorem kX6_of (l : Launch) (dC : Nat → ClassId) (dI : Nat → Nat → Nat) (cI cV cW : ClassId) (o : Nat) (th : Int32) (aS : Nat) (aA : Nat) (aV : Nat) (sm : Int32) (aB : Nat) (ln : Int32) (at_ : Int32) (wl : Int32) (aR : Nat) (rm : Int32) (ga : Int32) (fi : Int32) (se : Int32) (ex : Int32) (ha : Int64) (S : Nat → Int32) (r : Nat) (k : Nat) (h1 : r < 16) (h2 : k < 5) : Met l yX6_of wsX6_of ({ frames := 0, cells := 0, slots := 0, locals := 0 }) (pR (dC, dI) (tyS cI cV cW) [.ref o, .int (nI r), .int (nI k)] [(o, .inr (4, [.int th, .ref aS, .ref aA, .ref aV, .int sm, .ref aB, .int ln, .int at_, .int wl, .ref aR, .int rm, .int ga, .int fi, .int se, .int ex, .long ha])), (aS, .inl (cI, 96, .inl S))]) (vp_Si (fun r_ => r_ = (gW S k r))) 0 0 (fun _ => False) := by
  refine Met.ofW (cc := cX6_of) (maxL := 3) (ret := (some .int)) (by decide) rfl ?_
  intro p e s m args below meth c s₁ B hml hv
  obtain ⟨rfl, hP, hK⟩ := hv
  have hx := B.exec
  have hb := B.bytes
  have hr := B.returns
  have hts := atoms_spec (ws := wsX6_of) B.pre
  have hown : s.vm.findClass RX6 = some m.cls := findClass_of_methodNamed B.named
  have hlocks := B.notSynchronized
  have hf7 := hts (.fieldLink RX6 7 "VaultShelvesModel" "s" "[I") (by decide +kernel)
  have hiX6 : ∀ w ∈ u_ws RX6 TX6 16, w ∈ wsX6_of := by decide +kernel
  have hl := lv_entry ([.ref o, .int (nI r), .int (nI k)]) (n := 3) (Nat.le_of_ble_eq_true rfl)
  rw [lg_entry_eq]
  generalize (lg_sl ([.ref o, .int (nI r), .int (nI k)]) ++ List.replicate (3 - (lg_sl ([.ref o, .int (nI r), .int (nI k)])).length) Slot.unset).toArray = ls at hl ⊢
  replace hl : lv_has ls 3 [(0, .ref o), (1, .int (nI r)), (2, .int (nI k))] := hl
  refine lv_aload_n hx hb dX6_of_0 rfl (lv_at hl 0 rfl) ?_
  refine va_get (D := (dC, dI)) (ci := 4) (v := .ref aS) (C := RX6) (T := TX6) (N := 16) hx hb hts hiX6 hown hK hP 0 rfl rfl 1 (by decide) hf7 (fun _ h9 => h9) rfl dX6_of_1 ?_
  refine lv_bipush (v := (nI 15)) hx hb dX6_of_4 (by decide) ?_
  refine lv_iconst (v := (nI 5)) hx hb dX6_of_6 (by decide) ?_
  refine lv_iload_n hx hb dX6_of_7 rfl (lv_at hl 1 rfl) ?_
  refine n_imul hx hb dX6_of_8 ?_
  refine n_iadd hx hb dX6_of_9 ?_
  refine lv_iload_n hx hb dX6_of_10 rfl (lv_at hl 2 rfl) ?_
  refine n_iadd hx hb dX6_of_11 ?_
  refine n_iald hx hb hK hP 1 0 rfl rfl (show (15 + (5 * r)) + k < 96 from by omega) (by decide) dX6_of_12 ?_
  exact W.iret (v := (S ((15 + (5 * r)) + k))) hx hb hr (fun t ht hW => ⟨_, rfl, (show (S ((15 + (5 * r)) + k)) = (gW S k r) from by rfl), ht⟩) (fun q hq => absurd hq List.not_mem_nil) dX6_of_13
set_option maxHeartbeats 4000000 in
set_option maxRecDepth 100000 in
theorem kX6_lay (l : Launch) (dC : Nat → ClassId) (dI : Nat → Nat → Nat) (cI cV cW : ClassId) (sz : Nat) (o : Nat) (th : Int32) (aS : Nat) (aA : Nat) (aV : Nat) (sm : Int32) (aB : Nat) (ln : Int32) (at_ : Int32) (wl : Int32) (aR : Nat) (rm : Int32) (ga : Int32) (fi : Int32) (se : Int32) (ex : Int32) (ha : Int64) (S : Nat → Int32) (r : Nat) (k : Nat) (v : Int32) (h1 : r < 16) (h2 : k < 5) : Met l yX6_lay wsX6_lay ({ frames := 0, cells := 0, slots := 0, locals := 0 }) (pW (dC, dI) (tyS cI cV cW) sz [.ref o, .int (nI r), .int (nI k), .int v] [(o, .inr (4, [.int th, .ref aS, .ref aA, .ref aV, .int sm, .ref aB, .int ln, .int at_, .int wl, .ref aR, .int rm, .int ga, .int fi, .int se, .int ex, .long ha])), (aS, .inl (cI, 96, .inl S))]) (va_Qv (fun (_ : Unit) => True) (fun (_ : Unit) t => qB (dC, dI) (tyS cI cV cW) (va_A [(o, .inr (4, [.int th, .ref aS, .ref aA, .ref aV, .int sm, .ref aB, .int ln, .int at_, .int wl, .ref aR, .int rm, .int ga, .int fi, .int se, .int ex, .long ha])), (aS, .inl (cI, 96, .inl S))] sz) [(o, .inr (4, [.int th, .ref aS, .ref aA, .ref aV, .int sm, .ref aB, .int ln, .int at_, .int wl, .ref aR, .int rm, .int ga, .int fi, .int se, .int ex, .long ha])), (aS, .inl (cI, 96, .inl (upd S (15 + (5 * r) + k) v)))] t) (va_A [(o, .inr (4, [.int th, .ref aS, .ref aA, .ref aV, .int sm, .ref aB, .int ln, .int at_, .int wl, .ref aR, .int rm, .int ga, .int fi, .int se, .int ex, .long ha])), (aS, .inl (cI, 96, .inl S))] sz)) 0 0 (va_A [(o, .inr (4, [.int th, .ref aS, .ref aA, .ref aV, .int sm, .ref aB, .int ln, .int at_, .int wl, .ref aR, .int rm, .int ga, .int fi, .int se, .int ex, .long ha])), (aS, .inl (cI, 96, .inl S))] sz) := by
  refine Met.ofW (cc := cX6_lay) (maxL := 4) (ret := none) (by decide) rfl ?_
  intro p e s m args below meth c s₁ B hml hv
  obtain ⟨rfl, hsz, hP, hK, hD0⟩ := hv
  have hx := B.exec
  have hb := B.bytes
  have hr := B.returns
  have hts := atoms_spec (ws := wsX6_lay) B.pre
  have hown : s.vm.findClass RX6 = some m.cls := findClass_of_methodNamed B.named
  have hlocks := B.notSynchronized
  subst hsz
  have hD := hD0.self (sz := s.heap.size)
  generalize hAe : va_A [(o, .inr (4, [.int th, .ref aS, .ref aA, .ref aV, .int sm, .ref aB, .int ln, .int at_, .int wl, .ref aR, .int rm, .int ga, .int fi, .int se, .int ex, .long ha])), (aS, .inl (cI, 96, .inl S))] s.heap.size = A at hD ⊢
  have hA : ∀ q : Nat, s.heap.size ≤ q → A q := fun q h => by rw [← hAe]; exact Or.inr h
  have hS : va_S A s.heap s.heap [] := va_S.rf
  refine w_gen hP hS (fun H locs hP hS => ?_)
  have hf7 := hts (.fieldLink RX6 7 "VaultShelvesModel" "s" "[I") (by decide +kernel)
  have hiX6 : ∀ w ∈ u_ws RX6 TX6 16, w ∈ wsX6_lay := by decide +kernel
  have hl := lv_entry ([.ref o, .int (nI r), .int (nI k), .int v]) (n := 4) (Nat.le_of_ble_eq_true rfl)
  rw [lg_entry_eq]
  generalize (lg_sl ([.ref o, .int (nI r), .int (nI k), .int v]) ++ List.replicate (4 - (lg_sl ([.ref o, .int (nI r), .int (nI k), .int v])).length) Slot.unset).toArray = ls at hl ⊢
  replace hl : lv_has ls 4 [(0, .ref o), (1, .int (nI r)), (2, .int (nI k)), (3, .int v)] := hl
  refine lv_aload_n hx hb dX6_lay_0 rfl (lv_at hl 0 rfl) ?_
  refine va_get (D := (dC, dI)) (ci := 4) (v := .ref aS) (C := RX6) (T := TX6) (N := 16) hx hb hts hiX6 hown hK hP 0 rfl rfl 1 (by decide) hf7 (fun _ h9 => h9) rfl dX6_lay_1 ?_
  refine lv_bipush (v := (nI 15)) hx hb dX6_lay_4 (by decide) ?_
  refine lv_iconst (v := (nI 5)) hx hb dX6_lay_6 (by decide) ?_
  refine lv_iload_n hx hb dX6_lay_7 rfl (lv_at hl 1 rfl) ?_
  refine n_imul hx hb dX6_lay_8 ?_
  refine n_iadd hx hb dX6_lay_9 ?_
  refine lv_iload_n hx hb dX6_lay_10 rfl (lv_at hl 2 rfl) ?_
  refine n_iadd hx hb dX6_lay_11 ?_
  refine lv_iload_n hx hb dX6_lay_12 rfl (lv_at hl 3 rfl) ?_
  refine n_iast hx hb hK hP hD hS 1 0 rfl rfl (show (15 + (5 * r)) + k < 96 from by omega) (by decide) dX6_lay_13 (fun H locs hP hD hS => ?_)
  replace hP : va_P (dC, dI) vwCl [(o, .inr (4, [.int th, .ref aS, .ref aA, .ref aV, .int sm, .ref aB, .int ln, .int at_, .int wl, .ref aR, .int rm, .int ga, .int fi, .int se, .int ex, .long ha])), (aS, .inl (cI, 96, .inl (upd S ((15 + (5 * r)) + k) v)))] H := hP
  replace hD : va_D A [(o, .inr (4, [.int th, .ref aS, .ref aA, .ref aV, .int sm, .ref aB, .int ln, .int at_, .int wl, .ref aR, .int rm, .int ga, .int fi, .int se, .int ex, .long ha])), (aS, .inl (cI, 96, .inl (upd S ((15 + (5 * r)) + k) v)))] := hD
  have ec_r14_1_aS : upd S ((15 + (5 * r)) + k) v = upd S (15 + (5 * r) + k) v := by first | rfl | (rfl)
  have ew_r14_1 : ([(o, .inr (4, [.int th, .ref aS, .ref aA, .ref aV, .int sm, .ref aB, .int ln, .int at_, .int wl, .ref aR, .int rm, .int ga, .int fi, .int se, .int ex, .long ha])), (aS, .inl (cI, 96, .inl (upd S ((15 + (5 * r)) + k) v)))] : va_W) = [(o, .inr (4, [.int th, .ref aS, .ref aA, .ref aV, .int sm, .ref aB, .int ln, .int at_, .int wl, .ref aR, .int rm, .int ga, .int fi, .int se, .int ex, .long ha])), (aS, .inl (cI, 96, .inl (upd S (15 + (5 * r) + k) v)))] := (congrArg (fun z_ => ([(o, .inr (4, [.int th, .ref aS, .ref aA, .ref aV, .int sm, .ref aB, .int ln, .int at_, .int wl, .ref aR, .int rm, .int ga, .int fi, .int se, .int ex, .long ha])), (aS, .inl (cI, 96, .inl z_))] : va_W)) ec_r14_1_aS)
  have hP9 := (w_cgP ew_r14_1 hP)
  have hD9 := (w_cgD ew_r14_1 hD)
  exact W.vret hx hb hr (fun t ht hW => ⟨⟨(), rfl, trivial, by rw [ht]; exact hP9, va_K.moved hW.alike hK, hD9⟩, hS.F ht⟩) hS.2.2 dX6_lay_14
theorem hdX6_of : yX6_of.cls = RX6 ∧ yX6_of.cls ≠ "java/lang/invoke/MethodHandle" ∧ yX6_of.cls ≠ "java/lang/invoke/VarHandle" ∧ (parseMethodDescriptor yX6_of.desc).map (fun d => d.parameters.length) = some 2 := by decide +kernel
set_option maxHeartbeats 4000000 in
set_option maxRecDepth 100000 in
theorem kX6_heft (l : Launch) (dC : Nat → ClassId) (dI : Nat → Nat → Nat) (cI cV cW : ClassId) (o : Nat) (th : Int32) (aS : Nat) (aA : Nat) (aV : Nat) (sm : Int32) (aB : Nat) (ln : Int32) (at_ : Int32) (wl : Int32) (aR : Nat) (rm : Int32) (ga : Int32) (fi : Int32) (se : Int32) (ex : Int32) (ha : Int64) (S : Nat → Int32) (r : Nat) (h1 : r < 16) : Met l yX6_heft wsX6_heft ({ frames := 1, cells := 0, slots := 0, locals := 22 }) (pR (dC, dI) (tyS cI cV cW) [.ref o, .int (nI r)] [(o, .inr (4, [.int th, .ref aS, .ref aA, .ref aV, .int sm, .ref aB, .int ln, .int at_, .int wl, .ref aR, .int rm, .int ga, .int fi, .int se, .int ex, .long ha])), (aS, .inl (cI, 96, .inl S))]) (vp_Si (fun r_ => r_ = (sHf (gW S 3) (gW S 4) r))) 0 0 (fun _ => False) := by
  refine Met.ofW (cc := cX6_heft) (maxL := 2) (ret := (some .int)) (by decide) rfl ?_
  intro p e s m args below meth c s₁ B hml hv
  obtain ⟨rfl, hP, hK⟩ := hv
  have hx := B.exec
  have hb := B.bytes
  have hr := B.returns
  have hts := atoms_spec (ws := wsX6_heft) B.pre
  have hown : s.vm.findClass RX6 = some m.cls := findClass_of_methodNamed B.named
  have hlocks := B.notSynchronized
  have hiX6 : ∀ w ∈ u_ws RX6 TX6 16, w ∈ wsX6_heft := by decide +kernel
  have hl := lv_entry ([.ref o, .int (nI r)]) (n := 2) (Nat.le_of_ble_eq_true rfl)
  rw [lg_entry_eq]
  generalize (lg_sl ([.ref o, .int (nI r)]) ++ List.replicate (2 - (lg_sl ([.ref o, .int (nI r)])).length) Slot.unset).toArray = ls at hl ⊢
  replace hl : lv_has ls 2 [(0, .ref o), (1, .int (nI r))] := hl
  refine lv_iconst (v := (nI 2)) hx hb dX6_heft_0 (by decide) ?_
  refine lv_aload_n hx hb dX6_heft_1 rfl (lv_at hl 0 rfl) ?_
  refine lv_iload_n hx hb dX6_heft_2 rfl (lv_at hl 1 rfl) ?_
  refine lv_iconst (v := (nI 3)) hx hb dX6_heft_3 (by decide) ?_
  refine vp_callSi (W.runV (As := [.int (nI r), .int (nI 3)]) (rest := [.int (nI 2)]) ⟨hx, hb, hml, hown, hts⟩ (kX6_of l dC dI cI cV cW o th aS aA aV sm aB ln at_ wl aR rm ga fi se ex ha S r 3 (h1) (by omega)) (cwV 2 hts gX6_heft_X6_of rfl rfl rfl hdX6_of ⟨Nat.le_of_ble_eq_true rfl, Nat.le_of_ble_eq_true rfl⟩) (pR_V hK hP 0 4 rfl rfl rfl [0, 1] rfl) rfl rfl hl.1 rfl (lv_room (Nat.le_of_ble_eq_true rfl)) dX6_heft_4 ⟨Nat.zero_le _, Nat.zero_le _⟩) (fun r_4 hr_ => ?_)
  subst hr_
  refine lv_imul hx hb dX6_heft_7 ?_
  refine lv_aload_n hx hb dX6_heft_8 rfl (lv_at hl 0 rfl) ?_
  refine lv_iload_n hx hb dX6_heft_9 rfl (lv_at hl 1 rfl) ?_
  refine lv_iconst (v := (nI 4)) hx hb dX6_heft_10 (by decide) ?_
  refine vp_callSi (W.runV (As := [.int (nI r), .int (nI 4)]) (rest := [.int (2 * (gW S 3 r))]) ⟨hx, hb, hml, hown, hts⟩ (kX6_of l dC dI cI cV cW o th aS aA aV sm aB ln at_ wl aR rm ga fi se ex ha S r 4 (h1) (by omega)) (cwV 2 hts gX6_heft_X6_of rfl rfl rfl hdX6_of ⟨Nat.le_of_ble_eq_true rfl, Nat.le_of_ble_eq_true rfl⟩) (pR_V hK hP 0 4 rfl rfl rfl [0, 1] rfl) rfl rfl hl.1 rfl (lv_room (Nat.le_of_ble_eq_true rfl)) dX6_heft_11 ⟨Nat.zero_le _, Nat.zero_le _⟩) (fun r_11 hr_ => ?_)
  subst hr_
  refine lv_iadd hx hb dX6_heft_14 ?_
  exact W.iret (v := ((2 * (gW S 3 r)) + (gW S 4 r))) hx hb hr (fun t ht hW => ⟨_, rfl, (show ((2 * (gW S 3 r)) + (gW S 4 r)) = (sHf (gW S 3) (gW S 4) r) from by rfl), ht⟩) (fun q hq => absurd hq List.not_mem_nil) dX6_heft_15
set_option maxHeartbeats 4000000 in
set_option maxRecDepth 100000 in
theorem kX6_isMisplaced (l : Launch) (dC : Nat → ClassId) (dI : Nat → Nat → Nat) (cI cV cW : ClassId) (o : Nat) (th : Int32) (aS : Nat) (aA : Nat) (aV : Nat) (sm : Int32) (aB : Nat) (ln : Int32) (at_ : Int32) (wl : Int32) (aR : Nat) (rm : Int32) (ga : Int32) (fi : Int32) (se : Int32) (ex : Int32) (ha : Int64) (S : Nat → Int32) (r : Nat) (h1 : r < 16) : Met l yX6_isMisplaced wsX6_isMisplaced ({ frames := 1, cells := 0, slots := 0, locals := 22 }) (pR (dC, dI) (tyS cI cV cW) [.ref o, .int (nI r)] [(o, .inr (4, [.int th, .ref aS, .ref aA, .ref aV, .int sm, .ref aB, .int ln, .int at_, .int wl, .ref aR, .int rm, .int ga, .int fi, .int se, .int ex, .long ha])), (aS, .inl (cI, 96, .inl S))]) (vp_Si (fun r_ => r_ = (bI (sMis (gW S 1) (gW S 2) r)))) 0 0 (fun _ => False) := by
  refine Met.ofW (cc := cX6_isMisplaced) (maxL := 2) (ret := (some .boolean)) (by decide) rfl ?_
  intro p e s m args below meth c s₁ B hml hv
  obtain ⟨rfl, hP, hK⟩ := hv
  have hx := B.exec
  have hb := B.bytes
  have hr := B.returns
  have hts := atoms_spec (ws := wsX6_isMisplaced) B.pre
  have hown : s.vm.findClass RX6 = some m.cls := findClass_of_methodNamed B.named
  have hlocks := B.notSynchronized
  have hiX6 : ∀ w ∈ u_ws RX6 TX6 16, w ∈ wsX6_isMisplaced := by decide +kernel
  have hl := lv_entry ([.ref o, .int (nI r)]) (n := 2) (Nat.le_of_ble_eq_true rfl)
  rw [lg_entry_eq]
  generalize (lg_sl ([.ref o, .int (nI r)]) ++ List.replicate (2 - (lg_sl ([.ref o, .int (nI r)])).length) Slot.unset).toArray = ls at hl ⊢
  replace hl : lv_has ls 2 [(0, .ref o), (1, .int (nI r))] := hl
  refine lv_aload_n hx hb dX6_isMisplaced_0 rfl (lv_at hl 0 rfl) ?_
  refine lv_iload_n hx hb dX6_isMisplaced_1 rfl (lv_at hl 1 rfl) ?_
  refine lv_iconst (v := (nI 1)) hx hb dX6_isMisplaced_2 (by decide) ?_
  refine vp_callSi (W.runV (As := [.int (nI r), .int (nI 1)]) (rest := []) ⟨hx, hb, hml, hown, hts⟩ (kX6_of l dC dI cI cV cW o th aS aA aV sm aB ln at_ wl aR rm ga fi se ex ha S r 1 (h1) (by omega)) (cwV 2 hts gX6_isMisplaced_X6_of rfl rfl rfl hdX6_of ⟨Nat.le_of_ble_eq_true rfl, Nat.le_of_ble_eq_true rfl⟩) (pR_V hK hP 0 4 rfl rfl rfl [0, 1] rfl) rfl rfl hl.1 rfl (lv_room (Nat.le_of_ble_eq_true rfl)) dX6_isMisplaced_3 ⟨Nat.zero_le _, Nat.zero_le _⟩) (fun r_3 hr_ => ?_)
  subst hr_
  refine lv_aload_n hx hb dX6_isMisplaced_6 rfl (lv_at hl 0 rfl) ?_
  refine lv_iload_n hx hb dX6_isMisplaced_7 rfl (lv_at hl 1 rfl) ?_
  refine lv_iconst (v := (nI 2)) hx hb dX6_isMisplaced_8 (by decide) ?_
  refine vp_callSi (W.runV (As := [.int (nI r), .int (nI 2)]) (rest := [.int (gW S 1 r)]) ⟨hx, hb, hml, hown, hts⟩ (kX6_of l dC dI cI cV cW o th aS aA aV sm aB ln at_ wl aR rm ga fi se ex ha S r 2 (h1) (by omega)) (cwV 2 hts gX6_isMisplaced_X6_of rfl rfl rfl hdX6_of ⟨Nat.le_of_ble_eq_true rfl, Nat.le_of_ble_eq_true rfl⟩) (pR_V hK hP 0 4 rfl rfl rfl [0, 1] rfl) rfl rfl hl.1 rfl (lv_room (Nat.le_of_ble_eq_true rfl)) dX6_isMisplaced_9 ⟨Nat.zero_le _, Nat.zero_le _⟩) (fun r_9 hr_ => ?_)
  subst hr_
  refine lv_icmp_eq (tgt := 19) hx hb dX6_isMisplaced_12 (by decide) (fun c_12 => ?_) (fun c_12 => ?_)
  · refine lv_iconst (v := (nI 0)) hx hb dX6_isMisplaced_19 (by decide) ?_
    exact W.zret (v := (bI false)) hx hb hr (nar_bI _) (fun t ht hW => ⟨_, rfl, (congrArg bI (show false = sMis (gW S 1) (gW S 2) r from by first | rfl | (simp [sMis, *]; done))), ht⟩) (fun q hq => absurd hq List.not_mem_nil) dX6_isMisplaced_20
  · refine lv_iconst (v := (nI 1)) hx hb dX6_isMisplaced_15 (by decide) ?_
    refine lv_goto (tgt := 20) hx hb dX6_isMisplaced_16 (by decide) ?_
    exact W.zret (v := (bI true)) hx hb hr (nar_bI _) (fun t ht hW => ⟨_, rfl, (congrArg bI (show true = sMis (gW S 1) (gW S 2) r from by first | rfl | (simp [sMis, *]; done))), ht⟩) (fun q hq => absurd hq List.not_mem_nil) dX6_isMisplaced_20
set_option maxHeartbeats 4000000 in
set_option maxRecDepth 100000 in
theorem kX6_taken (l : Launch) (dC : Nat → ClassId) (dI : Nat → Nat → Nat) (cI cV cW : ClassId) (o : Nat) (th : Int32) (aS : Nat) (aA : Nat) (aV : Nat) (sm : Int32) (aB : Nat) (ln : Int32) (at_ : Int32) (wl : Int32) (aR : Nat) (rm : Int32) (ga : Int32) (fi : Int32) (se : Int32) (ex : Int32) (ha : Int64) (S : Nat → Int32) (cn : Nat) (k : Int32) (hR : RO S cn) : Met l yX6_taken wsX6_taken ({ frames := 1, cells := 0, slots := 0, locals := 22 }) (pR (dC, dI) (tyS cI cV cW) [.ref o, .int k] [(o, .inr (4, [.int th, .ref aS, .ref aA, .ref aV, .int sm, .ref aB, .int ln, .int at_, .int wl, .ref aR, .int rm, .int ga, .int fi, .int se, .int ex, .long ha])), (aS, .inl (cI, 96, .inl S))]) (vp_Si (fun r_ => r_ = (sTk (gW S 1) (gW S 0) k cn))) 0 0 (fun _ => False) := by
  refine Met.ofW (cc := cX6_taken) (maxL := 4) (ret := (some .int)) (by decide) rfl ?_
  intro p e s m args below meth c s₁ B hml hv
  obtain ⟨rfl, hP, hK⟩ := hv
  have hx := B.exec
  have hb := B.bytes
  have hr := B.returns
  have hts := atoms_spec (ws := wsX6_taken) B.pre
  have hown : s.vm.findClass RX6 = some m.cls := findClass_of_methodNamed B.named
  have hlocks := B.notSynchronized
  have hf7 := hts (.fieldLink RX6 7 "VaultShelvesModel" "s" "[I") (by decide +kernel)
  have hiX6 : ∀ w ∈ u_ws RX6 TX6 16, w ∈ wsX6_taken := by decide +kernel
  have hl := lv_entry ([.ref o, .int k]) (n := 4) (Nat.le_of_ble_eq_true rfl)
  rw [lg_entry_eq]
  generalize (lg_sl ([.ref o, .int k]) ++ List.replicate (4 - (lg_sl ([.ref o, .int k])).length) Slot.unset).toArray = ls at hl ⊢
  replace hl : lv_has ls 4 [(0, .ref o), (1, .int k)] := hl
  have hc := hR.2.1
  refine lv_iconst (v := (nI 0)) hx hb dX6_taken_0 (by decide) ?_
  refine lv_istore_n (lv' := [(2, .int (nI 0)), (0, .ref o), (1, .int k)]) hx hb dX6_taken_1 rfl hl (by decide) rfl (fun ls hl => ?_)
  refine lv_iconst (v := (nI 0)) hx hb dX6_taken_2 (by decide) ?_
  refine lv_istore_n (lv' := [(3, .int (nI 0)), (2, .int (nI 0)), (0, .ref o), (1, .int k)]) hx hb dX6_taken_3 rfl hl (by decide) rfl (fun ls hl => ?_)
  have el_i4_2 : (nI 0) = (sTk (gW S 1) (gW S 0) k 0) := by rfl
  have hI0 : (fun (i : Nat) ls => (i ≤ cn) ∧ (lv_has ls 4 [(0, .ref o), (1, .int k), (2, .int (sTk (gW S 1) (gW S 0) k i)), (3, .int (nI i))])) 0 ls := ⟨by omega, lv_cg (lv_sub hl [2, 3, 1, 0] rfl) (congrArg (fun z_ => ([(0, .ref o), (1, .int k), (2, .int z_), (3, .int (nI 0))] : List (Nat × Value))) el_i4_2)⟩
  clear hl
  revert ls
  refine lp_ls (fun (i : Nat) ls => (i ≤ cn) ∧ (lv_has ls 4 [(0, .ref o), (1, .int k), (2, .int (sTk (gW S 1) (gW S 0) k i)), (3, .int (nI i))])) (fun (i : Nat) => cn - i) 0 (fun q_ ls hI ih4 => ?_)
  obtain ⟨i, rfl⟩ : ∃ z, z = q_ := ⟨_, rfl⟩
  obtain ⟨hi, hl⟩ := hI
  refine lv_iload_n hx hb dX6_taken_4 rfl (lv_at hl 3 rfl) ?_
  refine lv_aload_n hx hb dX6_taken_5 rfl (lv_at hl 0 rfl) ?_
  refine va_get (D := (dC, dI)) (ci := 4) (v := .ref aS) (C := RX6) (T := TX6) (N := 16) hx hb hts hiX6 hown hK hP 0 rfl rfl 1 (by decide) hf7 (fun _ h9 => h9) rfl dX6_taken_6 ?_
  refine lv_iconst (v := (nI 0)) hx hb dX6_taken_9 (by decide) ?_
  refine n_iald hx hb hK hP 1 0 rfl rfl (show 0 < 96 from by omega) (by decide) dX6_taken_10 ?_
  refine lv_cgi (show (S 0) = (nI cn) from hR.1) ?_
  refine n_icmp_ge (tgt := 43) hx hb dX6_taken_11 (by decide) (by omega) (by omega) (fun c_11 => ?_) (fun c_11 => ?_)
  · obtain rfl : cn = i := by omega
    refine lv_iload_n hx hb dX6_taken_43 rfl (lv_at hl 2 rfl) ?_
    exact W.iret (v := (sTk (gW S 1) (gW S 0) k cn)) hx hb hr (fun t ht hW => ⟨_, rfl, rfl, ht⟩) (fun q hq => absurd hq List.not_mem_nil) dX6_taken_44
  · refine lv_iload_n hx hb dX6_taken_14 rfl (lv_at hl 2 rfl) ?_
    refine lv_aload_n hx hb dX6_taken_15 rfl (lv_at hl 0 rfl) ?_
    refine lv_iload_n hx hb dX6_taken_16 rfl (lv_at hl 3 rfl) ?_
    refine lv_iconst (v := (nI 1)) hx hb dX6_taken_17 (by decide) ?_
    refine vp_callSi (W.runV (As := [.int (nI i), .int (nI 1)]) (rest := [.int (sTk (gW S 1) (gW S 0) k i)]) ⟨hx, hb, hml, hown, hts⟩ (kX6_of l dC dI cI cV cW o th aS aA aV sm aB ln at_ wl aR rm ga fi se ex ha S i 1 (by omega) (by omega)) (cwV 2 hts gX6_taken_X6_of rfl rfl rfl hdX6_of ⟨Nat.le_of_ble_eq_true rfl, Nat.le_of_ble_eq_true rfl⟩) (pR_V hK hP 0 4 rfl rfl rfl [0, 1] rfl) rfl rfl hl.1 rfl (lv_room (Nat.le_of_ble_eq_true rfl)) dX6_taken_18 ⟨Nat.zero_le _, Nat.zero_le _⟩) (fun r_18 hr_ => ?_)
    subst hr_
    refine lv_iload_n hx hb dX6_taken_21 rfl (lv_at hl 1 rfl) ?_
    refine lv_icmp_ne (tgt := 34) hx hb dX6_taken_22 (by decide) (fun c_22 => ?_) (fun c_22 => ?_)
    · refine lv_iconst (v := (nI 0)) hx hb dX6_taken_34 (by decide) ?_
      refine lv_iadd hx hb dX6_taken_35 ?_
      refine lv_istore_n (lv' := [(2, .int ((sTk (gW S 1) (gW S 0) k i) + 0)), (0, .ref o), (1, .int k), (3, .int (nI i))]) hx hb dX6_taken_36 rfl hl (by decide) rfl (fun ls hl => ?_)
      refine lv_iinc (v := (nI (i + 1))) (lv' := [(3, .int (nI (i + 1))), (2, .int ((sTk (gW S 1) (gW S 0) k i) + 0)), (0, .ref o), (1, .int k)]) hx hb dX6_taken_37 hl (k := 3) rfl (n_inc _ 1) (by decide) rfl (fun ls hl => ?_)
      refine lv_goto (tgt := 4) hx hb dX6_taken_40 (by decide) ?_
      have el_b4_2_2 : ((sTk (gW S 1) (gW S 0) k i) + 0) = (sTk (gW S 1) (gW S 0) k (i + 1)) := by first | rfl | (simp [sTk, *])
      exact ih4 (i + 1) ls ⟨by omega, lv_cg (lv_sub hl [2, 3, 1, 0] rfl) (congrArg (fun z_ => ([(0, .ref o), (1, .int k), (2, .int z_), (3, .int (nI (i + 1)))] : List (Nat × Value))) el_b4_2_2)⟩ (by first | omega | (dsimp only; omega))
    · refine lv_aload_n hx hb dX6_taken_25 rfl (lv_at hl 0 rfl) ?_
      refine lv_iload_n hx hb dX6_taken_26 rfl (lv_at hl 3 rfl) ?_
      refine lv_iconst (v := (nI 0)) hx hb dX6_taken_27 (by decide) ?_
      refine vp_callSi (W.runV (As := [.int (nI i), .int (nI 0)]) (rest := [.int (sTk (gW S 1) (gW S 0) k i)]) ⟨hx, hb, hml, hown, hts⟩ (kX6_of l dC dI cI cV cW o th aS aA aV sm aB ln at_ wl aR rm ga fi se ex ha S i 0 (by omega) (by omega)) (cwV 2 hts gX6_taken_X6_of rfl rfl rfl hdX6_of ⟨Nat.le_of_ble_eq_true rfl, Nat.le_of_ble_eq_true rfl⟩) (pR_V hK hP 0 4 rfl rfl rfl [0, 1] rfl) rfl rfl hl.1 rfl (lv_room (Nat.le_of_ble_eq_true rfl)) dX6_taken_28 ⟨Nat.zero_le _, Nat.zero_le _⟩) (fun r_28 hr_ => ?_)
      subst hr_
      refine lv_goto (tgt := 35) hx hb dX6_taken_31 (by decide) ?_
      refine lv_iadd hx hb dX6_taken_35 ?_
      refine lv_istore_n (lv' := [(2, .int ((sTk (gW S 1) (gW S 0) k i) + (gW S 0 i))), (0, .ref o), (1, .int k), (3, .int (nI i))]) hx hb dX6_taken_36 rfl hl (by decide) rfl (fun ls hl => ?_)
      refine lv_iinc (v := (nI (i + 1))) (lv' := [(3, .int (nI (i + 1))), (2, .int ((sTk (gW S 1) (gW S 0) k i) + (gW S 0 i))), (0, .ref o), (1, .int k)]) hx hb dX6_taken_37 hl (k := 3) rfl (n_inc _ 1) (by decide) rfl (fun ls hl => ?_)
      refine lv_goto (tgt := 4) hx hb dX6_taken_40 (by decide) ?_
      have el_b4_3_2 : ((sTk (gW S 1) (gW S 0) k i) + (gW S 0 i)) = (sTk (gW S 1) (gW S 0) k (i + 1)) := by first | rfl | (simp [sTk, *])
      exact ih4 (i + 1) ls ⟨by omega, lv_cg (lv_sub hl [2, 3, 1, 0] rfl) (congrArg (fun z_ => ([(0, .ref o), (1, .int k), (2, .int z_), (3, .int (nI (i + 1)))] : List (Nat × Value))) el_b4_3_2)⟩ (by first | omega | (dsimp only; omega))
theorem hdX6_taken : yX6_taken.cls = RX6 ∧ yX6_taken.cls ≠ "java/lang/invoke/MethodHandle" ∧ yX6_taken.cls ≠ "java/lang/invoke/VarHandle" ∧ (parseMethodDescriptor yX6_taken.desc).map (fun d => d.parameters.length) = some 1 := by decide +kernel
set_option maxHeartbeats 4000000 in
set_option maxRecDepth 100000 in
theorem kX6_room (l : Launch) (dC : Nat → ClassId) (dI : Nat → Nat → Nat) (cI cV cW : ClassId) (o : Nat) (th : Int32) (aS : Nat) (aA : Nat) (aV : Nat) (sm : Int32) (aB : Nat) (ln : Int32) (at_ : Int32) (wl : Int32) (aR : Nat) (rm : Int32) (ga : Int32) (fi : Int32) (se : Int32) (ex : Int32) (ha : Int64) (S : Nat → Int32) (cn : Nat) (k : Nat) (hR : RO S cn) (hk : k < 6) : Met l yX6_room wsX6_room ({ frames := 2, cells := 0, slots := 0, locals := 45 }) (pR (dC, dI) (tyS cI cV cW) [.ref o, .int (nI k)] [(o, .inr (4, [.int th, .ref aS, .ref aA, .ref aV, .int sm, .ref aB, .int ln, .int at_, .int wl, .ref aR, .int rm, .int ga, .int fi, .int se, .int ex, .long ha])), (aS, .inl (cI, 96, .inl S))]) (vp_Si (fun r_ => r_ = (sRm S cn k))) 0 0 (fun _ => False) := by
  refine Met.ofW (cc := cX6_room) (maxL := 2) (ret := (some .int)) (by decide) rfl ?_
  intro p e s m args below meth c s₁ B hml hv
  obtain ⟨rfl, hP, hK⟩ := hv
  have hx := B.exec
  have hb := B.bytes
  have hr := B.returns
  have hts := atoms_spec (ws := wsX6_room) B.pre
  have hown : s.vm.findClass RX6 = some m.cls := findClass_of_methodNamed B.named
  have hlocks := B.notSynchronized
  have hf7 := hts (.fieldLink RX6 7 "VaultShelvesModel" "s" "[I") (by decide +kernel)
  have hiX6 : ∀ w ∈ u_ws RX6 TX6 16, w ∈ wsX6_room := by decide +kernel
  have hl := lv_entry ([.ref o, .int (nI k)]) (n := 2) (Nat.le_of_ble_eq_true rfl)
  rw [lg_entry_eq]
  generalize (lg_sl ([.ref o, .int (nI k)]) ++ List.replicate (2 - (lg_sl ([.ref o, .int (nI k)])).length) Slot.unset).toArray = ls at hl ⊢
  replace hl : lv_has ls 2 [(0, .ref o), (1, .int (nI k))] := hl
  refine lv_aload_n hx hb dX6_room_0 rfl (lv_at hl 0 rfl) ?_
  refine va_get (D := (dC, dI)) (ci := 4) (v := .ref aS) (C := RX6) (T := TX6) (N := 16) hx hb hts hiX6 hown hK hP 0 rfl rfl 1 (by decide) hf7 (fun _ h9 => h9) rfl dX6_room_1 ?_
  refine lv_iconst (v := (nI 3)) hx hb dX6_room_4 (by decide) ?_
  refine lv_iload_n hx hb dX6_room_5 rfl (lv_at hl 1 rfl) ?_
  refine n_iadd hx hb dX6_room_6 ?_
  refine n_iald hx hb hK hP 1 0 rfl rfl (show 3 + k < 96 from by omega) (by decide) dX6_room_7 ?_
  refine lv_aload_n hx hb dX6_room_8 rfl (lv_at hl 0 rfl) ?_
  refine lv_iload_n hx hb dX6_room_9 rfl (lv_at hl 1 rfl) ?_
  refine vp_callSi (W.runV (As := [.int (nI k)]) (rest := [.int (S (3 + k))]) ⟨hx, hb, hml, hown, hts⟩ (kX6_taken l dC dI cI cV cW o th aS aA aV sm aB ln at_ wl aR rm ga fi se ex ha S cn (nI k) (hR)) (cwV 1 hts gX6_room_X6_taken rfl rfl rfl hdX6_taken ⟨Nat.le_of_ble_eq_true rfl, Nat.le_of_ble_eq_true rfl⟩) (pR_V hK hP 0 4 rfl rfl rfl [0, 1] rfl) rfl rfl hl.1 rfl (lv_room (Nat.le_of_ble_eq_true rfl)) dX6_room_10 ⟨Nat.zero_le _, Nat.zero_le _⟩) (fun r_10 hr_ => ?_)
  subst hr_
  refine lv_isub hx hb dX6_room_13 ?_
  exact W.iret (v := ((S (3 + k)) - (sTk (gW S 1) (gW S 0) (nI k) cn))) hx hb hr (fun t ht hW => ⟨_, rfl, (show ((S (3 + k)) - (sTk (gW S 1) (gW S 0) (nI k) cn)) = (sRm S cn k) from by rfl), ht⟩) (fun q hq => absurd hq List.not_mem_nil) dX6_room_14
theorem hdX6_heft : yX6_heft.cls = RX6 ∧ yX6_heft.cls ≠ "java/lang/invoke/MethodHandle" ∧ yX6_heft.cls ≠ "java/lang/invoke/VarHandle" ∧ (parseMethodDescriptor yX6_heft.desc).map (fun d => d.parameters.length) = some 1 := by decide +kernel
set_option maxHeartbeats 4000000 in
set_option maxRecDepth 100000 in
theorem kX6_costs (l : Launch) (dC : Nat → ClassId) (dI : Nat → Nat → Nat) (cI cV cW : ClassId) (o : Nat) (th : Int32) (aS : Nat) (aA : Nat) (aV : Nat) (sm : Int32) (aB : Nat) (ln : Int32) (at_ : Int32) (wl : Int32) (aR : Nat) (rm : Int32) (ga : Int32) (fi : Int32) (se : Int32) (ex : Int32) (ha : Int64) (S : Nat → Int32) (cn : Nat) (hR : RO S cn) : Met l yX6_costs wsX6_costs ({ frames := 2, cells := 0, slots := 0, locals := 43 }) (pR (dC, dI) (tyS cI cV cW) [.ref o] [(o, .inr (4, [.int th, .ref aS, .ref aA, .ref aV, .int sm, .ref aB, .int ln, .int at_, .int wl, .ref aR, .int rm, .int ga, .int fi, .int se, .int ex, .long ha])), (aS, .inl (cI, 96, .inl S))]) (vp_Si (fun r_ => r_ = (sCo (gW S 3) (gW S 4) (gW S 2) (gQ S) cn))) 0 0 (fun _ => False) := by
  refine Met.ofW (cc := cX6_costs) (maxL := 3) (ret := (some .int)) (by decide) rfl ?_
  intro p e s m args below meth c s₁ B hml hv
  obtain ⟨rfl, hP, hK⟩ := hv
  have hx := B.exec
  have hb := B.bytes
  have hr := B.returns
  have hts := atoms_spec (ws := wsX6_costs) B.pre
  have hown : s.vm.findClass RX6 = some m.cls := findClass_of_methodNamed B.named
  have hlocks := B.notSynchronized
  have hf7 := hts (.fieldLink RX6 7 "VaultShelvesModel" "s" "[I") (by decide +kernel)
  have hiX6 : ∀ w ∈ u_ws RX6 TX6 16, w ∈ wsX6_costs := by decide +kernel
  have hl := lv_entry ([.ref o]) (n := 3) (Nat.le_of_ble_eq_true rfl)
  rw [lg_entry_eq]
  generalize (lg_sl ([.ref o]) ++ List.replicate (3 - (lg_sl ([.ref o])).length) Slot.unset).toArray = ls at hl ⊢
  replace hl : lv_has ls 3 [(0, .ref o)] := hl
  have hc := hR.2.1
  refine lv_iconst (v := (nI 0)) hx hb dX6_costs_0 (by decide) ?_
  refine lv_istore_n (lv' := [(1, .int (nI 0)), (0, .ref o)]) hx hb dX6_costs_1 rfl hl (by decide) rfl (fun ls hl => ?_)
  refine lv_iconst (v := (nI 0)) hx hb dX6_costs_2 (by decide) ?_
  refine lv_istore_n (lv' := [(2, .int (nI 0)), (1, .int (nI 0)), (0, .ref o)]) hx hb dX6_costs_3 rfl hl (by decide) rfl (fun ls hl => ?_)
  have el_i4_1 : (nI 0) = (sCo (gW S 3) (gW S 4) (gW S 2) (gQ S) 0) := by rfl
  have hI0 : (fun (i : Nat) ls => (i ≤ cn) ∧ (lv_has ls 3 [(0, .ref o), (1, .int (sCo (gW S 3) (gW S 4) (gW S 2) (gQ S) i)), (2, .int (nI i))])) 0 ls := ⟨by omega, lv_cg (lv_sub hl [2, 1, 0] rfl) (congrArg (fun z_ => ([(0, .ref o), (1, .int z_), (2, .int (nI 0))] : List (Nat × Value))) el_i4_1)⟩
  clear hl
  revert ls
  refine lp_ls (fun (i : Nat) ls => (i ≤ cn) ∧ (lv_has ls 3 [(0, .ref o), (1, .int (sCo (gW S 3) (gW S 4) (gW S 2) (gQ S) i)), (2, .int (nI i))])) (fun (i : Nat) => cn - i) 0 (fun q_ ls hI ih4 => ?_)
  obtain ⟨i, rfl⟩ : ∃ z, z = q_ := ⟨_, rfl⟩
  obtain ⟨hi, hl⟩ := hI
  refine lv_iload_n hx hb dX6_costs_4 rfl (lv_at hl 2 rfl) ?_
  refine lv_aload_n hx hb dX6_costs_5 rfl (lv_at hl 0 rfl) ?_
  refine va_get (D := (dC, dI)) (ci := 4) (v := .ref aS) (C := RX6) (T := TX6) (N := 16) hx hb hts hiX6 hown hK hP 0 rfl rfl 1 (by decide) hf7 (fun _ h9 => h9) rfl dX6_costs_6 ?_
  refine lv_iconst (v := (nI 0)) hx hb dX6_costs_9 (by decide) ?_
  refine n_iald hx hb hK hP 1 0 rfl rfl (show 0 < 96 from by omega) (by decide) dX6_costs_10 ?_
  refine lv_cgi (show (S 0) = (nI cn) from hR.1) ?_
  refine n_icmp_ge (tgt := 43) hx hb dX6_costs_11 (by decide) (by omega) (by omega) (fun c_11 => ?_) (fun c_11 => ?_)
  · obtain rfl : cn = i := by omega
    refine lv_iload_n hx hb dX6_costs_43 rfl (lv_at hl 1 rfl) ?_
    exact W.iret (v := (sCo (gW S 3) (gW S 4) (gW S 2) (gQ S) cn)) hx hb hr (fun t ht hW => ⟨_, rfl, rfl, ht⟩) (fun q hq => absurd hq List.not_mem_nil) dX6_costs_44
  · refine lv_iload_n hx hb dX6_costs_14 rfl (lv_at hl 1 rfl) ?_
    refine lv_aload_n hx hb dX6_costs_15 rfl (lv_at hl 0 rfl) ?_
    refine lv_iload_n hx hb dX6_costs_16 rfl (lv_at hl 2 rfl) ?_
    refine vp_callSi (W.runV (As := [.int (nI i)]) (rest := [.int (sCo (gW S 3) (gW S 4) (gW S 2) (gQ S) i)]) ⟨hx, hb, hml, hown, hts⟩ (kX6_heft l dC dI cI cV cW o th aS aA aV sm aB ln at_ wl aR rm ga fi se ex ha S i (by omega)) (cwV 1 hts gX6_costs_X6_heft rfl rfl rfl hdX6_heft ⟨Nat.le_of_ble_eq_true rfl, Nat.le_of_ble_eq_true rfl⟩) (pR_V hK hP 0 4 rfl rfl rfl [0, 1] rfl) rfl rfl hl.1 rfl (lv_room (Nat.le_of_ble_eq_true rfl)) dX6_costs_17 ⟨Nat.zero_le _, Nat.zero_le _⟩) (fun r_17 hr_ => ?_)
    subst hr_
    refine lv_aload_n hx hb dX6_costs_20 rfl (lv_at hl 0 rfl) ?_
    refine va_get (D := (dC, dI)) (ci := 4) (v := .ref aS) (C := RX6) (T := TX6) (N := 16) hx hb hts hiX6 hown hK hP 0 rfl rfl 1 (by decide) hf7 (fun _ h9 => h9) rfl dX6_costs_21 ?_
    refine lv_bipush (v := (nI 9)) hx hb dX6_costs_24 (by decide) ?_
    refine lv_aload_n hx hb dX6_costs_26 rfl (lv_at hl 0 rfl) ?_
    refine lv_iload_n hx hb dX6_costs_27 rfl (lv_at hl 2 rfl) ?_
    refine lv_iconst (v := (nI 2)) hx hb dX6_costs_28 (by decide) ?_
    refine vp_callSi (W.runV (As := [.int (nI i), .int (nI 2)]) (rest := [.int (nI 9), .ref aS, .int (sHf (gW S 3) (gW S 4) i), .int (sCo (gW S 3) (gW S 4) (gW S 2) (gQ S) i)]) ⟨hx, hb, hml, hown, hts⟩ (kX6_of l dC dI cI cV cW o th aS aA aV sm aB ln at_ wl aR rm ga fi se ex ha S i 2 (by omega) (by omega)) (cwV 2 hts gX6_costs_X6_of rfl rfl rfl hdX6_of ⟨Nat.le_of_ble_eq_true rfl, Nat.le_of_ble_eq_true rfl⟩) (pR_V hK hP 0 4 rfl rfl rfl [0, 1] rfl) rfl rfl hl.1 rfl (lv_room (Nat.le_of_ble_eq_true rfl)) dX6_costs_29 ⟨Nat.zero_le _, Nat.zero_le _⟩) (fun r_29 hr_ => ?_)
    subst hr_
    refine lv_cgi (show (gW S 2 i) = (nI (ix (gW S 2 i))) from (hR.2.2 i c_11).2.1) ?_
    refine n_iadd hx hb dX6_costs_32 ?_
    refine n_iald hx hb hK hP 1 0 rfl rfl (show 9 + (ix (gW S 2 i)) < 96 from by have := (hR.2.2 i c_11).2.2; omega) (by decide) dX6_costs_33 ?_
    refine lv_imul hx hb dX6_costs_34 ?_
    refine lv_iadd hx hb dX6_costs_35 ?_
    refine lv_istore_n (lv' := [(1, .int ((sCo (gW S 3) (gW S 4) (gW S 2) (gQ S) i) + ((sHf (gW S 3) (gW S 4) i) * (S (9 + (ix (gW S 2 i))))))), (0, .ref o), (2, .int (nI i))]) hx hb dX6_costs_36 rfl hl (by decide) rfl (fun ls hl => ?_)
    refine lv_iinc (v := (nI (i + 1))) (lv' := [(2, .int (nI (i + 1))), (1, .int ((sCo (gW S 3) (gW S 4) (gW S 2) (gQ S) i) + ((sHf (gW S 3) (gW S 4) i) * (S (9 + (ix (gW S 2 i))))))), (0, .ref o)]) hx hb dX6_costs_37 hl (k := 2) rfl (n_inc _ 1) (by decide) rfl (fun ls hl => ?_)
    refine lv_goto (tgt := 4) hx hb dX6_costs_40 (by decide) ?_
    have el_b4_2_1 : ((sCo (gW S 3) (gW S 4) (gW S 2) (gQ S) i) + ((sHf (gW S 3) (gW S 4) i) * (S (9 + (ix (gW S 2 i)))))) = (sCo (gW S 3) (gW S 4) (gW S 2) (gQ S) (i + 1)) := by rfl
    exact ih4 (i + 1) ls ⟨by omega, lv_cg (lv_sub hl [2, 1, 0] rfl) (congrArg (fun z_ => ([(0, .ref o), (1, .int z_), (2, .int (nI (i + 1)))] : List (Nat × Value))) el_b4_2_1)⟩ (by first | omega | (dsimp only; omega))
set_option maxHeartbeats 4000000 in
set_option maxRecDepth 100000 in
theorem kX6_isNearer (l : Launch) (dC : Nat → ClassId) (dI : Nat → Nat → Nat) (cI cV cW : ClassId) (o : Nat) (th : Int32) (aS : Nat) (aA : Nat) (aV : Nat) (sm : Int32) (aB : Nat) (ln : Int32) (at_ : Int32) (wl : Int32) (aR : Nat) (rm : Int32) (ga : Int32) (fi : Int32) (se : Int32) (ex : Int32) (ha : Int64) (S : Nat → Int32) (a : Nat) (b : Nat) (h1 : a < 6) (h2 : b < 6) : Met l yX6_isNearer wsX6_isNearer ({ frames := 0, cells := 0, slots := 0, locals := 0 }) (pR (dC, dI) (tyS cI cV cW) [.ref o, .int (nI a), .int (nI b)] [(o, .inr (4, [.int th, .ref aS, .ref aA, .ref aV, .int sm, .ref aB, .int ln, .int at_, .int wl, .ref aR, .int rm, .int ga, .int fi, .int se, .int ex, .long ha])), (aS, .inl (cI, 96, .inl S))]) (vp_Si (fun r_ => r_ = (bI (sNear (gQ S) a b)))) 0 0 (fun _ => False) := by
  refine Met.ofW (cc := cX6_isNearer) (maxL := 4) (ret := (some .boolean)) (by decide) rfl ?_
  intro p e s m args below meth c s₁ B hml hv
  obtain ⟨rfl, hP, hK⟩ := hv
  have hx := B.exec
  have hb := B.bytes
  have hr := B.returns
  have hts := atoms_spec (ws := wsX6_isNearer) B.pre
  have hown : s.vm.findClass RX6 = some m.cls := findClass_of_methodNamed B.named
  have hlocks := B.notSynchronized
  have hf7 := hts (.fieldLink RX6 7 "VaultShelvesModel" "s" "[I") (by decide +kernel)
  have hiX6 : ∀ w ∈ u_ws RX6 TX6 16, w ∈ wsX6_isNearer := by decide +kernel
  have hl := lv_entry ([.ref o, .int (nI a), .int (nI b)]) (n := 4) (Nat.le_of_ble_eq_true rfl)
  rw [lg_entry_eq]
  generalize (lg_sl ([.ref o, .int (nI a), .int (nI b)]) ++ List.replicate (4 - (lg_sl ([.ref o, .int (nI a), .int (nI b)])).length) Slot.unset).toArray = ls at hl ⊢
  replace hl : lv_has ls 4 [(0, .ref o), (1, .int (nI a)), (2, .int (nI b))] := hl
  refine lv_aload_n hx hb dX6_isNearer_0 rfl (lv_at hl 0 rfl) ?_
  refine va_get (D := (dC, dI)) (ci := 4) (v := .ref aS) (C := RX6) (T := TX6) (N := 16) hx hb hts hiX6 hown hK hP 0 rfl rfl 1 (by decide) hf7 (fun _ h9 => h9) rfl dX6_isNearer_1 ?_
  refine lv_bipush (v := (nI 9)) hx hb dX6_isNearer_4 (by decide) ?_
  refine lv_iload_n hx hb dX6_isNearer_6 rfl (lv_at hl 1 rfl) ?_
  refine n_iadd hx hb dX6_isNearer_7 ?_
  refine n_iald hx hb hK hP 1 0 rfl rfl (show 9 + a < 96 from by omega) (by decide) dX6_isNearer_8 ?_
  refine lv_aload_n hx hb dX6_isNearer_9 rfl (lv_at hl 0 rfl) ?_
  refine va_get (D := (dC, dI)) (ci := 4) (v := .ref aS) (C := RX6) (T := TX6) (N := 16) hx hb hts hiX6 hown hK hP 0 rfl rfl 1 (by decide) hf7 (fun _ h9 => h9) rfl dX6_isNearer_10 ?_
  refine lv_bipush (v := (nI 9)) hx hb dX6_isNearer_13 (by decide) ?_
  refine lv_iload_n hx hb dX6_isNearer_15 rfl (lv_at hl 2 rfl) ?_
  refine n_iadd hx hb dX6_isNearer_16 ?_
  refine n_iald hx hb hK hP 1 0 rfl rfl (show 9 + b < 96 from by omega) (by decide) dX6_isNearer_17 ?_
  refine lv_isub hx hb dX6_isNearer_18 ?_
  refine lv_istore_n (lv' := [(3, .int ((S (9 + a)) - (S (9 + b)))), (0, .ref o), (1, .int (nI a)), (2, .int (nI b))]) hx hb dX6_isNearer_19 rfl hl (by decide) rfl (fun ls hl => ?_)
  refine lv_iload_n hx hb dX6_isNearer_20 rfl (lv_at hl 0 rfl) ?_
  refine lv_if_lt (tgt := 33) hx hb dX6_isNearer_21 (by decide) (fun c_21 => ?_) (fun c_21 => ?_)
  · refine lv_iconst (v := (nI 1)) hx hb dX6_isNearer_33 (by decide) ?_
    refine lv_goto (tgt := 38) hx hb dX6_isNearer_34 (by decide) ?_
    exact W.zret (v := (bI true)) hx hb hr (nar_bI _) (fun t ht hW => ⟨_, rfl, (congrArg bI (show true = sNear (gQ S) a b from by first | rfl | (simp [sNear, gQ, *]; done))), ht⟩) (fun q hq => absurd hq List.not_mem_nil) dX6_isNearer_38
  · refine lv_iload_n hx hb dX6_isNearer_24 rfl (lv_at hl 0 rfl) ?_
    refine lv_if_ne (tgt := 37) hx hb dX6_isNearer_25 (by decide) (fun c_25 => ?_) (fun c_25 => ?_)
    · refine lv_iconst (v := (nI 0)) hx hb dX6_isNearer_37 (by decide) ?_
      exact W.zret (v := (bI false)) hx hb hr (nar_bI _) (fun t ht hW => ⟨_, rfl, (congrArg bI (show false = sNear (gQ S) a b from by first | rfl | (simp [sNear, gQ, *]; done))), ht⟩) (fun q hq => absurd hq List.not_mem_nil) dX6_isNearer_38
    · refine lv_iload_n hx hb dX6_isNearer_28 rfl (lv_at hl 2 rfl) ?_
      refine lv_iload_n hx hb dX6_isNearer_29 rfl (lv_at hl 3 rfl) ?_
      refine n_icmp_ge (tgt := 37) hx hb dX6_isNearer_30 (by decide) (by omega) (by omega) (fun c_30 => ?_) (fun c_30 => ?_)
      · refine lv_iconst (v := (nI 0)) hx hb dX6_isNearer_37 (by decide) ?_
        exact W.zret (v := (bI false)) hx hb hr (nar_bI _) (fun t ht hW => ⟨_, rfl, (congrArg bI (show false = sNear (gQ S) a b from by first | rfl | (simp [sNear, gQ, *]; done))), ht⟩) (fun q hq => absurd hq List.not_mem_nil) dX6_isNearer_38
      · refine lv_iconst (v := (nI 1)) hx hb dX6_isNearer_33 (by decide) ?_
        refine lv_goto (tgt := 38) hx hb dX6_isNearer_34 (by decide) ?_
        exact W.zret (v := (bI true)) hx hb hr (nar_bI _) (fun t ht hW => ⟨_, rfl, (congrArg bI (show true = sNear (gQ S) a b from by first | rfl | (simp [sNear, gQ, *]; done))), ht⟩) (fun q hq => absurd hq List.not_mem_nil) dX6_isNearer_38
theorem hdX6_isMisplaced : yX6_isMisplaced.cls = RX6 ∧ yX6_isMisplaced.cls ≠ "java/lang/invoke/MethodHandle" ∧ yX6_isMisplaced.cls ≠ "java/lang/invoke/VarHandle" ∧ (parseMethodDescriptor yX6_isMisplaced.desc).map (fun d => d.parameters.length) = some 1 := by decide +kernel
theorem hdX6_isNearer : yX6_isNearer.cls = RX6 ∧ yX6_isNearer.cls ≠ "java/lang/invoke/MethodHandle" ∧ yX6_isNearer.cls ≠ "java/lang/invoke/VarHandle" ∧ (parseMethodDescriptor yX6_isNearer.desc).map (fun d => d.parameters.length) = some 2 := by decide +kernel
set_option maxHeartbeats 4000000 in
set_option maxRecDepth 100000 in
theorem kX6_walk (l : Launch) (dC : Nat → ClassId) (dI : Nat → Nat → Nat) (cI cV cW : ClassId) (o : Nat) (th : Int32) (aS : Nat) (aA : Nat) (aV : Nat) (sm : Int32) (aB : Nat) (ln : Int32) (at_ : Int32) (wl : Int32) (aR : Nat) (rm : Int32) (ga : Int32) (fi : Int32) (se : Int32) (ex : Int32) (ha : Int64) (S : Nat → Int32) (cn : Nat) (r : Nat) (hR : RO S cn) (hr_0 : r < cn) : Met l yX6_walk wsX6_walk ({ frames := 2, cells := 0, slots := 0, locals := 43 }) (pR (dC, dI) (tyS cI cV cW) [.ref o, .int (nI r)] [(o, .inr (4, [.int th, .ref aS, .ref aA, .ref aV, .int sm, .ref aB, .int ln, .int at_, .int wl, .ref aR, .int rm, .int ga, .int fi, .int se, .int ex, .long ha])), (aS, .inl (cI, 96, .inl S))]) (vp_Si (fun r_ => r_ = (sWalk (gQ S) (gW S 1) (gW S 2) r))) 0 0 (fun _ => False) := by
  refine Met.ofW (cc := cX6_walk) (maxL := 5) (ret := (some .int)) (by decide) rfl ?_
  intro p e s m args below meth c s₁ B hml hv
  obtain ⟨rfl, hP, hK⟩ := hv
  have hx := B.exec
  have hb := B.bytes
  have hr := B.returns
  have hts := atoms_spec (ws := wsX6_walk) B.pre
  have hown : s.vm.findClass RX6 = some m.cls := findClass_of_methodNamed B.named
  have hlocks := B.notSynchronized
  have hf7 := hts (.fieldLink RX6 7 "VaultShelvesModel" "s" "[I") (by decide +kernel)
  have hiX6 : ∀ w ∈ u_ws RX6 TX6 16, w ∈ wsX6_walk := by decide +kernel
  have hl := lv_entry ([.ref o, .int (nI r)]) (n := 5) (Nat.le_of_ble_eq_true rfl)
  rw [lg_entry_eq]
  generalize (lg_sl ([.ref o, .int (nI r)]) ++ List.replicate (5 - (lg_sl ([.ref o, .int (nI r)])).length) Slot.unset).toArray = ls at hl ⊢
  replace hl : lv_has ls 5 [(0, .ref o), (1, .int (nI r))] := hl
  have hc := hR.2.1
  have hj := (hR.2.2 r hr_0).2.2
  have hp := (hR.2.2 r hr_0).1.2
  refine lv_aload_n hx hb dX6_walk_0 rfl (lv_at hl 0 rfl) ?_
  refine va_get (D := (dC, dI)) (ci := 4) (v := .ref aS) (C := RX6) (T := TX6) (N := 16) hx hb hts hiX6 hown hK hP 0 rfl rfl 1 (by decide) hf7 (fun _ h9 => h9) rfl dX6_walk_1 ?_
  refine lv_bipush (v := (nI 9)) hx hb dX6_walk_4 (by decide) ?_
  refine lv_aload_n hx hb dX6_walk_6 rfl (lv_at hl 0 rfl) ?_
  refine lv_iload_n hx hb dX6_walk_7 rfl (lv_at hl 1 rfl) ?_
  refine lv_iconst (v := (nI 2)) hx hb dX6_walk_8 (by decide) ?_
  refine vp_callSi (W.runV (As := [.int (nI r), .int (nI 2)]) (rest := [.int (nI 9), .ref aS]) ⟨hx, hb, hml, hown, hts⟩ (kX6_of l dC dI cI cV cW o th aS aA aV sm aB ln at_ wl aR rm ga fi se ex ha S r 2 (by omega) (by omega)) (cwV 2 hts gX6_walk_X6_of rfl rfl rfl hdX6_of ⟨Nat.le_of_ble_eq_true rfl, Nat.le_of_ble_eq_true rfl⟩) (pR_V hK hP 0 4 rfl rfl rfl [0, 1] rfl) rfl rfl hl.1 rfl (lv_room (Nat.le_of_ble_eq_true rfl)) dX6_walk_9 ⟨Nat.zero_le _, Nat.zero_le _⟩) (fun r_9 hr_ => ?_)
  subst hr_
  refine lv_cgi (show (gW S 2 r) = (nI (ix (gW S 2 r))) from (hR.2.2 r hr_0).2.1) ?_
  refine n_iadd hx hb dX6_walk_12 ?_
  refine n_iald hx hb hK hP 1 0 rfl rfl (show 9 + (ix (gW S 2 r)) < 96 from by omega) (by decide) dX6_walk_13 ?_
  refine lv_istore_n (lv' := [(2, .int (S (9 + (ix (gW S 2 r))))), (0, .ref o), (1, .int (nI r))]) hx hb dX6_walk_14 rfl hl (by decide) rfl (fun ls hl => ?_)
  refine lv_iconst (v := (nI 0)) hx hb dX6_walk_15 (by decide) ?_
  refine lv_istore_n (lv' := [(3, .int (nI 0)), (2, .int (S (9 + (ix (gW S 2 r))))), (0, .ref o), (1, .int (nI r))]) hx hb dX6_walk_16 rfl hl (by decide) rfl (fun ls hl => ?_)
  have el_i17_2 : (S (9 + (ix (gW S 2 r)))) = (sWl (gQ S) (ix (gW S 2 r)) (ix (gW S 1 r)) 0) := by rfl
  have hI0 : (fun (i : Nat) ls => (i ≤ 6) ∧ (i = 0 ∨ sMis (gW S 1) (gW S 2) r = true) ∧ (lv_has ls 5 [(0, .ref o), (1, .int (nI r)), (2, .int (sWl (gQ S) (ix (gW S 2 r)) (ix (gW S 1 r)) i)), (3, .int (nI i))])) 0 ls := ⟨by omega, Or.inl rfl, lv_cg (lv_sub hl [2, 3, 1, 0] rfl) (congrArg (fun z_ => ([(0, .ref o), (1, .int (nI r)), (2, .int z_), (3, .int (nI 0))] : List (Nat × Value))) el_i17_2)⟩
  clear hl
  revert ls
  refine lp_ls (fun (i : Nat) ls => (i ≤ 6) ∧ (i = 0 ∨ sMis (gW S 1) (gW S 2) r = true) ∧ (lv_has ls 5 [(0, .ref o), (1, .int (nI r)), (2, .int (sWl (gQ S) (ix (gW S 2 r)) (ix (gW S 1 r)) i)), (3, .int (nI i))])) (fun (i : Nat) => 6 - i) 0 (fun q_ ls hI ih17 => ?_)
  obtain ⟨i, rfl⟩ : ∃ z, z = q_ := ⟨_, rfl⟩
  obtain ⟨hi, hm, hl⟩ := hI
  refine lv_iload_n hx hb dX6_walk_17 rfl (lv_at hl 3 rfl) ?_
  refine lv_bipush (v := (nI 6)) hx hb dX6_walk_18 (by decide) ?_
  refine n_icmp_ge (tgt := 89) hx hb dX6_walk_20 (by decide) (by omega) (by omega) (fun c_20 => ?_) (fun c_20 => ?_)
  · refine lv_iload_n hx hb dX6_walk_89 rfl (lv_at hl 2 rfl) ?_
    exact W.iret (v := (sWl (gQ S) (ix (gW S 2 r)) (ix (gW S 1 r)) i)) hx hb hr (fun t ht hW => ⟨_, rfl, (show (sWl (gQ S) (ix (gW S 2 r)) (ix (gW S 1 r)) i) = (sWalk (gQ S) (gW S 1) (gW S 2) r) from by first | rfl | (first | exact hm.elim (fun h => absurd h (by omega)) (fun h => by rw [sWalk, if_pos h, show i = 6 by omega]) | exact hm.elim (fun h => by rw [sWalk, if_neg (by rw [c_28]; decide), h]; rfl) (fun h => by rw [c_28] at h; exact absurd h (by decide)))), ht⟩) (fun q hq => absurd hq List.not_mem_nil) dX6_walk_90
  · refine lv_aload_n hx hb dX6_walk_23 rfl (lv_at hl 0 rfl) ?_
    refine lv_iload_n hx hb dX6_walk_24 rfl (lv_at hl 1 rfl) ?_
    refine vp_callSi (W.runV (As := [.int (nI r)]) (rest := []) ⟨hx, hb, hml, hown, hts⟩ (kX6_isMisplaced l dC dI cI cV cW o th aS aA aV sm aB ln at_ wl aR rm ga fi se ex ha S r (by omega)) (cwV 1 hts gX6_walk_X6_isMisplaced rfl rfl rfl hdX6_isMisplaced ⟨Nat.le_of_ble_eq_true rfl, Nat.le_of_ble_eq_true rfl⟩) (pR_V hK hP 0 4 rfl rfl rfl [0, 1] rfl) rfl rfl hl.1 rfl (lv_room (Nat.le_of_ble_eq_true rfl)) dX6_walk_25 ⟨Nat.zero_le _, Nat.zero_le _⟩) (fun r_25 hr_ => ?_)
    subst hr_
    refine b_if_eq (tgt := 89) hx hb dX6_walk_28 (by decide) (fun c_28 => ?_) (fun c_28 => ?_)
    · refine lv_iload_n hx hb dX6_walk_89 rfl (lv_at hl 2 rfl) ?_
      exact W.iret (v := (sWl (gQ S) (ix (gW S 2 r)) (ix (gW S 1 r)) i)) hx hb hr (fun t ht hW => ⟨_, rfl, (show (sWl (gQ S) (ix (gW S 2 r)) (ix (gW S 1 r)) i) = (sWalk (gQ S) (gW S 1) (gW S 2) r) from by first | rfl | (first | exact hm.elim (fun h => absurd h (by omega)) (fun h => by rw [sWalk, if_pos h, show i = 6 by omega]) | exact hm.elim (fun h => by rw [sWalk, if_neg (by rw [c_28]; decide), h]; rfl) (fun h => by rw [c_28] at h; exact absurd h (by decide)))), ht⟩) (fun q hq => absurd hq List.not_mem_nil) dX6_walk_90
    · refine lv_iload_n hx hb dX6_walk_31 rfl (lv_at hl 3 rfl) ?_
      refine lv_aload_n hx hb dX6_walk_32 rfl (lv_at hl 0 rfl) ?_
      refine lv_iload_n hx hb dX6_walk_33 rfl (lv_at hl 1 rfl) ?_
      refine lv_iconst (v := (nI 2)) hx hb dX6_walk_34 (by decide) ?_
      refine vp_callSi (W.runV (As := [.int (nI r), .int (nI 2)]) (rest := [.int (nI i)]) ⟨hx, hb, hml, hown, hts⟩ (kX6_of l dC dI cI cV cW o th aS aA aV sm aB ln at_ wl aR rm ga fi se ex ha S r 2 (by omega) (by omega)) (cwV 2 hts gX6_walk_X6_of rfl rfl rfl hdX6_of ⟨Nat.le_of_ble_eq_true rfl, Nat.le_of_ble_eq_true rfl⟩) (pR_V hK hP 0 4 rfl rfl rfl [0, 1] rfl) rfl rfl hl.1 rfl (lv_room (Nat.le_of_ble_eq_true rfl)) dX6_walk_35 ⟨Nat.zero_le _, Nat.zero_le _⟩) (fun r_35 hr_ => ?_)
      subst hr_
      refine lv_cgi (show (gW S 2 r) = (nI (ix (gW S 2 r))) from (hR.2.2 r hr_0).2.1) ?_
      refine n_icmp_eq (tgt := 59) hx hb dX6_walk_38 (by decide) (by omega) (by omega) (fun c_38 => ?_) (fun c_38 => ?_)
      · refine lv_iconst (v := (nI 0)) hx hb dX6_walk_59 (by decide) ?_
        refine lv_istore (lv' := [(4, .int (nI 0)), (0, .ref o), (1, .int (nI r)), (2, .int (sWl (gQ S) (ix (gW S 2 r)) (ix (gW S 1 r)) i)), (3, .int (nI i))]) hx hb dX6_walk_60 hl (by decide) rfl (fun ls hl => ?_)
        refine lv_iload_n hx hb dX6_walk_62 rfl (lv_at hl 3 rfl) ?_
        refine lv_iload hx hb dX6_walk_63 (lv_at hl 0 rfl) ?_
        refine n_if_eq (tgt := 80) hx hb dX6_walk_65 (by decide) (by omega) (fun c_65 => ?_) (fun c_65 => absurd c_65 (by decide))
        refine lv_iconst (v := (nI 0)) hx hb dX6_walk_80 (by decide) ?_
        refine lv_iadd hx hb dX6_walk_81 ?_
        refine lv_istore_n (lv' := [(2, .int ((sWl (gQ S) (ix (gW S 2 r)) (ix (gW S 1 r)) i) + 0)), (4, .int (nI 0)), (0, .ref o), (1, .int (nI r)), (3, .int (nI i))]) hx hb dX6_walk_82 rfl hl (by decide) rfl (fun ls hl => ?_)
        refine lv_iinc (v := (nI (i + 1))) (lv' := [(3, .int (nI (i + 1))), (2, .int ((sWl (gQ S) (ix (gW S 2 r)) (ix (gW S 1 r)) i) + 0)), (4, .int (nI 0)), (0, .ref o), (1, .int (nI r))]) hx hb dX6_walk_83 hl (k := 4) rfl (n_inc _ 1) (by decide) rfl (fun ls hl => ?_)
        refine lv_goto (tgt := 17) hx hb dX6_walk_86 (by decide) ?_
        have el_b17_3_2 : ((sWl (gQ S) (ix (gW S 2 r)) (ix (gW S 1 r)) i) + 0) = (sWl (gQ S) (ix (gW S 2 r)) (ix (gW S 1 r)) (i + 1)) := by first | rfl | (simp [sWl, gQ, c_20, Nat.not_le.mpr c_20, c_28, c_38, c_65]; done)
        exact ih17 (i + 1) ls ⟨by omega, Or.inr c_28, lv_cg (lv_sub hl [3, 4, 1, 0] rfl) (congrArg (fun z_ => ([(0, .ref o), (1, .int (nI r)), (2, .int z_), (3, .int (nI (i + 1)))] : List (Nat × Value))) el_b17_3_2)⟩ (by first | omega | (dsimp only; omega))
      · refine lv_aload_n hx hb dX6_walk_41 rfl (lv_at hl 0 rfl) ?_
        refine lv_aload_n hx hb dX6_walk_42 rfl (lv_at hl 0 rfl) ?_
        refine lv_iload_n hx hb dX6_walk_43 rfl (lv_at hl 1 rfl) ?_
        refine lv_iconst (v := (nI 1)) hx hb dX6_walk_44 (by decide) ?_
        refine vp_callSi (W.runV (As := [.int (nI r), .int (nI 1)]) (rest := [.ref o]) ⟨hx, hb, hml, hown, hts⟩ (kX6_of l dC dI cI cV cW o th aS aA aV sm aB ln at_ wl aR rm ga fi se ex ha S r 1 (by omega) (by omega)) (cwV 2 hts gX6_walk_X6_of rfl rfl rfl hdX6_of ⟨Nat.le_of_ble_eq_true rfl, Nat.le_of_ble_eq_true rfl⟩) (pR_V hK hP 0 4 rfl rfl rfl [0, 1] rfl) rfl rfl hl.1 rfl (lv_room (Nat.le_of_ble_eq_true rfl)) dX6_walk_45 ⟨Nat.zero_le _, Nat.zero_le _⟩) (fun r_45 hr_ => ?_)
        subst hr_
        refine lv_cgi (show (gW S 1 r) = (nI (ix (gW S 1 r))) from (hR.2.2 r hr_0).1.1) ?_
        refine lv_iload_n hx hb dX6_walk_48 rfl (lv_at hl 3 rfl) ?_
        refine vp_callSi (W.runV (As := [.int (nI (ix (gW S 1 r))), .int (nI i)]) (rest := []) ⟨hx, hb, hml, hown, hts⟩ (kX6_isNearer l dC dI cI cV cW o th aS aA aV sm aB ln at_ wl aR rm ga fi se ex ha S (ix (gW S 1 r)) i (by omega) (by omega)) (cwV 2 hts gX6_walk_X6_isNearer rfl rfl rfl hdX6_isNearer ⟨Nat.le_of_ble_eq_true rfl, Nat.le_of_ble_eq_true rfl⟩) (pR_V hK hP 0 4 rfl rfl rfl [0, 1] rfl) rfl rfl hl.1 rfl (lv_room (Nat.le_of_ble_eq_true rfl)) dX6_walk_49 ⟨Nat.zero_le _, Nat.zero_le _⟩) (fun r_49 hr_ => ?_)
        subst hr_
        refine b_if_ne (tgt := 59) hx hb dX6_walk_52 (by decide) (fun c_52 => ?_) (fun c_52 => ?_)
        · refine lv_iconst (v := (nI 0)) hx hb dX6_walk_59 (by decide) ?_
          refine lv_istore (lv' := [(4, .int (nI 0)), (0, .ref o), (1, .int (nI r)), (2, .int (sWl (gQ S) (ix (gW S 2 r)) (ix (gW S 1 r)) i)), (3, .int (nI i))]) hx hb dX6_walk_60 hl (by decide) rfl (fun ls hl => ?_)
          refine lv_iload_n hx hb dX6_walk_62 rfl (lv_at hl 3 rfl) ?_
          refine lv_iload hx hb dX6_walk_63 (lv_at hl 0 rfl) ?_
          refine n_if_eq (tgt := 80) hx hb dX6_walk_65 (by decide) (by omega) (fun c_65 => ?_) (fun c_65 => absurd c_65 (by decide))
          refine lv_iconst (v := (nI 0)) hx hb dX6_walk_80 (by decide) ?_
          refine lv_iadd hx hb dX6_walk_81 ?_
          refine lv_istore_n (lv' := [(2, .int ((sWl (gQ S) (ix (gW S 2 r)) (ix (gW S 1 r)) i) + 0)), (4, .int (nI 0)), (0, .ref o), (1, .int (nI r)), (3, .int (nI i))]) hx hb dX6_walk_82 rfl hl (by decide) rfl (fun ls hl => ?_)
          refine lv_iinc (v := (nI (i + 1))) (lv' := [(3, .int (nI (i + 1))), (2, .int ((sWl (gQ S) (ix (gW S 2 r)) (ix (gW S 1 r)) i) + 0)), (4, .int (nI 0)), (0, .ref o), (1, .int (nI r))]) hx hb dX6_walk_83 hl (k := 4) rfl (n_inc _ 1) (by decide) rfl (fun ls hl => ?_)
          refine lv_goto (tgt := 17) hx hb dX6_walk_86 (by decide) ?_
          have el_b17_4_2 : ((sWl (gQ S) (ix (gW S 2 r)) (ix (gW S 1 r)) i) + 0) = (sWl (gQ S) (ix (gW S 2 r)) (ix (gW S 1 r)) (i + 1)) := by first | rfl | (simp [sWl, gQ, c_20, Nat.not_le.mpr c_20, c_28, c_38, c_52, c_65]; done)
          exact ih17 (i + 1) ls ⟨by omega, Or.inr c_28, lv_cg (lv_sub hl [3, 4, 1, 0] rfl) (congrArg (fun z_ => ([(0, .ref o), (1, .int (nI r)), (2, .int z_), (3, .int (nI (i + 1)))] : List (Nat × Value))) el_b17_4_2)⟩ (by first | omega | (dsimp only; omega))
        · refine lv_iconst (v := (nI 1)) hx hb dX6_walk_55 (by decide) ?_
          refine lv_goto (tgt := 60) hx hb dX6_walk_56 (by decide) ?_
          refine lv_istore (lv' := [(4, .int (nI 1)), (0, .ref o), (1, .int (nI r)), (2, .int (sWl (gQ S) (ix (gW S 2 r)) (ix (gW S 1 r)) i)), (3, .int (nI i))]) hx hb dX6_walk_60 hl (by decide) rfl (fun ls hl => ?_)
          refine lv_iload_n hx hb dX6_walk_62 rfl (lv_at hl 3 rfl) ?_
          refine lv_iload hx hb dX6_walk_63 (lv_at hl 0 rfl) ?_
          refine n_if_eq (tgt := 80) hx hb dX6_walk_65 (by decide) (by omega) (fun c_65 => absurd c_65 (by decide)) (fun c_65 => ?_)
          refine lv_aload_n hx hb dX6_walk_68 rfl (lv_at hl 1 rfl) ?_
          refine va_get (D := (dC, dI)) (ci := 4) (v := .ref aS) (C := RX6) (T := TX6) (N := 16) hx hb hts hiX6 hown hK hP 0 rfl rfl 1 (by decide) hf7 (fun _ h9 => h9) rfl dX6_walk_69 ?_
          refine lv_bipush (v := (nI 9)) hx hb dX6_walk_72 (by decide) ?_
          refine lv_iload_n hx hb dX6_walk_74 rfl (lv_at hl 4 rfl) ?_
          refine n_iadd hx hb dX6_walk_75 ?_
          refine n_iald hx hb hK hP 1 0 rfl rfl (show 9 + i < 96 from by omega) (by decide) dX6_walk_76 ?_
          refine lv_goto (tgt := 81) hx hb dX6_walk_77 (by decide) ?_
          refine lv_iadd hx hb dX6_walk_81 ?_
          refine lv_istore_n (lv' := [(2, .int ((sWl (gQ S) (ix (gW S 2 r)) (ix (gW S 1 r)) i) + (S (9 + i)))), (4, .int (nI 1)), (0, .ref o), (1, .int (nI r)), (3, .int (nI i))]) hx hb dX6_walk_82 rfl hl (by decide) rfl (fun ls hl => ?_)
          refine lv_iinc (v := (nI (i + 1))) (lv' := [(3, .int (nI (i + 1))), (2, .int ((sWl (gQ S) (ix (gW S 2 r)) (ix (gW S 1 r)) i) + (S (9 + i)))), (4, .int (nI 1)), (0, .ref o), (1, .int (nI r))]) hx hb dX6_walk_83 hl (k := 4) rfl (n_inc _ 1) (by decide) rfl (fun ls hl => ?_)
          refine lv_goto (tgt := 17) hx hb dX6_walk_86 (by decide) ?_
          have el_b17_5_2 : ((sWl (gQ S) (ix (gW S 2 r)) (ix (gW S 1 r)) i) + (S (9 + i))) = (sWl (gQ S) (ix (gW S 2 r)) (ix (gW S 1 r)) (i + 1)) := by first | rfl | (simp [sWl, gQ, c_20, Nat.not_le.mpr c_20, c_28, c_38, c_52, c_65]; done)
          exact ih17 (i + 1) ls ⟨by omega, Or.inr c_28, lv_cg (lv_sub hl [3, 4, 1, 0] rfl) (congrArg (fun z_ => ([(0, .ref o), (1, .int (nI r)), (2, .int z_), (3, .int (nI (i + 1)))] : List (Nat × Value))) el_b17_5_2)⟩ (by first | omega | (dsimp only; omega))
set_option maxHeartbeats 4000000 in
set_option maxRecDepth 100000 in
theorem kX6_misplacedMany (l : Launch) (dC : Nat → ClassId) (dI : Nat → Nat → Nat) (cI cV cW : ClassId) (o : Nat) (th : Int32) (aS : Nat) (aA : Nat) (aV : Nat) (sm : Int32) (aB : Nat) (ln : Int32) (at_ : Int32) (wl : Int32) (aR : Nat) (rm : Int32) (ga : Int32) (fi : Int32) (se : Int32) (ex : Int32) (ha : Int64) (S : Nat → Int32) (cn : Nat) (hR : RO S cn) : Met l yX6_misplacedMany wsX6_misplacedMany ({ frames := 2, cells := 0, slots := 0, locals := 43 }) (pR (dC, dI) (tyS cI cV cW) [.ref o] [(o, .inr (4, [.int th, .ref aS, .ref aA, .ref aV, .int sm, .ref aB, .int ln, .int at_, .int wl, .ref aR, .int rm, .int ga, .int fi, .int se, .int ex, .long ha])), (aS, .inl (cI, 96, .inl S))]) (vp_Si (fun r_ => r_ = (sMm (gW S 1) (gW S 2) cn))) 0 0 (fun _ => False) := by
  refine Met.ofW (cc := cX6_misplacedMany) (maxL := 3) (ret := (some .int)) (by decide) rfl ?_
  intro p e s m args below meth c s₁ B hml hv
  obtain ⟨rfl, hP, hK⟩ := hv
  have hx := B.exec
  have hb := B.bytes
  have hr := B.returns
  have hts := atoms_spec (ws := wsX6_misplacedMany) B.pre
  have hown : s.vm.findClass RX6 = some m.cls := findClass_of_methodNamed B.named
  have hlocks := B.notSynchronized
  have hf7 := hts (.fieldLink RX6 7 "VaultShelvesModel" "s" "[I") (by decide +kernel)
  have hiX6 : ∀ w ∈ u_ws RX6 TX6 16, w ∈ wsX6_misplacedMany := by decide +kernel
  have hl := lv_entry ([.ref o]) (n := 3) (Nat.le_of_ble_eq_true rfl)
  rw [lg_entry_eq]
  generalize (lg_sl ([.ref o]) ++ List.replicate (3 - (lg_sl ([.ref o])).length) Slot.unset).toArray = ls at hl ⊢
  replace hl : lv_has ls 3 [(0, .ref o)] := hl
  have hc := hR.2.1
  refine lv_iconst (v := (nI 0)) hx hb dX6_misplacedMany_0 (by decide) ?_
  refine lv_istore_n (lv' := [(1, .int (nI 0)), (0, .ref o)]) hx hb dX6_misplacedMany_1 rfl hl (by decide) rfl (fun ls hl => ?_)
  refine lv_iconst (v := (nI 0)) hx hb dX6_misplacedMany_2 (by decide) ?_
  refine lv_istore_n (lv' := [(2, .int (nI 0)), (1, .int (nI 0)), (0, .ref o)]) hx hb dX6_misplacedMany_3 rfl hl (by decide) rfl (fun ls hl => ?_)
  have el_i4_1 : (nI 0) = (sMm (gW S 1) (gW S 2) 0) := by rfl
  have hI0 : (fun (i : Nat) ls => (i ≤ cn) ∧ (lv_has ls 3 [(0, .ref o), (1, .int (sMm (gW S 1) (gW S 2) i)), (2, .int (nI i))])) 0 ls := ⟨by omega, lv_cg (lv_sub hl [2, 1, 0] rfl) (congrArg (fun z_ => ([(0, .ref o), (1, .int z_), (2, .int (nI 0))] : List (Nat × Value))) el_i4_1)⟩
  clear hl
  revert ls
  refine lp_ls (fun (i : Nat) ls => (i ≤ cn) ∧ (lv_has ls 3 [(0, .ref o), (1, .int (sMm (gW S 1) (gW S 2) i)), (2, .int (nI i))])) (fun (i : Nat) => cn - i) 0 (fun q_ ls hI ih4 => ?_)
  obtain ⟨i, rfl⟩ : ∃ z, z = q_ := ⟨_, rfl⟩
  obtain ⟨hi, hl⟩ := hI
  refine lv_iload_n hx hb dX6_misplacedMany_4 rfl (lv_at hl 2 rfl) ?_
  refine lv_aload_n hx hb dX6_misplacedMany_5 rfl (lv_at hl 0 rfl) ?_
  refine va_get (D := (dC, dI)) (ci := 4) (v := .ref aS) (C := RX6) (T := TX6) (N := 16) hx hb hts hiX6 hown hK hP 0 rfl rfl 1 (by decide) hf7 (fun _ h9 => h9) rfl dX6_misplacedMany_6 ?_
  refine lv_iconst (v := (nI 0)) hx hb dX6_misplacedMany_9 (by decide) ?_
  refine n_iald hx hb hK hP 1 0 rfl rfl (show 0 < 96 from by omega) (by decide) dX6_misplacedMany_10 ?_
  refine lv_cgi (show (S 0) = (nI cn) from hR.1) ?_
  refine n_icmp_ge (tgt := 36) hx hb dX6_misplacedMany_11 (by decide) (by omega) (by omega) (fun c_11 => ?_) (fun c_11 => ?_)
  · obtain rfl : cn = i := by omega
    refine lv_iload_n hx hb dX6_misplacedMany_36 rfl (lv_at hl 1 rfl) ?_
    exact W.iret (v := (sMm (gW S 1) (gW S 2) cn)) hx hb hr (fun t ht hW => ⟨_, rfl, rfl, ht⟩) (fun q hq => absurd hq List.not_mem_nil) dX6_misplacedMany_37
  · refine lv_iload_n hx hb dX6_misplacedMany_14 rfl (lv_at hl 1 rfl) ?_
    refine lv_aload_n hx hb dX6_misplacedMany_15 rfl (lv_at hl 0 rfl) ?_
    refine lv_iload_n hx hb dX6_misplacedMany_16 rfl (lv_at hl 2 rfl) ?_
    refine vp_callSi (W.runV (As := [.int (nI i)]) (rest := [.int (sMm (gW S 1) (gW S 2) i)]) ⟨hx, hb, hml, hown, hts⟩ (kX6_isMisplaced l dC dI cI cV cW o th aS aA aV sm aB ln at_ wl aR rm ga fi se ex ha S i (by omega)) (cwV 1 hts gX6_misplacedMany_X6_isMisplaced rfl rfl rfl hdX6_isMisplaced ⟨Nat.le_of_ble_eq_true rfl, Nat.le_of_ble_eq_true rfl⟩) (pR_V hK hP 0 4 rfl rfl rfl [0, 1] rfl) rfl rfl hl.1 rfl (lv_room (Nat.le_of_ble_eq_true rfl)) dX6_misplacedMany_17 ⟨Nat.zero_le _, Nat.zero_le _⟩) (fun r_17 hr_ => ?_)
    subst hr_
    refine b_if_eq (tgt := 27) hx hb dX6_misplacedMany_20 (by decide) (fun c_20 => ?_) (fun c_20 => ?_)
    · refine lv_iconst (v := (nI 0)) hx hb dX6_misplacedMany_27 (by decide) ?_
      refine lv_iadd hx hb dX6_misplacedMany_28 ?_
      refine lv_istore_n (lv' := [(1, .int ((sMm (gW S 1) (gW S 2) i) + 0)), (0, .ref o), (2, .int (nI i))]) hx hb dX6_misplacedMany_29 rfl hl (by decide) rfl (fun ls hl => ?_)
      refine lv_iinc (v := (nI (i + 1))) (lv' := [(2, .int (nI (i + 1))), (1, .int ((sMm (gW S 1) (gW S 2) i) + 0)), (0, .ref o)]) hx hb dX6_misplacedMany_30 hl (k := 2) rfl (n_inc _ 1) (by decide) rfl (fun ls hl => ?_)
      refine lv_goto (tgt := 4) hx hb dX6_misplacedMany_33 (by decide) ?_
      have el_b4_2_1 : ((sMm (gW S 1) (gW S 2) i) + 0) = (sMm (gW S 1) (gW S 2) (i + 1)) := by first | rfl | (simp [sMm, c_20])
      exact ih4 (i + 1) ls ⟨by omega, lv_cg (lv_sub hl [2, 1, 0] rfl) (congrArg (fun z_ => ([(0, .ref o), (1, .int z_), (2, .int (nI (i + 1)))] : List (Nat × Value))) el_b4_2_1)⟩ (by first | omega | (dsimp only; omega))
    · refine lv_iconst (v := (nI 1)) hx hb dX6_misplacedMany_23 (by decide) ?_
      refine lv_goto (tgt := 28) hx hb dX6_misplacedMany_24 (by decide) ?_
      refine lv_iadd hx hb dX6_misplacedMany_28 ?_
      refine lv_istore_n (lv' := [(1, .int ((sMm (gW S 1) (gW S 2) i) + 1)), (0, .ref o), (2, .int (nI i))]) hx hb dX6_misplacedMany_29 rfl hl (by decide) rfl (fun ls hl => ?_)
      refine lv_iinc (v := (nI (i + 1))) (lv' := [(2, .int (nI (i + 1))), (1, .int ((sMm (gW S 1) (gW S 2) i) + 1)), (0, .ref o)]) hx hb dX6_misplacedMany_30 hl (k := 2) rfl (n_inc _ 1) (by decide) rfl (fun ls hl => ?_)
      refine lv_goto (tgt := 4) hx hb dX6_misplacedMany_33 (by decide) ?_
      have el_b4_3_1 : ((sMm (gW S 1) (gW S 2) i) + 1) = (sMm (gW S 1) (gW S 2) (i + 1)) := by first | rfl | (simp [sMm, c_20])
      exact ih4 (i + 1) ls ⟨by omega, lv_cg (lv_sub hl [2, 1, 0] rfl) (congrArg (fun z_ => ([(0, .ref o), (1, .int z_), (2, .int (nI (i + 1)))] : List (Nat × Value))) el_b4_3_1)⟩ (by first | omega | (dsimp only; omega))
set_option maxHeartbeats 4000000 in
set_option maxRecDepth 100000 in
theorem kX6_gainOfMove (l : Launch) (dC : Nat → ClassId) (dI : Nat → Nat → Nat) (cI cV cW : ClassId) (o : Nat) (th : Int32) (aS : Nat) (aA : Nat) (aV : Nat) (sm : Int32) (aB : Nat) (ln : Int32) (at_ : Int32) (wl : Int32) (aR : Nat) (rm : Int32) (ga : Int32) (fi : Int32) (se : Int32) (ex : Int32) (ha : Int64) (S : Nat → Int32) (cn : Nat) (r : Nat) (k : Nat) (hR : RO S cn) (hr_0 : r < cn) (hk : k < 6) : Met l yX6_gainOfMove wsX6_gainOfMove ({ frames := 2, cells := 0, slots := 0, locals := 43 }) (pR (dC, dI) (tyS cI cV cW) [.ref o, .int (nI r), .int (nI k)] [(o, .inr (4, [.int th, .ref aS, .ref aA, .ref aV, .int sm, .ref aB, .int ln, .int at_, .int wl, .ref aR, .int rm, .int ga, .int fi, .int se, .int ex, .long ha])), (aS, .inl (cI, 96, .inl S))]) (vp_Si (fun r_ => r_ = (sGm S r k))) 0 0 (fun _ => False) := by
  refine Met.ofW (cc := cX6_gainOfMove) (maxL := 3) (ret := (some .int)) (by decide) rfl ?_
  intro p e s m args below meth c s₁ B hml hv
  obtain ⟨rfl, hP, hK⟩ := hv
  have hx := B.exec
  have hb := B.bytes
  have hr := B.returns
  have hts := atoms_spec (ws := wsX6_gainOfMove) B.pre
  have hown : s.vm.findClass RX6 = some m.cls := findClass_of_methodNamed B.named
  have hlocks := B.notSynchronized
  have hf7 := hts (.fieldLink RX6 7 "VaultShelvesModel" "s" "[I") (by decide +kernel)
  have hiX6 : ∀ w ∈ u_ws RX6 TX6 16, w ∈ wsX6_gainOfMove := by decide +kernel
  have hl := lv_entry ([.ref o, .int (nI r), .int (nI k)]) (n := 3) (Nat.le_of_ble_eq_true rfl)
  rw [lg_entry_eq]
  generalize (lg_sl ([.ref o, .int (nI r), .int (nI k)]) ++ List.replicate (3 - (lg_sl ([.ref o, .int (nI r), .int (nI k)])).length) Slot.unset).toArray = ls at hl ⊢
  replace hl : lv_has ls 3 [(0, .ref o), (1, .int (nI r)), (2, .int (nI k))] := hl
  have hc := hR.2.1
  have hj := (hR.2.2 r hr_0).2.2
  have hp := (hR.2.2 r hr_0).1.2
  refine lv_aload_n hx hb dX6_gainOfMove_0 rfl (lv_at hl 0 rfl) ?_
  refine lv_iload_n hx hb dX6_gainOfMove_1 rfl (lv_at hl 1 rfl) ?_
  refine vp_callSi (W.runV (As := [.int (nI r)]) (rest := []) ⟨hx, hb, hml, hown, hts⟩ (kX6_heft l dC dI cI cV cW o th aS aA aV sm aB ln at_ wl aR rm ga fi se ex ha S r (by omega)) (cwV 1 hts gX6_gainOfMove_X6_heft rfl rfl rfl hdX6_heft ⟨Nat.le_of_ble_eq_true rfl, Nat.le_of_ble_eq_true rfl⟩) (pR_V hK hP 0 4 rfl rfl rfl [0, 1] rfl) rfl rfl hl.1 rfl (lv_room (Nat.le_of_ble_eq_true rfl)) dX6_gainOfMove_2 ⟨Nat.zero_le _, Nat.zero_le _⟩) (fun r_2 hr_ => ?_)
  subst hr_
  refine lv_aload_n hx hb dX6_gainOfMove_5 rfl (lv_at hl 0 rfl) ?_
  refine va_get (D := (dC, dI)) (ci := 4) (v := .ref aS) (C := RX6) (T := TX6) (N := 16) hx hb hts hiX6 hown hK hP 0 rfl rfl 1 (by decide) hf7 (fun _ h9 => h9) rfl dX6_gainOfMove_6 ?_
  refine lv_bipush (v := (nI 9)) hx hb dX6_gainOfMove_9 (by decide) ?_
  refine lv_aload_n hx hb dX6_gainOfMove_11 rfl (lv_at hl 0 rfl) ?_
  refine lv_iload_n hx hb dX6_gainOfMove_12 rfl (lv_at hl 1 rfl) ?_
  refine lv_iconst (v := (nI 1)) hx hb dX6_gainOfMove_13 (by decide) ?_
  refine vp_callSi (W.runV (As := [.int (nI r), .int (nI 1)]) (rest := [.int (nI 9), .ref aS, .int (sHf (gW S 3) (gW S 4) r)]) ⟨hx, hb, hml, hown, hts⟩ (kX6_of l dC dI cI cV cW o th aS aA aV sm aB ln at_ wl aR rm ga fi se ex ha S r 1 (by omega) (by omega)) (cwV 2 hts gX6_gainOfMove_X6_of rfl rfl rfl hdX6_of ⟨Nat.le_of_ble_eq_true rfl, Nat.le_of_ble_eq_true rfl⟩) (pR_V hK hP 0 4 rfl rfl rfl [0, 1] rfl) rfl rfl hl.1 rfl (lv_room (Nat.le_of_ble_eq_true rfl)) dX6_gainOfMove_14 ⟨Nat.zero_le _, Nat.zero_le _⟩) (fun r_14 hr_ => ?_)
  subst hr_
  refine lv_cgi (show (gW S 1 r) = (nI (ix (gW S 1 r))) from (hR.2.2 r hr_0).1.1) ?_
  refine n_iadd hx hb dX6_gainOfMove_17 ?_
  refine n_iald hx hb hK hP 1 0 rfl rfl (show 9 + (ix (gW S 1 r)) < 96 from by omega) (by decide) dX6_gainOfMove_18 ?_
  refine lv_aload_n hx hb dX6_gainOfMove_19 rfl (lv_at hl 0 rfl) ?_
  refine va_get (D := (dC, dI)) (ci := 4) (v := .ref aS) (C := RX6) (T := TX6) (N := 16) hx hb hts hiX6 hown hK hP 0 rfl rfl 1 (by decide) hf7 (fun _ h9 => h9) rfl dX6_gainOfMove_20 ?_
  refine lv_bipush (v := (nI 9)) hx hb dX6_gainOfMove_23 (by decide) ?_
  refine lv_iload_n hx hb dX6_gainOfMove_25 rfl (lv_at hl 2 rfl) ?_
  refine n_iadd hx hb dX6_gainOfMove_26 ?_
  refine n_iald hx hb hK hP 1 0 rfl rfl (show 9 + k < 96 from by omega) (by decide) dX6_gainOfMove_27 ?_
  refine lv_isub hx hb dX6_gainOfMove_28 ?_
  refine lv_imul hx hb dX6_gainOfMove_29 ?_
  exact W.iret (v := ((sHf (gW S 3) (gW S 4) r) * ((S (9 + (ix (gW S 1 r)))) - (S (9 + k))))) hx hb hr (fun t ht hW => ⟨_, rfl, (show ((sHf (gW S 3) (gW S 4) r) * ((S (9 + (ix (gW S 1 r)))) - (S (9 + k)))) = (sGm S r k) from by rfl), ht⟩) (fun q hq => absurd hq List.not_mem_nil) dX6_gainOfMove_30
theorem hdX6_room : yX6_room.cls = RX6 ∧ yX6_room.cls ≠ "java/lang/invoke/MethodHandle" ∧ yX6_room.cls ≠ "java/lang/invoke/VarHandle" ∧ (parseMethodDescriptor yX6_room.desc).map (fun d => d.parameters.length) = some 1 := by decide +kernel
set_option maxHeartbeats 4000000 in
set_option maxRecDepth 100000 in
theorem kX6_canMove (l : Launch) (dC : Nat → ClassId) (dI : Nat → Nat → Nat) (cI cV cW : ClassId) (o : Nat) (th : Int32) (aS : Nat) (aA : Nat) (aV : Nat) (sm : Int32) (aB : Nat) (ln : Int32) (at_ : Int32) (wl : Int32) (aR : Nat) (rm : Int32) (ga : Int32) (fi : Int32) (se : Int32) (ex : Int32) (ha : Int64) (S : Nat → Int32) (cn : Nat) (r : Nat) (k : Nat) (hR : RO S cn) (hr_0 : r < cn) (hk : k < 6) : Met l yX6_canMove wsX6_canMove ({ frames := 3, cells := 0, slots := 0, locals := 66 }) (pR (dC, dI) (tyS cI cV cW) [.ref o, .int (nI r), .int (nI k)] [(o, .inr (4, [.int th, .ref aS, .ref aA, .ref aV, .int sm, .ref aB, .int ln, .int at_, .int wl, .ref aR, .int rm, .int ga, .int fi, .int se, .int ex, .long ha])), (aS, .inl (cI, 96, .inl S))]) (vp_Si (fun r_ => r_ = (bI (sCm S cn r k)))) 0 0 (fun _ => False) := by
  refine Met.ofW (cc := cX6_canMove) (maxL := 3) (ret := (some .boolean)) (by decide) rfl ?_
  intro p e s m args below meth c s₁ B hml hv
  obtain ⟨rfl, hP, hK⟩ := hv
  have hx := B.exec
  have hb := B.bytes
  have hr := B.returns
  have hts := atoms_spec (ws := wsX6_canMove) B.pre
  have hown : s.vm.findClass RX6 = some m.cls := findClass_of_methodNamed B.named
  have hlocks := B.notSynchronized
  have hiX6 : ∀ w ∈ u_ws RX6 TX6 16, w ∈ wsX6_canMove := by decide +kernel
  have hl := lv_entry ([.ref o, .int (nI r), .int (nI k)]) (n := 3) (Nat.le_of_ble_eq_true rfl)
  rw [lg_entry_eq]
  generalize (lg_sl ([.ref o, .int (nI r), .int (nI k)]) ++ List.replicate (3 - (lg_sl ([.ref o, .int (nI r), .int (nI k)])).length) Slot.unset).toArray = ls at hl ⊢
  replace hl : lv_has ls 3 [(0, .ref o), (1, .int (nI r)), (2, .int (nI k))] := hl
  have hc := hR.2.1
  have hj := (hR.2.2 r hr_0).2.2
  have hp := (hR.2.2 r hr_0).1.2
  refine lv_aload_n hx hb dX6_canMove_0 rfl (lv_at hl 0 rfl) ?_
  refine lv_iload_n hx hb dX6_canMove_1 rfl (lv_at hl 1 rfl) ?_
  refine vp_callSi (W.runV (As := [.int (nI r)]) (rest := []) ⟨hx, hb, hml, hown, hts⟩ (kX6_isMisplaced l dC dI cI cV cW o th aS aA aV sm aB ln at_ wl aR rm ga fi se ex ha S r (by omega)) (cwV 1 hts gX6_canMove_X6_isMisplaced rfl rfl rfl hdX6_isMisplaced ⟨Nat.le_of_ble_eq_true rfl, Nat.le_of_ble_eq_true rfl⟩) (pR_V hK hP 0 4 rfl rfl rfl [0, 1] rfl) rfl rfl hl.1 rfl (lv_room (Nat.le_of_ble_eq_true rfl)) dX6_canMove_2 ⟨Nat.zero_le _, Nat.zero_le _⟩) (fun r_2 hr_ => ?_)
  subst hr_
  refine b_if_ne (tgt := 36) hx hb dX6_canMove_5 (by decide) (fun c_5 => ?_) (fun c_5 => ?_)
  · refine lv_iconst (v := (nI 0)) hx hb dX6_canMove_36 (by decide) ?_
    exact W.zret (v := (bI false)) hx hb hr (nar_bI _) (fun t ht hW => ⟨_, rfl, (congrArg bI (show false = sCm S cn r k from by first | rfl | (simp [sCm, c_5]; done))), ht⟩) (fun q hq => absurd hq List.not_mem_nil) dX6_canMove_37
  · refine lv_aload_n hx hb dX6_canMove_8 rfl (lv_at hl 0 rfl) ?_
    refine lv_iload_n hx hb dX6_canMove_9 rfl (lv_at hl 1 rfl) ?_
    refine lv_iconst (v := (nI 1)) hx hb dX6_canMove_10 (by decide) ?_
    refine vp_callSi (W.runV (As := [.int (nI r), .int (nI 1)]) (rest := []) ⟨hx, hb, hml, hown, hts⟩ (kX6_of l dC dI cI cV cW o th aS aA aV sm aB ln at_ wl aR rm ga fi se ex ha S r 1 (by omega) (by omega)) (cwV 2 hts gX6_canMove_X6_of rfl rfl rfl hdX6_of ⟨Nat.le_of_ble_eq_true rfl, Nat.le_of_ble_eq_true rfl⟩) (pR_V hK hP 0 4 rfl rfl rfl [0, 1] rfl) rfl rfl hl.1 rfl (lv_room (Nat.le_of_ble_eq_true rfl)) dX6_canMove_11 ⟨Nat.zero_le _, Nat.zero_le _⟩) (fun r_11 hr_ => ?_)
    subst hr_
    refine lv_iload_n hx hb dX6_canMove_14 rfl (lv_at hl 2 rfl) ?_
    refine lv_icmp_eq (tgt := 36) hx hb dX6_canMove_15 (by decide) (fun c_15 => ?_) (fun c_15 => ?_)
    · refine lv_iconst (v := (nI 0)) hx hb dX6_canMove_36 (by decide) ?_
      exact W.zret (v := (bI false)) hx hb hr (nar_bI _) (fun t ht hW => ⟨_, rfl, (congrArg bI (show false = sCm S cn r k from by first | rfl | (simp [sCm, c_5, c_15]; done))), ht⟩) (fun q hq => absurd hq List.not_mem_nil) dX6_canMove_37
    · refine lv_aload_n hx hb dX6_canMove_18 rfl (lv_at hl 0 rfl) ?_
      refine lv_iload_n hx hb dX6_canMove_19 rfl (lv_at hl 2 rfl) ?_
      refine vp_callSi (W.runV (As := [.int (nI k)]) (rest := []) ⟨hx, hb, hml, hown, hts⟩ (kX6_room l dC dI cI cV cW o th aS aA aV sm aB ln at_ wl aR rm ga fi se ex ha S cn k (hR) (hk)) (cwV 1 hts gX6_canMove_X6_room rfl rfl rfl hdX6_room ⟨Nat.le_of_ble_eq_true rfl, Nat.le_of_ble_eq_true rfl⟩) (pR_V hK hP 0 4 rfl rfl rfl [0, 1] rfl) rfl rfl hl.1 rfl (lv_room (Nat.le_of_ble_eq_true rfl)) dX6_canMove_20 ⟨Nat.zero_le _, Nat.zero_le _⟩) (fun r_20 hr_ => ?_)
      subst hr_
      refine lv_aload_n hx hb dX6_canMove_23 rfl (lv_at hl 0 rfl) ?_
      refine lv_iload_n hx hb dX6_canMove_24 rfl (lv_at hl 1 rfl) ?_
      refine lv_iconst (v := (nI 0)) hx hb dX6_canMove_25 (by decide) ?_
      refine vp_callSi (W.runV (As := [.int (nI r), .int (nI 0)]) (rest := [.int (sRm S cn k)]) ⟨hx, hb, hml, hown, hts⟩ (kX6_of l dC dI cI cV cW o th aS aA aV sm aB ln at_ wl aR rm ga fi se ex ha S r 0 (by omega) (by omega)) (cwV 2 hts gX6_canMove_X6_of rfl rfl rfl hdX6_of ⟨Nat.le_of_ble_eq_true rfl, Nat.le_of_ble_eq_true rfl⟩) (pR_V hK hP 0 4 rfl rfl rfl [0, 1] rfl) rfl rfl hl.1 rfl (lv_room (Nat.le_of_ble_eq_true rfl)) dX6_canMove_26 ⟨Nat.zero_le _, Nat.zero_le _⟩) (fun r_26 hr_ => ?_)
      subst hr_
      refine lv_icmp_lt (tgt := 36) hx hb dX6_canMove_29 (by decide) (fun c_29 => ?_) (fun c_29 => ?_)
      · refine lv_iconst (v := (nI 0)) hx hb dX6_canMove_36 (by decide) ?_
        exact W.zret (v := (bI false)) hx hb hr (nar_bI _) (fun t ht hW => ⟨_, rfl, (congrArg bI (show false = sCm S cn r k from by first | rfl | (simp [sCm, c_5, c_15, c_29, Int32.not_le.mpr c_29]; done))), ht⟩) (fun q hq => absurd hq List.not_mem_nil) dX6_canMove_37
      · refine lv_iconst (v := (nI 1)) hx hb dX6_canMove_32 (by decide) ?_
        refine lv_goto (tgt := 37) hx hb dX6_canMove_33 (by decide) ?_
        exact W.zret (v := (bI true)) hx hb hr (nar_bI _) (fun t ht hW => ⟨_, rfl, (congrArg bI (show true = sCm S cn r k from by first | rfl | (simp [sCm, c_5, c_15, c_29, Int32.not_lt.mp c_29]; done))), ht⟩) (fun q hq => absurd hq List.not_mem_nil) dX6_canMove_37
set_option maxHeartbeats 4000000 in
set_option maxRecDepth 100000 in
theorem kX6_canExchange (l : Launch) (dC : Nat → ClassId) (dI : Nat → Nat → Nat) (cI cV cW : ClassId) (o : Nat) (th : Int32) (aS : Nat) (aA : Nat) (aV : Nat) (sm : Int32) (aB : Nat) (ln : Int32) (at_ : Int32) (wl : Int32) (aR : Nat) (rm : Int32) (ga : Int32) (fi : Int32) (se : Int32) (ex : Int32) (ha : Int64) (S : Nat → Int32) (cn : Nat) (r : Nat) (e_ : Nat) (hR : RO S cn) (hr_0 : r < cn) (he_0 : e_ < cn) : Met l yX6_canExchange wsX6_canExchange ({ frames := 3, cells := 0, slots := 0, locals := 66 }) (pR (dC, dI) (tyS cI cV cW) [.ref o, .int (nI r), .int (nI e_)] [(o, .inr (4, [.int th, .ref aS, .ref aA, .ref aV, .int sm, .ref aB, .int ln, .int at_, .int wl, .ref aR, .int rm, .int ga, .int fi, .int se, .int ex, .long ha])), (aS, .inl (cI, 96, .inl S))]) (vp_Si (fun r_ => r_ = (bI (sCe S cn r e_)))) 0 0 (fun _ => False) := by
  refine Met.ofW (cc := cX6_canExchange) (maxL := 6) (ret := (some .boolean)) (by decide) rfl ?_
  intro p e s m args below meth c s₁ B hml hv
  obtain ⟨rfl, hP, hK⟩ := hv
  have hx := B.exec
  have hb := B.bytes
  have hr := B.returns
  have hts := atoms_spec (ws := wsX6_canExchange) B.pre
  have hown : s.vm.findClass RX6 = some m.cls := findClass_of_methodNamed B.named
  have hlocks := B.notSynchronized
  have hiX6 : ∀ w ∈ u_ws RX6 TX6 16, w ∈ wsX6_canExchange := by decide +kernel
  have hl := lv_entry ([.ref o, .int (nI r), .int (nI e_)]) (n := 6) (Nat.le_of_ble_eq_true rfl)
  rw [lg_entry_eq]
  generalize (lg_sl ([.ref o, .int (nI r), .int (nI e_)]) ++ List.replicate (6 - (lg_sl ([.ref o, .int (nI r), .int (nI e_)])).length) Slot.unset).toArray = ls at hl ⊢
  replace hl : lv_has ls 6 [(0, .ref o), (1, .int (nI r)), (2, .int (nI e_))] := hl
  have hc := hR.2.1
  have hj := (hR.2.2 r hr_0).2.2
  have hp := (hR.2.2 r hr_0).1.2
  have hp2 := (hR.2.2 e_ he_0).1.2
  refine lv_aload_n hx hb dX6_canExchange_0 rfl (lv_at hl 0 rfl) ?_
  refine lv_iload_n hx hb dX6_canExchange_1 rfl (lv_at hl 1 rfl) ?_
  refine lv_iconst (v := (nI 1)) hx hb dX6_canExchange_2 (by decide) ?_
  refine vp_callSi (W.runV (As := [.int (nI r), .int (nI 1)]) (rest := []) ⟨hx, hb, hml, hown, hts⟩ (kX6_of l dC dI cI cV cW o th aS aA aV sm aB ln at_ wl aR rm ga fi se ex ha S r 1 (by omega) (by omega)) (cwV 2 hts gX6_canExchange_X6_of rfl rfl rfl hdX6_of ⟨Nat.le_of_ble_eq_true rfl, Nat.le_of_ble_eq_true rfl⟩) (pR_V hK hP 0 4 rfl rfl rfl [0, 1] rfl) rfl rfl hl.1 rfl (lv_room (Nat.le_of_ble_eq_true rfl)) dX6_canExchange_3 ⟨Nat.zero_le _, Nat.zero_le _⟩) (fun r_3 hr_ => ?_)
  subst hr_
  refine lv_cgi (show (gW S 1 r) = (nI (ix (gW S 1 r))) from (hR.2.2 r hr_0).1.1) ?_
  refine lv_istore_n (lv' := [(3, .int (nI (ix (gW S 1 r)))), (0, .ref o), (1, .int (nI r)), (2, .int (nI e_))]) hx hb dX6_canExchange_6 rfl hl (by decide) rfl (fun ls hl => ?_)
  refine lv_aload_n hx hb dX6_canExchange_7 rfl (lv_at hl 1 rfl) ?_
  refine lv_iload_n hx hb dX6_canExchange_8 rfl (lv_at hl 3 rfl) ?_
  refine lv_iconst (v := (nI 1)) hx hb dX6_canExchange_9 (by decide) ?_
  refine vp_callSi (W.runV (As := [.int (nI e_), .int (nI 1)]) (rest := []) ⟨hx, hb, hml, hown, hts⟩ (kX6_of l dC dI cI cV cW o th aS aA aV sm aB ln at_ wl aR rm ga fi se ex ha S e_ 1 (by omega) (by omega)) (cwV 2 hts gX6_canExchange_X6_of rfl rfl rfl hdX6_of ⟨Nat.le_of_ble_eq_true rfl, Nat.le_of_ble_eq_true rfl⟩) (pR_V hK hP 0 4 rfl rfl rfl [0, 1] rfl) rfl rfl hl.1 rfl (lv_room (Nat.le_of_ble_eq_true rfl)) dX6_canExchange_10 ⟨Nat.zero_le _, Nat.zero_le _⟩) (fun r_10 hr_ => ?_)
  subst hr_
  refine lv_cgi (show (gW S 1 e_) = (nI (ix (gW S 1 e_))) from (hR.2.2 e_ he_0).1.1) ?_
  refine lv_istore (lv' := [(4, .int (nI (ix (gW S 1 e_)))), (3, .int (nI (ix (gW S 1 r)))), (0, .ref o), (1, .int (nI r)), (2, .int (nI e_))]) hx hb dX6_canExchange_13 hl (by decide) rfl (fun ls hl => ?_)
  refine lv_aload_n hx hb dX6_canExchange_15 rfl (lv_at hl 2 rfl) ?_
  refine lv_iload_n hx hb dX6_canExchange_16 rfl (lv_at hl 3 rfl) ?_
  refine vp_callSi (W.runV (As := [.int (nI r)]) (rest := []) ⟨hx, hb, hml, hown, hts⟩ (kX6_isMisplaced l dC dI cI cV cW o th aS aA aV sm aB ln at_ wl aR rm ga fi se ex ha S r (by omega)) (cwV 1 hts gX6_canExchange_X6_isMisplaced rfl rfl rfl hdX6_isMisplaced ⟨Nat.le_of_ble_eq_true rfl, Nat.le_of_ble_eq_true rfl⟩) (pR_V hK hP 0 4 rfl rfl rfl [0, 1] rfl) rfl rfl hl.1 rfl (lv_room (Nat.le_of_ble_eq_true rfl)) dX6_canExchange_17 ⟨Nat.zero_le _, Nat.zero_le _⟩) (fun r_17 hr_ => ?_)
  subst hr_
  refine b_if_ne (tgt := 41) hx hb dX6_canExchange_20 (by decide) (fun c_20 => ?_) (fun c_20 => ?_)
  · refine lv_iconst (v := (nI 0)) hx hb dX6_canExchange_41 (by decide) ?_
    refine lv_istore (lv' := [(5, .int (nI 0)), (4, .int (nI (ix (gW S 1 e_)))), (3, .int (nI (ix (gW S 1 r)))), (0, .ref o), (1, .int (nI r)), (2, .int (nI e_))]) hx hb dX6_canExchange_42 hl (by decide) rfl (fun ls hl => ?_)
    refine lv_iload hx hb dX6_canExchange_44 (lv_at hl 0 rfl) ?_
    refine n_if_eq (tgt := 96) hx hb dX6_canExchange_46 (by decide) (by omega) (fun c_46 => ?_) (fun c_46 => absurd c_46 (by decide))
    refine lv_iconst (v := (nI 0)) hx hb dX6_canExchange_96 (by decide) ?_
    exact W.zret (v := (bI false)) hx hb hr (nar_bI _) (fun t ht hW => ⟨_, rfl, (congrArg bI (show false = sCe S cn r e_ from by first | rfl | (simp [sCe, c_20, c_46]; done))), ht⟩) (fun q hq => absurd hq List.not_mem_nil) dX6_canExchange_97
  · refine lv_aload_n hx hb dX6_canExchange_23 rfl (lv_at hl 2 rfl) ?_
    refine lv_iload_n hx hb dX6_canExchange_24 rfl (lv_at hl 4 rfl) ?_
    refine vp_callSi (W.runV (As := [.int (nI e_)]) (rest := []) ⟨hx, hb, hml, hown, hts⟩ (kX6_isMisplaced l dC dI cI cV cW o th aS aA aV sm aB ln at_ wl aR rm ga fi se ex ha S e_ (by omega)) (cwV 1 hts gX6_canExchange_X6_isMisplaced rfl rfl rfl hdX6_isMisplaced ⟨Nat.le_of_ble_eq_true rfl, Nat.le_of_ble_eq_true rfl⟩) (pR_V hK hP 0 4 rfl rfl rfl [0, 1] rfl) rfl rfl hl.1 rfl (lv_room (Nat.le_of_ble_eq_true rfl)) dX6_canExchange_25 ⟨Nat.zero_le _, Nat.zero_le _⟩) (fun r_25 hr_ => ?_)
    subst hr_
    refine b_if_ne (tgt := 41) hx hb dX6_canExchange_28 (by decide) (fun c_28 => ?_) (fun c_28 => ?_)
    · refine lv_iconst (v := (nI 0)) hx hb dX6_canExchange_41 (by decide) ?_
      refine lv_istore (lv' := [(5, .int (nI 0)), (4, .int (nI (ix (gW S 1 e_)))), (3, .int (nI (ix (gW S 1 r)))), (0, .ref o), (1, .int (nI r)), (2, .int (nI e_))]) hx hb dX6_canExchange_42 hl (by decide) rfl (fun ls hl => ?_)
      refine lv_iload hx hb dX6_canExchange_44 (lv_at hl 0 rfl) ?_
      refine n_if_eq (tgt := 96) hx hb dX6_canExchange_46 (by decide) (by omega) (fun c_46 => ?_) (fun c_46 => absurd c_46 (by decide))
      refine lv_iconst (v := (nI 0)) hx hb dX6_canExchange_96 (by decide) ?_
      exact W.zret (v := (bI false)) hx hb hr (nar_bI _) (fun t ht hW => ⟨_, rfl, (congrArg bI (show false = sCe S cn r e_ from by first | rfl | (simp [sCe, c_20, c_28, c_46]; done))), ht⟩) (fun q hq => absurd hq List.not_mem_nil) dX6_canExchange_97
    · refine lv_iload_n hx hb dX6_canExchange_31 rfl (lv_at hl 1 rfl) ?_
      refine lv_iload hx hb dX6_canExchange_32 (lv_at hl 0 rfl) ?_
      refine n_icmp_eq (tgt := 41) hx hb dX6_canExchange_34 (by decide) (by omega) (by omega) (fun c_34 => ?_) (fun c_34 => ?_)
      · refine lv_iconst (v := (nI 0)) hx hb dX6_canExchange_41 (by decide) ?_
        refine lv_istore (lv' := [(5, .int (nI 0)), (4, .int (nI (ix (gW S 1 e_)))), (3, .int (nI (ix (gW S 1 r)))), (0, .ref o), (1, .int (nI r)), (2, .int (nI e_))]) hx hb dX6_canExchange_42 hl (by decide) rfl (fun ls hl => ?_)
        refine lv_iload hx hb dX6_canExchange_44 (lv_at hl 0 rfl) ?_
        refine n_if_eq (tgt := 96) hx hb dX6_canExchange_46 (by decide) (by omega) (fun c_46 => ?_) (fun c_46 => absurd c_46 (by decide))
        refine lv_iconst (v := (nI 0)) hx hb dX6_canExchange_96 (by decide) ?_
        exact W.zret (v := (bI false)) hx hb hr (nar_bI _) (fun t ht hW => ⟨_, rfl, (congrArg bI (show false = sCe S cn r e_ from by first | rfl | (simp [sCe, c_20, c_28, c_34, c_46]; done))), ht⟩) (fun q hq => absurd hq List.not_mem_nil) dX6_canExchange_97
      · refine lv_iconst (v := (nI 1)) hx hb dX6_canExchange_37 (by decide) ?_
        refine lv_goto (tgt := 42) hx hb dX6_canExchange_38 (by decide) ?_
        refine lv_istore (lv' := [(5, .int (nI 1)), (4, .int (nI (ix (gW S 1 e_)))), (3, .int (nI (ix (gW S 1 r)))), (0, .ref o), (1, .int (nI r)), (2, .int (nI e_))]) hx hb dX6_canExchange_42 hl (by decide) rfl (fun ls hl => ?_)
        refine lv_iload hx hb dX6_canExchange_44 (lv_at hl 0 rfl) ?_
        refine n_if_eq (tgt := 96) hx hb dX6_canExchange_46 (by decide) (by omega) (fun c_46 => absurd c_46 (by decide)) (fun c_46 => ?_)
        refine lv_aload_n hx hb dX6_canExchange_49 rfl (lv_at hl 3 rfl) ?_
        refine lv_iload_n hx hb dX6_canExchange_50 rfl (lv_at hl 2 rfl) ?_
        refine vp_callSi (W.runV (As := [.int (nI (ix (gW S 1 r)))]) (rest := []) ⟨hx, hb, hml, hown, hts⟩ (kX6_room l dC dI cI cV cW o th aS aA aV sm aB ln at_ wl aR rm ga fi se ex ha S cn (ix (gW S 1 r)) (hR) (by omega)) (cwV 1 hts gX6_canExchange_X6_room rfl rfl rfl hdX6_room ⟨Nat.le_of_ble_eq_true rfl, Nat.le_of_ble_eq_true rfl⟩) (pR_V hK hP 0 4 rfl rfl rfl [0, 1] rfl) rfl rfl hl.1 rfl (lv_room (Nat.le_of_ble_eq_true rfl)) dX6_canExchange_51 ⟨Nat.zero_le _, Nat.zero_le _⟩) (fun r_51 hr_ => ?_)
        subst hr_
        refine lv_aload_n hx hb dX6_canExchange_54 rfl (lv_at hl 3 rfl) ?_
        refine lv_iload_n hx hb dX6_canExchange_55 rfl (lv_at hl 4 rfl) ?_
        refine lv_iconst (v := (nI 0)) hx hb dX6_canExchange_56 (by decide) ?_
        refine vp_callSi (W.runV (As := [.int (nI r), .int (nI 0)]) (rest := [.int (sRm S cn (ix (gW S 1 r)))]) ⟨hx, hb, hml, hown, hts⟩ (kX6_of l dC dI cI cV cW o th aS aA aV sm aB ln at_ wl aR rm ga fi se ex ha S r 0 (by omega) (by omega)) (cwV 2 hts gX6_canExchange_X6_of rfl rfl rfl hdX6_of ⟨Nat.le_of_ble_eq_true rfl, Nat.le_of_ble_eq_true rfl⟩) (pR_V hK hP 0 4 rfl rfl rfl [0, 1] rfl) rfl rfl hl.1 rfl (lv_room (Nat.le_of_ble_eq_true rfl)) dX6_canExchange_57 ⟨Nat.zero_le _, Nat.zero_le _⟩) (fun r_57 hr_ => ?_)
        subst hr_
        refine lv_iadd hx hb dX6_canExchange_60 ?_
        refine lv_aload_n hx hb dX6_canExchange_61 rfl (lv_at hl 3 rfl) ?_
        refine lv_iload_n hx hb dX6_canExchange_62 rfl (lv_at hl 5 rfl) ?_
        refine lv_iconst (v := (nI 0)) hx hb dX6_canExchange_63 (by decide) ?_
        refine vp_callSi (W.runV (As := [.int (nI e_), .int (nI 0)]) (rest := [.int ((sRm S cn (ix (gW S 1 r))) + (gW S 0 r))]) ⟨hx, hb, hml, hown, hts⟩ (kX6_of l dC dI cI cV cW o th aS aA aV sm aB ln at_ wl aR rm ga fi se ex ha S e_ 0 (by omega) (by omega)) (cwV 2 hts gX6_canExchange_X6_of rfl rfl rfl hdX6_of ⟨Nat.le_of_ble_eq_true rfl, Nat.le_of_ble_eq_true rfl⟩) (pR_V hK hP 0 4 rfl rfl rfl [0, 1] rfl) rfl rfl hl.1 rfl (lv_room (Nat.le_of_ble_eq_true rfl)) dX6_canExchange_64 ⟨Nat.zero_le _, Nat.zero_le _⟩) (fun r_64 hr_ => ?_)
        subst hr_
        refine lv_icmp_lt (tgt := 96) hx hb dX6_canExchange_67 (by decide) (fun c_67 => ?_) (fun c_67 => ?_)
        · refine lv_iconst (v := (nI 0)) hx hb dX6_canExchange_96 (by decide) ?_
          exact W.zret (v := (bI false)) hx hb hr (nar_bI _) (fun t ht hW => ⟨_, rfl, (congrArg bI (show false = sCe S cn r e_ from by first | rfl | (simp [sCe, c_20, c_28, c_34, c_46, c_67, Int32.not_le.mpr c_67]; done))), ht⟩) (fun q hq => absurd hq List.not_mem_nil) dX6_canExchange_97
        · refine lv_aload_n hx hb dX6_canExchange_70 rfl (lv_at hl 3 rfl) ?_
          refine lv_iload hx hb dX6_canExchange_71 (lv_at hl 1 rfl) ?_
          refine vp_callSi (W.runV (As := [.int (nI (ix (gW S 1 e_)))]) (rest := []) ⟨hx, hb, hml, hown, hts⟩ (kX6_room l dC dI cI cV cW o th aS aA aV sm aB ln at_ wl aR rm ga fi se ex ha S cn (ix (gW S 1 e_)) (hR) (by omega)) (cwV 1 hts gX6_canExchange_X6_room rfl rfl rfl hdX6_room ⟨Nat.le_of_ble_eq_true rfl, Nat.le_of_ble_eq_true rfl⟩) (pR_V hK hP 0 4 rfl rfl rfl [0, 1] rfl) rfl rfl hl.1 rfl (lv_room (Nat.le_of_ble_eq_true rfl)) dX6_canExchange_73 ⟨Nat.zero_le _, Nat.zero_le _⟩) (fun r_73 hr_ => ?_)
          subst hr_
          refine lv_aload_n hx hb dX6_canExchange_76 rfl (lv_at hl 3 rfl) ?_
          refine lv_iload_n hx hb dX6_canExchange_77 rfl (lv_at hl 5 rfl) ?_
          refine lv_iconst (v := (nI 0)) hx hb dX6_canExchange_78 (by decide) ?_
          refine vp_callSi (W.runV (As := [.int (nI e_), .int (nI 0)]) (rest := [.int (sRm S cn (ix (gW S 1 e_)))]) ⟨hx, hb, hml, hown, hts⟩ (kX6_of l dC dI cI cV cW o th aS aA aV sm aB ln at_ wl aR rm ga fi se ex ha S e_ 0 (by omega) (by omega)) (cwV 2 hts gX6_canExchange_X6_of rfl rfl rfl hdX6_of ⟨Nat.le_of_ble_eq_true rfl, Nat.le_of_ble_eq_true rfl⟩) (pR_V hK hP 0 4 rfl rfl rfl [0, 1] rfl) rfl rfl hl.1 rfl (lv_room (Nat.le_of_ble_eq_true rfl)) dX6_canExchange_79 ⟨Nat.zero_le _, Nat.zero_le _⟩) (fun r_79 hr_ => ?_)
          subst hr_
          refine lv_iadd hx hb dX6_canExchange_82 ?_
          refine lv_aload_n hx hb dX6_canExchange_83 rfl (lv_at hl 3 rfl) ?_
          refine lv_iload_n hx hb dX6_canExchange_84 rfl (lv_at hl 4 rfl) ?_
          refine lv_iconst (v := (nI 0)) hx hb dX6_canExchange_85 (by decide) ?_
          refine vp_callSi (W.runV (As := [.int (nI r), .int (nI 0)]) (rest := [.int ((sRm S cn (ix (gW S 1 e_))) + (gW S 0 e_))]) ⟨hx, hb, hml, hown, hts⟩ (kX6_of l dC dI cI cV cW o th aS aA aV sm aB ln at_ wl aR rm ga fi se ex ha S r 0 (by omega) (by omega)) (cwV 2 hts gX6_canExchange_X6_of rfl rfl rfl hdX6_of ⟨Nat.le_of_ble_eq_true rfl, Nat.le_of_ble_eq_true rfl⟩) (pR_V hK hP 0 4 rfl rfl rfl [0, 1] rfl) rfl rfl hl.1 rfl (lv_room (Nat.le_of_ble_eq_true rfl)) dX6_canExchange_86 ⟨Nat.zero_le _, Nat.zero_le _⟩) (fun r_86 hr_ => ?_)
          subst hr_
          refine lv_icmp_lt (tgt := 96) hx hb dX6_canExchange_89 (by decide) (fun c_89 => ?_) (fun c_89 => ?_)
          · refine lv_iconst (v := (nI 0)) hx hb dX6_canExchange_96 (by decide) ?_
            exact W.zret (v := (bI false)) hx hb hr (nar_bI _) (fun t ht hW => ⟨_, rfl, (congrArg bI (show false = sCe S cn r e_ from by first | rfl | (simp [sCe, c_20, c_28, c_34, c_46, c_67, Int32.not_lt.mp c_67, c_89, Int32.not_le.mpr c_89]; done))), ht⟩) (fun q hq => absurd hq List.not_mem_nil) dX6_canExchange_97
          · refine lv_iconst (v := (nI 1)) hx hb dX6_canExchange_92 (by decide) ?_
            refine lv_goto (tgt := 97) hx hb dX6_canExchange_93 (by decide) ?_
            exact W.zret (v := (bI true)) hx hb hr (nar_bI _) (fun t ht hW => ⟨_, rfl, (congrArg bI (show true = sCe S cn r e_ from by first | rfl | (simp [sCe, c_20, c_28, c_34, c_46, c_67, Int32.not_lt.mp c_67, c_89, Int32.not_lt.mp c_89]; done))), ht⟩) (fun q hq => absurd hq List.not_mem_nil) dX6_canExchange_97
