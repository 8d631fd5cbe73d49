set_option maxHeartbeats 4000000 in
set_option maxRecDepth 100000 in
theorem kX6_in (l : Launch) (dC : Nat → ClassId) (dI : Nat → Nat → Nat) (cI cV cW : ClassId) (v : Int32) (lo : Int32) (hi : Int32)  : Met l yX6_in wsX6_in ({ frames := 0, cells := 0, slots := 0, locals := 0 }) (pR (dC, dI) (tyS cI cV cW) [.int v, .int lo, .int hi] []) (vp_Si (fun r_ => r_ = (bI (sIn v lo hi)))) 0 0 (fun _ => False) := by
  refine Met.ofW (cc := cX6_in) (maxL := 3) (ret := (some .boolean)) (by decide) rfl ?_
  intro p e s m args below meth c s₁ B hml hv
  obtain ⟨rfl, hP, hK⟩ := hv
  have hx := B.exec
  have hb := B.bytes
  have hr := B.returns
  have hts := atoms_spec (ws := wsX6_in) B.pre
  have hown : s.vm.findClass RX6 = some m.cls := findClass_of_methodNamed B.named
  have hlocks := B.notSynchronized
  have hl := lv_entry ([.int v, .int lo, .int hi]) (n := 3) (Nat.le_of_ble_eq_true rfl)
  rw [lg_entry_eq]
  generalize (lg_sl ([.int v, .int lo, .int hi]) ++ List.replicate (3 - (lg_sl ([.int v, .int lo, .int hi])).length) Slot.unset).toArray = ls at hl ⊢
  have hl : lv_has ls 3 [(0, .int v), (1, .int lo), (2, .int hi)] := hl
  refine lv_iload_n hx hb dX6_in_0 rfl (lv_at hl 0 rfl) ?_
  refine lv_iload_n hx hb dX6_in_1 rfl (lv_at hl 1 rfl) ?_
  refine lv_icmp_lt (tgt := 14) hx hb dX6_in_2 (by decide) (fun c_2 => ?_) (fun c_2 => ?_)
  · refine lv_iconst (v := (nI 0)) hx hb dX6_in_14 (by decide) ?_
    exact W.zret (v := (bI false)) hx hb hr (nar_bI _) (fun t ht hW => ⟨_, rfl, (congrArg bI (show false = sIn v lo hi from by first | (simp [sIn, Int32.not_le.mpr c_2]; done) | (simp [sIn, Int32.not_lt.mp c_2, Int32.not_le.mpr c_7]; done) | (simp [sIn, Int32.not_lt.mp c_2, Int32.not_lt.mp c_7]; done))), ht⟩) (fun q hq => absurd hq List.not_mem_nil) dX6_in_15
  · refine lv_iload_n hx hb dX6_in_5 rfl (lv_at hl 0 rfl) ?_
    refine lv_iload_n hx hb dX6_in_6 rfl (lv_at hl 2 rfl) ?_
    refine lv_icmp_gt (tgt := 14) hx hb dX6_in_7 (by decide) (fun c_7 => ?_) (fun c_7 => ?_)
    · refine lv_iconst (v := (nI 0)) hx hb dX6_in_14 (by decide) ?_
      exact W.zret (v := (bI false)) hx hb hr (nar_bI _) (fun t ht hW => ⟨_, rfl, (congrArg bI (show false = sIn v lo hi from by first | (simp [sIn, Int32.not_le.mpr c_2]; done) | (simp [sIn, Int32.not_lt.mp c_2, Int32.not_le.mpr c_7]; done) | (simp [sIn, Int32.not_lt.mp c_2, Int32.not_lt.mp c_7]; done))), ht⟩) (fun q hq => absurd hq List.not_mem_nil) dX6_in_15
    · refine lv_iconst (v := (nI 1)) hx hb dX6_in_10 (by decide) ?_
      refine lv_goto (tgt := 15) hx hb dX6_in_11 (by decide) ?_
      exact W.zret (v := (bI true)) hx hb hr (nar_bI _) (fun t ht hW => ⟨_, rfl, (congrArg bI (show true = sIn v lo hi from by first | (simp [sIn, Int32.not_le.mpr c_2]; done) | (simp [sIn, Int32.not_lt.mp c_2, Int32.not_le.mpr c_7]; done) | (simp [sIn, Int32.not_lt.mp c_2, Int32.not_lt.mp c_7]; done))), ht⟩) (fun q hq => absurd hq List.not_mem_nil) dX6_in_15
theorem hdX6_in : yX6_in.cls ≠ "java/lang/invoke/MethodHandle" ∧ yX6_in.cls ≠ "java/lang/invoke/VarHandle" ∧ (parseMethodDescriptor yX6_in.desc).map (fun d => d.parameters.length) = some 3 := by decide +kernel
set_option maxHeartbeats 4000000 in
set_option maxRecDepth 100000 in
theorem kX6_isShelf (l : Launch) (dC : Nat → ClassId) (dI : Nat → Nat → Nat) (cI cV cW : ClassId) (x : Int32)  : Met l yX6_isShelf wsX6_isShelf ({ frames := 1, cells := 0, slots := 0, locals := 22 }) (pR (dC, dI) (tyS cI cV cW) [.int x] []) (vp_Si (fun r_ => r_ = (bI (sIn x 0 5)))) 0 0 (fun _ => False) := by
  refine Met.ofW (cc := cX6_isShelf) (maxL := 1) (ret := (some .boolean)) (by decide) rfl ?_
  intro p e s m args below meth c s₁ B hml hv
  obtain ⟨rfl, hP, hK⟩ := hv
  have hx := B.exec
  have hb := B.bytes
  have hr := B.returns
  have hts := atoms_spec (ws := wsX6_isShelf) B.pre
  have hown : s.vm.findClass RX6 = some m.cls := findClass_of_methodNamed B.named
  have hlocks := B.notSynchronized
  have hl := lv_entry ([.int x]) (n := 1) (Nat.le_of_ble_eq_true rfl)
  rw [lg_entry_eq]
  generalize (lg_sl ([.int x]) ++ List.replicate (1 - (lg_sl ([.int x])).length) Slot.unset).toArray = ls at hl ⊢
  have hl : lv_has ls 1 [(0, .int x)] := hl
  refine lv_iload_n hx hb dX6_isShelf_0 rfl (lv_at hl 0 rfl) ?_
  refine lv_iconst (v := (nI 0)) hx hb dX6_isShelf_1 (by decide) ?_
  refine lv_iconst (v := (nI 5)) hx hb dX6_isShelf_2 (by decide) ?_
  refine vp_callSi (W.runS (As := [.int x, .int (nI 0), .int (nI 5)]) (rest := []) ⟨hx, hb, hml, hown, hts⟩ (kX6_in l dC dI cI cV cW x (nI 0) (nI 5)) (va_cwS 3 hts gX6_isShelf_X6_in rfl rfl rfl hdX6_in ⟨Nat.le_of_ble_eq_true rfl, Nat.le_of_ble_eq_true rfl⟩) (pR_S hK hP [] rfl) rfl rfl hl.1 rfl (lv_room (Nat.le_of_ble_eq_true rfl)) dX6_isShelf_3 ⟨Nat.zero_le _, Nat.zero_le _⟩) (fun r_3 hr_ => ?_)
  subst hr_
  exact W.zret (v := (bI (sIn x (nI 0) (nI 5)))) hx hb hr (nar_bI _) (fun t ht hW => ⟨_, rfl, (congrArg bI (show sIn x (nI 0) (nI 5) = sIn x 0 5 from by rfl)), ht⟩) (fun q hq => absurd hq List.not_mem_nil) dX6_isShelf_6
set_option maxHeartbeats 4000000 in
set_option maxRecDepth 100000 in
theorem kX6_thrown (l : Launch) (dC : Nat → ClassId) (dI : Nat → Nat → Nat) (cI cV cW : ClassId) (o : Nat) (th : Int32) (aS : Nat) (aA : Nat) (aV : Nat) (sm : Int32) (aB : Nat) (ln : Int32) (at_ : Int32) (wl : Int32) (aR : Nat) (rm : Int32) (ga : Int32) (fi : Int32) (se : Int32) (ex : Int32) (ha : Int64)  : Met l yX6_thrown wsX6_thrown ({ frames := 0, cells := 0, slots := 0, locals := 0 }) (pR (dC, dI) (tyS cI cV cW) [.ref o] [(o, .inr (4, [.int th, .ref aS, .ref aA, .ref aV, .int sm, .ref aB, .int ln, .int at_, .int wl, .ref aR, .int rm, .int ga, .int fi, .int se, .int ex, .long ha]))]) (vp_Si (fun r_ => r_ = th)) 0 0 (fun _ => False) := by
  refine Met.ofW (cc := cX6_thrown) (maxL := 1) (ret := (some .int)) (by decide) rfl ?_
  intro p e s m args below meth c s₁ B hml hv
  obtain ⟨rfl, hP, hK⟩ := hv
  have hx := B.exec
  have hb := B.bytes
  have hr := B.returns
  have hts := atoms_spec (ws := wsX6_thrown) B.pre
  have hown : s.vm.findClass RX6 = some m.cls := findClass_of_methodNamed B.named
  have hlocks := B.notSynchronized
  have hf25 := hts (.fieldLink RX6 25 "VaultShelvesModel" "thrown" "I") (by decide +kernel)
  have hiX6 : ∀ w ∈ u_ws RX6 TX6 16, w ∈ wsX6_thrown := by decide +kernel
  have hl := lv_entry ([.ref o]) (n := 1) (Nat.le_of_ble_eq_true rfl)
  rw [lg_entry_eq]
  generalize (lg_sl ([.ref o]) ++ List.replicate (1 - (lg_sl ([.ref o])).length) Slot.unset).toArray = ls at hl ⊢
  have hl : lv_has ls 1 [(0, .ref o)] := hl
  refine lv_aload_n hx hb dX6_thrown_0 rfl (lv_at hl 0 rfl) ?_
  refine va_get (D := (dC, dI)) (ci := 4) (v := .int th) (C := RX6) (T := TX6) (N := 16) hx hb hts hiX6 hown hK hP 0 rfl rfl 0 (by decide) hf25 (fun _ h9 => h9) rfl dX6_thrown_1 ?_
  exact W.iret (v := th) hx hb hr (fun t ht hW => ⟨_, rfl, rfl, ht⟩) (fun q hq => absurd hq List.not_mem_nil) dX6_thrown_4
set_option maxHeartbeats 4000000 in
set_option maxRecDepth 100000 in
theorem kX6_fails (l : Launch) (dC : Nat → ClassId) (dI : Nat → Nat → Nat) (cI cV cW : ClassId) (sz : Nat) (o : Nat) (th : Int32) (aS : Nat) (aA : Nat) (aV : Nat) (sm : Int32) (aB : Nat) (ln : Int32) (at_ : Int32) (wl : Int32) (aR : Nat) (rm : Int32) (ga : Int32) (fi : Int32) (se : Int32) (ex : Int32) (ha : Int64) (code : Int32)  : Met l yX6_fails wsX6_fails ({ frames := 0, cells := 0, slots := 0, locals := 0 }) (pW (dC, dI) (tyS cI cV cW) sz [.ref o, .int code] [(o, .inr (4, [.int th, .ref aS, .ref aA, .ref aV, .int sm, .ref aB, .int ln, .int at_, .int wl, .ref aR, .int rm, .int ga, .int fi, .int se, .int ex, .long ha]))]) (va_Qi (fun (r_ : Int32) (_ : Unit) => r_ = (nI 0)) (fun (_ : Unit) t => qB (dC, dI) (tyS cI cV cW) (va_A [(o, .inr (4, [.int th, .ref aS, .ref aA, .ref aV, .int sm, .ref aB, .int ln, .int at_, .int wl, .ref aR, .int rm, .int ga, .int fi, .int se, .int ex, .long ha]))] sz) [(o, .inr (4, [.int code, .ref aS, .ref aA, .ref aV, .int sm, .ref aB, .int ln, .int at_, .int wl, .ref aR, .int rm, .int ga, .int fi, .int se, .int ex, .long ha]))] t) (va_A [(o, .inr (4, [.int th, .ref aS, .ref aA, .ref aV, .int sm, .ref aB, .int ln, .int at_, .int wl, .ref aR, .int rm, .int ga, .int fi, .int se, .int ex, .long ha]))] sz)) 0 0 (va_A [(o, .inr (4, [.int th, .ref aS, .ref aA, .ref aV, .int sm, .ref aB, .int ln, .int at_, .int wl, .ref aR, .int rm, .int ga, .int fi, .int se, .int ex, .long ha]))] sz) := by
  refine Met.ofW (cc := cX6_fails) (maxL := 2) (ret := (some .int)) (by decide) rfl ?_
  intro p e s m args below meth c s₁ B hml hv
  obtain ⟨rfl, hsz, hP, hK, hD0⟩ := hv
  have hx := B.exec
  have hb := B.bytes
  have hr := B.returns
  have hts := atoms_spec (ws := wsX6_fails) B.pre
  have hown : s.vm.findClass RX6 = some m.cls := findClass_of_methodNamed B.named
  have hlocks := B.notSynchronized
  subst hsz
  have hD := hD0.self (sz := s.heap.size)
  generalize hAe : va_A [(o, .inr (4, [.int th, .ref aS, .ref aA, .ref aV, .int sm, .ref aB, .int ln, .int at_, .int wl, .ref aR, .int rm, .int ga, .int fi, .int se, .int ex, .long ha]))] s.heap.size = A at hD ⊢
  have hA : ∀ q : Nat, s.heap.size ≤ q → A q := fun q h => by rw [← hAe]; exact Or.inr h
  have hS : va_S A s.heap s.heap [] := va_S.rf
  refine w_gen hP hS (fun H locs hP hS => ?_)
  have hf25 := hts (.fieldLink RX6 25 "VaultShelvesModel" "thrown" "I") (by decide +kernel)
  have hiX6 : ∀ w ∈ u_ws RX6 TX6 16, w ∈ wsX6_fails := by decide +kernel
  have hl := lv_entry ([.ref o, .int code]) (n := 2) (Nat.le_of_ble_eq_true rfl)
  rw [lg_entry_eq]
  generalize (lg_sl ([.ref o, .int code]) ++ List.replicate (2 - (lg_sl ([.ref o, .int code])).length) Slot.unset).toArray = ls at hl ⊢
  have hl : lv_has ls 2 [(0, .ref o), (1, .int code)] := hl
  refine lv_aload_n hx hb dX6_fails_0 rfl (lv_at hl 0 rfl) ?_
  refine lv_iload_n hx hb dX6_fails_1 rfl (lv_at hl 1 rfl) ?_
  refine va_put (D := (dC, dI)) (ci := 4) (v := .int code) (ty := .int) (C := RX6) (T := TX6) (N := 16) hx hb hts hiX6 tyX6 tyX6_ok nmX6 hown hK hP hD hS 0 rfl rfl 0 (by decide) hf25 (fun _ h9 => h9) rfl (by decide +kernel) rfl rfl (Nat.le_of_ble_eq_true rfl) dX6_fails_2 (fun H locs hP hD hS => ?_)
  have hP : va_P (dC, dI) vwCl [(o, .inr (4, [.int code, .ref aS, .ref aA, .ref aV, .int sm, .ref aB, .int ln, .int at_, .int wl, .ref aR, .int rm, .int ga, .int fi, .int se, .int ex, .long ha]))] H := hP
  have hD : va_D A [(o, .inr (4, [.int code, .ref aS, .ref aA, .ref aV, .int sm, .ref aB, .int ln, .int at_, .int wl, .ref aR, .int rm, .int ga, .int fi, .int se, .int ex, .long ha]))] := hD
  refine lv_iconst (v := (nI 0)) hx hb dX6_fails_5 (by decide) ?_
  have hP9 := hP
  have hD9 := hD
  exact W.iret (v := (nI 0)) hx hb hr (fun t ht hW => ⟨⟨(nI 0), (), rfl, rfl, by rw [ht]; exact hP9, va_K.moved hW.alike hK, hD9⟩, hS.F ht⟩) hS.2.2 dX6_fails_6
set_option maxHeartbeats 4000000 in
set_option maxRecDepth 100000 in
theorem kX6_isRecord (l : Launch) (dC : Nat → ClassId) (dI : Nat → Nat → Nat) (cI cV cW : ClassId) (o : Nat) (th : Int32) (aS : Nat) (aA : Nat) (aV : Nat) (sm : Int32) (aB : Nat) (ln : Int32) (at_ : Int32) (wl : Int32) (aR : Nat) (rm : Int32) (ga : Int32) (fi : Int32) (se : Int32) (ex : Int32) (ha : Int64) (S : Nat → Int32) (x : Int32)  : Met l yX6_isRecord wsX6_isRecord ({ frames := 1, cells := 0, slots := 0, locals := 22 }) (pR (dC, dI) (tyS cI cV cW) [.ref o, .int x] [(o, .inr (4, [.int th, .ref aS, .ref aA, .ref aV, .int sm, .ref aB, .int ln, .int at_, .int wl, .ref aR, .int rm, .int ga, .int fi, .int se, .int ex, .long ha])), (aS, .inl (cI, 96, .inl S))]) (vp_Si (fun r_ => r_ = (bI (sIn x 0 (S 0 - 1))))) 0 0 (fun _ => False) := by
  refine Met.ofW (cc := cX6_isRecord) (maxL := 2) (ret := (some .boolean)) (by decide) rfl ?_
  intro p e s m args below meth c s₁ B hml hv
  obtain ⟨rfl, hP, hK⟩ := hv
  have hx := B.exec
  have hb := B.bytes
  have hr := B.returns
  have hts := atoms_spec (ws := wsX6_isRecord) B.pre
  have hown : s.vm.findClass RX6 = some m.cls := findClass_of_methodNamed B.named
  have hlocks := B.notSynchronized
  have hf7 := hts (.fieldLink RX6 7 "VaultShelvesModel" "s" "[I") (by decide +kernel)
  have hiX6 : ∀ w ∈ u_ws RX6 TX6 16, w ∈ wsX6_isRecord := by decide +kernel
  have hl := lv_entry ([.ref o, .int x]) (n := 2) (Nat.le_of_ble_eq_true rfl)
  rw [lg_entry_eq]
  generalize (lg_sl ([.ref o, .int x]) ++ List.replicate (2 - (lg_sl ([.ref o, .int x])).length) Slot.unset).toArray = ls at hl ⊢
  have hl : lv_has ls 2 [(0, .ref o), (1, .int x)] := hl
  refine lv_iload_n hx hb dX6_isRecord_0 rfl (lv_at hl 1 rfl) ?_
  refine lv_iconst (v := (nI 0)) hx hb dX6_isRecord_1 (by decide) ?_
  refine lv_aload_n hx hb dX6_isRecord_2 rfl (lv_at hl 0 rfl) ?_
  refine va_get (D := (dC, dI)) (ci := 4) (v := .ref aS) (C := RX6) (T := TX6) (N := 16) hx hb hts hiX6 hown hK hP 0 rfl rfl 1 (by decide) hf7 (fun _ h9 => h9) rfl dX6_isRecord_3 ?_
  refine lv_iconst (v := (nI 0)) hx hb dX6_isRecord_6 (by decide) ?_
  refine n_iald hx hb hK hP 1 0 rfl rfl (show 0 < 96 from by omega) (by decide) dX6_isRecord_7 ?_
  refine lv_iconst (v := (nI 1)) hx hb dX6_isRecord_8 (by decide) ?_
  refine lv_isub hx hb dX6_isRecord_9 ?_
  refine vp_callSi (W.runS (As := [.int x, .int (nI 0), .int ((S 0) - 1)]) (rest := []) ⟨hx, hb, hml, hown, hts⟩ (kX6_in l dC dI cI cV cW x (nI 0) ((S 0) - 1)) (va_cwS 3 hts gX6_isRecord_X6_in rfl rfl rfl hdX6_in ⟨Nat.le_of_ble_eq_true rfl, Nat.le_of_ble_eq_true rfl⟩) (pR_S hK hP [] rfl) rfl rfl hl.1 rfl (lv_room (Nat.le_of_ble_eq_true rfl)) dX6_isRecord_10 ⟨Nat.zero_le _, Nat.zero_le _⟩) (fun r_10 hr_ => ?_)
  subst hr_
  exact W.zret (v := (bI (sIn x (nI 0) ((S 0) - 1)))) hx hb hr (nar_bI _) (fun t ht hW => ⟨_, rfl, (congrArg bI (show sIn x (nI 0) ((S 0) - 1) = sIn x 0 (S 0 - 1) from by rfl)), ht⟩) (fun q hq => absurd hq List.not_mem_nil) dX6_isRecord_13
set_option maxHeartbeats 4000000 in
set_option maxRecDepth 100000 in
theorem kX6_of (l : Launch) (dC : Nat → ClassId) (dI : Nat → Nat → Nat) (cI cV cW : ClassId) (o : Nat) (th : Int32) (aS : Nat) (aA : Nat) (aV : Nat) (sm : Int32) (aB : Nat) (ln : Int32) (at_ : Int32) (wl : Int32) (aR : Nat) (rm : Int32) (ga : Int32) (fi : Int32) (se : Int32) (ex : Int32) (ha : Int64) (S : Nat → Int32) (r : Nat) (k : Nat) (h1 : r < 16) (h2 : k < 5) : Met l yX6_of wsX6_of ({ frames := 0, cells := 0, slots := 0, locals := 0 }) (pR (dC, dI) (tyS cI cV cW) [.ref o, .int (nI r), .int (nI k)] [(o, .inr (4, [.int th, .ref aS, .ref aA, .ref aV, .int sm, .ref aB, .int ln, .int at_, .int wl, .ref aR, .int rm, .int ga, .int fi, .int se, .int ex, .long ha])), (aS, .inl (cI, 96, .inl S))]) (vp_Si (fun r_ => r_ = (gW S k r))) 0 0 (fun _ => False) := by
  refine Met.ofW (cc := cX6_of) (maxL := 3) (ret := (some .int)) (by decide) rfl ?_
  intro p e s m args below meth c s₁ B hml hv
  obtain ⟨rfl, hP, hK⟩ := hv
  have hx := B.exec
  have hb := B.bytes
  have hr := B.returns
  have hts := atoms_spec (ws := wsX6_of) B.pre
  have hown : s.vm.findClass RX6 = some m.cls := findClass_of_methodNamed B.named
  have hlocks := B.notSynchronized
  have hf7 := hts (.fieldLink RX6 7 "VaultShelvesModel" "s" "[I") (by decide +kernel)
  have hiX6 : ∀ w ∈ u_ws RX6 TX6 16, w ∈ wsX6_of := by decide +kernel
  have hl := lv_entry ([.ref o, .int (nI r), .int (nI k)]) (n := 3) (Nat.le_of_ble_eq_true rfl)
  rw [lg_entry_eq]
  generalize (lg_sl ([.ref o, .int (nI r), .int (nI k)]) ++ List.replicate (3 - (lg_sl ([.ref o, .int (nI r), .int (nI k)])).length) Slot.unset).toArray = ls at hl ⊢
  have hl : lv_has ls 3 [(0, .ref o), (1, .int (nI r)), (2, .int (nI k))] := hl
  refine lv_aload_n hx hb dX6_of_0 rfl (lv_at hl 0 rfl) ?_
  refine va_get (D := (dC, dI)) (ci := 4) (v := .ref aS) (C := RX6) (T := TX6) (N := 16) hx hb hts hiX6 hown hK hP 0 rfl rfl 1 (by decide) hf7 (fun _ h9 => h9) rfl dX6_of_1 ?_
  refine lv_bipush (v := (nI 15)) hx hb dX6_of_4 (by decide) ?_
  refine lv_iconst (v := (nI 5)) hx hb dX6_of_6 (by decide) ?_
  refine lv_iload_n hx hb dX6_of_7 rfl (lv_at hl 1 rfl) ?_
  refine n_imul hx hb dX6_of_8 ?_
  refine n_iadd hx hb dX6_of_9 ?_
  refine lv_iload_n hx hb dX6_of_10 rfl (lv_at hl 2 rfl) ?_
  refine n_iadd hx hb dX6_of_11 ?_
  refine n_iald hx hb hK hP 1 0 rfl rfl (show (15 + (5 * r)) + k < 96 from by omega) (by decide) dX6_of_12 ?_
  exact W.iret (v := (S ((15 + (5 * r)) + k))) hx hb hr (fun t ht hW => ⟨_, rfl, (show (S ((15 + (5 * r)) + k)) = (gW S k r) from by rfl), ht⟩) (fun q hq => absurd hq List.not_mem_nil) dX6_of_13
set_option maxHeartbeats 4000000 in
set_option maxRecDepth 100000 in
theorem kX6_lay (l : Launch) (dC : Nat → ClassId) (dI : Nat → Nat → Nat) (cI cV cW : ClassId) (sz : Nat) (o : Nat) (th : Int32) (aS : Nat) (aA : Nat) (aV : Nat) (sm : Int32) (aB : Nat) (ln : Int32) (at_ : Int32) (wl : Int32) (aR : Nat) (rm : Int32) (ga : Int32) (fi : Int32) (se : Int32) (ex : Int32) (ha : Int64) (S : Nat → Int32) (r : Nat) (k : Nat) (v : Int32) (h1 : r < 16) (h2 : k < 5) : Met l yX6_lay wsX6_lay ({ frames := 0, cells := 0, slots := 0, locals := 0 }) (pW (dC, dI) (tyS cI cV cW) sz [.ref o, .int (nI r), .int (nI k), .int v] [(o, .inr (4, [.int th, .ref aS, .ref aA, .ref aV, .int sm, .ref aB, .int ln, .int at_, .int wl, .ref aR, .int rm, .int ga, .int fi, .int se, .int ex, .long ha])), (aS, .inl (cI, 96, .inl S))]) (va_Qv (fun (_ : Unit) => True) (fun (_ : Unit) t => qB (dC, dI) (tyS cI cV cW) (va_A [(o, .inr (4, [.int th, .ref aS, .ref aA, .ref aV, .int sm, .ref aB, .int ln, .int at_, .int wl, .ref aR, .int rm, .int ga, .int fi, .int se, .int ex, .long ha])), (aS, .inl (cI, 96, .inl S))] sz) [(o, .inr (4, [.int th, .ref aS, .ref aA, .ref aV, .int sm, .ref aB, .int ln, .int at_, .int wl, .ref aR, .int rm, .int ga, .int fi, .int se, .int ex, .long ha])), (aS, .inl (cI, 96, .inl (upd S (15 + (5 * r) + k) v)))] t) (va_A [(o, .inr (4, [.int th, .ref aS, .ref aA, .ref aV, .int sm, .ref aB, .int ln, .int at_, .int wl, .ref aR, .int rm, .int ga, .int fi, .int se, .int ex, .long ha])), (aS, .inl (cI, 96, .inl S))] sz)) 0 0 (va_A [(o, .inr (4, [.int th, .ref aS, .ref aA, .ref aV, .int sm, .ref aB, .int ln, .int at_, .int wl, .ref aR, .int rm, .int ga, .int fi, .int se, .int ex, .long ha])), (aS, .inl (cI, 96, .inl S))] sz) := by
  refine Met.ofW (cc := cX6_lay) (maxL := 4) (ret := none) (by decide) rfl ?_
  intro p e s m args below meth c s₁ B hml hv
  obtain ⟨rfl, hsz, hP, hK, hD0⟩ := hv
  have hx := B.exec
  have hb := B.bytes
  have hr := B.returns
  have hts := atoms_spec (ws := wsX6_lay) B.pre
  have hown : s.vm.findClass RX6 = some m.cls := findClass_of_methodNamed B.named
  have hlocks := B.notSynchronized
  subst hsz
  have hD := hD0.self (sz := s.heap.size)
  generalize hAe : va_A [(o, .inr (4, [.int th, .ref aS, .ref aA, .ref aV, .int sm, .ref aB, .int ln, .int at_, .int wl, .ref aR, .int rm, .int ga, .int fi, .int se, .int ex, .long ha])), (aS, .inl (cI, 96, .inl S))] s.heap.size = A at hD ⊢
  have hA : ∀ q : Nat, s.heap.size ≤ q → A q := fun q h => by rw [← hAe]; exact Or.inr h
  have hS : va_S A s.heap s.heap [] := va_S.rf
  refine w_gen hP hS (fun H locs hP hS => ?_)
  have hf7 := hts (.fieldLink RX6 7 "VaultShelvesModel" "s" "[I") (by decide +kernel)
  have hiX6 : ∀ w ∈ u_ws RX6 TX6 16, w ∈ wsX6_lay := by decide +kernel
  have hl := lv_entry ([.ref o, .int (nI r), .int (nI k), .int v]) (n := 4) (Nat.le_of_ble_eq_true rfl)
  rw [lg_entry_eq]
  generalize (lg_sl ([.ref o, .int (nI r), .int (nI k), .int v]) ++ List.replicate (4 - (lg_sl ([.ref o, .int (nI r), .int (nI k), .int v])).length) Slot.unset).toArray = ls at hl ⊢
  have hl : lv_has ls 4 [(0, .ref o), (1, .int (nI r)), (2, .int (nI k)), (3, .int v)] := hl
  refine lv_aload_n hx hb dX6_lay_0 rfl (lv_at hl 0 rfl) ?_
  refine va_get (D := (dC, dI)) (ci := 4) (v := .ref aS) (C := RX6) (T := TX6) (N := 16) hx hb hts hiX6 hown hK hP 0 rfl rfl 1 (by decide) hf7 (fun _ h9 => h9) rfl dX6_lay_1 ?_
  refine lv_bipush (v := (nI 15)) hx hb dX6_lay_4 (by decide) ?_
  refine lv_iconst (v := (nI 5)) hx hb dX6_lay_6 (by decide) ?_
  refine lv_iload_n hx hb dX6_lay_7 rfl (lv_at hl 1 rfl) ?_
  refine n_imul hx hb dX6_lay_8 ?_
  refine n_iadd hx hb dX6_lay_9 ?_
  refine lv_iload_n hx hb dX6_lay_10 rfl (lv_at hl 2 rfl) ?_
  refine n_iadd hx hb dX6_lay_11 ?_
  refine lv_iload_n hx hb dX6_lay_12 rfl (lv_at hl 3 rfl) ?_
  refine n_iast hx hb hK hP hD hS 1 0 rfl rfl (show (15 + (5 * r)) + k < 96 from by omega) (by decide) dX6_lay_13 (fun H locs hP hD hS => ?_)
  have hP : va_P (dC, dI) vwCl [(o, .inr (4, [.int th, .ref aS, .ref aA, .ref aV, .int sm, .ref aB, .int ln, .int at_, .int wl, .ref aR, .int rm, .int ga, .int fi, .int se, .int ex, .long ha])), (aS, .inl (cI, 96, .inl (upd S ((15 + (5 * r)) + k) v)))] H := hP
  have hD : va_D A [(o, .inr (4, [.int th, .ref aS, .ref aA, .ref aV, .int sm, .ref aB, .int ln, .int at_, .int wl, .ref aR, .int rm, .int ga, .int fi, .int se, .int ex, .long ha])), (aS, .inl (cI, 96, .inl (upd S ((15 + (5 * r)) + k) v)))] := hD
  have hP9 := hP
  have hD9 := hD
  exact W.vret hx hb hr (fun t ht hW => ⟨⟨(), rfl, trivial, by rw [ht]; exact hP9, va_K.moved hW.alike hK, hD9⟩, hS.F ht⟩) hS.2.2 dX6_lay_14
theorem hdX6_of : yX6_of.cls = RX6 ∧ yX6_of.cls ≠ "java/lang/invoke/MethodHandle" ∧ yX6_of.cls ≠ "java/lang/invoke/VarHandle" ∧ (parseMethodDescriptor yX6_of.desc).map (fun d => d.parameters.length) = some 2 := by decide +kernel
set_option maxHeartbeats 4000000 in
set_option maxRecDepth 100000 in
theorem kX6_heft (l : Launch) (dC : Nat → ClassId) (dI : Nat → Nat → Nat) (cI cV cW : ClassId) (o : Nat) (th : Int32) (aS : Nat) (aA : Nat) (aV : Nat) (sm : Int32) (aB : Nat) (ln : Int32) (at_ : Int32) (wl : Int32) (aR : Nat) (rm : Int32) (ga : Int32) (fi : Int32) (se : Int32) (ex : Int32) (ha : Int64) (S : Nat → Int32) (r : Nat) (h1 : r < 16) : Met l yX6_heft wsX6_heft ({ frames := 1, cells := 0, slots := 0, locals := 22 }) (pR (dC, dI) (tyS cI cV cW) [.ref o, .int (nI r)] [(o, .inr (4, [.int th, .ref aS, .ref aA, .ref aV, .int sm, .ref aB, .int ln, .int at_, .int wl, .ref aR, .int rm, .int ga, .int fi, .int se, .int ex, .long ha])), (aS, .inl (cI, 96, .inl S))]) (vp_Si (fun r_ => r_ = (sHf (gW S 3) (gW S 4) r))) 0 0 (fun _ => False) := by
  refine Met.ofW (cc := cX6_heft) (maxL := 2) (ret := (some .int)) (by decide) rfl ?_
  intro p e s m args below meth c s₁ B hml hv
  obtain ⟨rfl, hP, hK⟩ := hv
  have hx := B.exec
  have hb := B.bytes
  have hr := B.returns
  have hts := atoms_spec (ws := wsX6_heft) B.pre
  have hown : s.vm.findClass RX6 = some m.cls := findClass_of_methodNamed B.named
  have hlocks := B.notSynchronized
  have hiX6 : ∀ w ∈ u_ws RX6 TX6 16, w ∈ wsX6_heft := by decide +kernel
  have hl := lv_entry ([.ref o, .int (nI r)]) (n := 2) (Nat.le_of_ble_eq_true rfl)
  rw [lg_entry_eq]
  generalize (lg_sl ([.ref o, .int (nI r)]) ++ List.replicate (2 - (lg_sl ([.ref o, .int (nI r)])).length) Slot.unset).toArray = ls at hl ⊢
  have hl : lv_has ls 2 [(0, .ref o), (1, .int (nI r))] := hl
  refine lv_iconst (v := (nI 2)) hx hb dX6_heft_0 (by decide) ?_
  refine lv_aload_n hx hb dX6_heft_1 rfl (lv_at hl 0 rfl) ?_
  refine lv_iload_n hx hb dX6_heft_2 rfl (lv_at hl 1 rfl) ?_
  refine lv_iconst (v := (nI 3)) hx hb dX6_heft_3 (by decide) ?_
  refine vp_callSi (W.runV (As := [.int (nI r), .int (nI 3)]) (rest := [.int (nI 2)]) ⟨hx, hb, hml, hown, hts⟩ (kX6_of l dC dI cI cV cW o th aS aA aV sm aB ln at_ wl aR rm ga fi se ex ha S r 3 (h1) (by omega)) (cwV 2 hts gX6_heft_X6_of rfl rfl rfl hdX6_of ⟨Nat.le_of_ble_eq_true rfl, Nat.le_of_ble_eq_true rfl⟩) (pR_V hK hP 0 4 rfl rfl rfl [0, 1] rfl) rfl rfl hl.1 rfl (lv_room (Nat.le_of_ble_eq_true rfl)) dX6_heft_4 ⟨Nat.zero_le _, Nat.zero_le _⟩) (fun r_4 hr_ => ?_)
  subst hr_
  refine lv_imul hx hb dX6_heft_7 ?_
  refine lv_aload_n hx hb dX6_heft_8 rfl (lv_at hl 0 rfl) ?_
  refine lv_iload_n hx hb dX6_heft_9 rfl (lv_at hl 1 rfl) ?_
  refine lv_iconst (v := (nI 4)) hx hb dX6_heft_10 (by decide) ?_
  refine vp_callSi (W.runV (As := [.int (nI r), .int (nI 4)]) (rest := [.int (2 * (gW S 3 r))]) ⟨hx, hb, hml, hown, hts⟩ (kX6_of l dC dI cI cV cW o th aS aA aV sm aB ln at_ wl aR rm ga fi se ex ha S r 4 (h1) (by omega)) (cwV 2 hts gX6_heft_X6_of rfl rfl rfl hdX6_of ⟨Nat.le_of_ble_eq_true rfl, Nat.le_of_ble_eq_true rfl⟩) (pR_V hK hP 0 4 rfl rfl rfl [0, 1] rfl) rfl rfl hl.1 rfl (lv_room (Nat.le_of_ble_eq_true rfl)) dX6_heft_11 ⟨Nat.zero_le _, Nat.zero_le _⟩) (fun r_11 hr_ => ?_)
  subst hr_
  refine lv_iadd hx hb dX6_heft_14 ?_
  exact W.iret (v := ((2 * (gW S 3 r)) + (gW S 4 r))) hx hb hr (fun t ht hW => ⟨_, rfl, (show ((2 * (gW S 3 r)) + (gW S 4 r)) = (sHf (gW S 3) (gW S 4) r) from by rfl), ht⟩) (fun q hq => absurd hq List.not_mem_nil) dX6_heft_15
set_option maxHeartbeats 4000000 in
set_option maxRecDepth 100000 in
theorem kX6_isMisplaced (l : Launch) (dC : Nat → ClassId) (dI : Nat → Nat → Nat) (cI cV cW : ClassId) (o : Nat) (th : Int32) (aS : Nat) (aA : Nat) (aV : Nat) (sm : Int32) (aB : Nat) (ln : Int32) (at_ : Int32) (wl : Int32) (aR : Nat) (rm : Int32) (ga : Int32) (fi : Int32) (se : Int32) (ex : Int32) (ha : Int64) (S : Nat → Int32) (r : Nat) (h1 : r < 16) : Met l yX6_isMisplaced wsX6_isMisplaced ({ frames := 1, cells := 0, slots := 0, locals := 22 }) (pR (dC, dI) (tyS cI cV cW) [.ref o, .int (nI r)] [(o, .inr (4, [.int th, .ref aS, .ref aA, .ref aV, .int sm, .ref aB, .int ln, .int at_, .int wl, .ref aR, .int rm, .int ga, .int fi, .int se, .int ex, .long ha])), (aS, .inl (cI, 96, .inl S))]) (vp_Si (fun r_ => r_ = (bI (sMis (gW S 1) (gW S 2) r)))) 0 0 (fun _ => False) := by
  refine Met.ofW (cc := cX6_isMisplaced) (maxL := 2) (ret := (some .boolean)) (by decide) rfl ?_
  intro p e s m args below meth c s₁ B hml hv
  obtain ⟨rfl, hP, hK⟩ := hv
  have hx := B.exec
  have hb := B.bytes
  have hr := B.returns
  have hts := atoms_spec (ws := wsX6_isMisplaced) B.pre
  have hown : s.vm.findClass RX6 = some m.cls := findClass_of_methodNamed B.named
  have hlocks := B.notSynchronized
  have hiX6 : ∀ w ∈ u_ws RX6 TX6 16, w ∈ wsX6_isMisplaced := by decide +kernel
  have hl := lv_entry ([.ref o, .int (nI r)]) (n := 2) (Nat.le_of_ble_eq_true rfl)
  rw [lg_entry_eq]
  generalize (lg_sl ([.ref o, .int (nI r)]) ++ List.replicate (2 - (lg_sl ([.ref o, .int (nI r)])).length) Slot.unset).toArray = ls at hl ⊢
  have hl : lv_has ls 2 [(0, .ref o), (1, .int (nI r))] := hl
  refine lv_aload_n hx hb dX6_isMisplaced_0 rfl (lv_at hl 0 rfl) ?_
  refine lv_iload_n hx hb dX6_isMisplaced_1 rfl (lv_at hl 1 rfl) ?_
  refine lv_iconst (v := (nI 1)) hx hb dX6_isMisplaced_2 (by decide) ?_
  refine vp_callSi (W.runV (As := [.int (nI r), .int (nI 1)]) (rest := []) ⟨hx, hb, hml, hown, hts⟩ (kX6_of l dC dI cI cV cW o th aS aA aV sm aB ln at_ wl aR rm ga fi se ex ha S r 1 (h1) (by omega)) (cwV 2 hts gX6_isMisplaced_X6_of rfl rfl rfl hdX6_of ⟨Nat.le_of_ble_eq_true rfl, Nat.le_of_ble_eq_true rfl⟩) (pR_V hK hP 0 4 rfl rfl rfl [0, 1] rfl) rfl rfl hl.1 rfl (lv_room (Nat.le_of_ble_eq_true rfl)) dX6_isMisplaced_3 ⟨Nat.zero_le _, Nat.zero_le _⟩) (fun r_3 hr_ => ?_)
  subst hr_
  refine lv_aload_n hx hb dX6_isMisplaced_6 rfl (lv_at hl 0 rfl) ?_
  refine lv_iload_n hx hb dX6_isMisplaced_7 rfl (lv_at hl 1 rfl) ?_
  refine lv_iconst (v := (nI 2)) hx hb dX6_isMisplaced_8 (by decide) ?_
  refine vp_callSi (W.runV (As := [.int (nI r), .int (nI 2)]) (rest := [.int (gW S 1 r)]) ⟨hx, hb, hml, hown, hts⟩ (kX6_of l dC dI cI cV cW o th aS aA aV sm aB ln at_ wl aR rm ga fi se ex ha S r 2 (h1) (by omega)) (cwV 2 hts gX6_isMisplaced_X6_of rfl rfl rfl hdX6_of ⟨Nat.le_of_ble_eq_true rfl, Nat.le_of_ble_eq_true rfl⟩) (pR_V hK hP 0 4 rfl rfl rfl [0, 1] rfl) rfl rfl hl.1 rfl (lv_room (Nat.le_of_ble_eq_true rfl)) dX6_isMisplaced_9 ⟨Nat.zero_le _, Nat.zero_le _⟩) (fun r_9 hr_ => ?_)
  subst hr_
  refine lv_icmp_eq (tgt := 19) hx hb dX6_isMisplaced_12 (by decide) (fun c_12 => ?_) (fun c_12 => ?_)
  · refine lv_iconst (v := (nI 0)) hx hb dX6_isMisplaced_19 (by decide) ?_
    exact W.zret (v := (bI false)) hx hb hr (nar_bI _) (fun t ht hW => ⟨_, rfl, (congrArg bI (show false = sMis (gW S 1) (gW S 2) r from by simp [sMis, *]; done)), ht⟩) (fun q hq => absurd hq List.not_mem_nil) dX6_isMisplaced_20
  · refine lv_iconst (v := (nI 1)) hx hb dX6_isMisplaced_15 (by decide) ?_
    refine lv_goto (tgt := 20) hx hb dX6_isMisplaced_16 (by decide) ?_
    exact W.zret (v := (bI true)) hx hb hr (nar_bI _) (fun t ht hW => ⟨_, rfl, (congrArg bI (show true = sMis (gW S 1) (gW S 2) r from by simp [sMis, *]; done)), ht⟩) (fun q hq => absurd hq List.not_mem_nil) dX6_isMisplaced_20
set_option maxHeartbeats 4000000 in
set_option maxRecDepth 100000 in
theorem kX6_taken (l : Launch) (dC : Nat → ClassId) (dI : Nat → Nat → Nat) (cI cV cW : ClassId) (o : Nat) (th : Int32) (aS : Nat) (aA : Nat) (aV : Nat) (sm : Int32) (aB : Nat) (ln : Int32) (at_ : Int32) (wl : Int32) (aR : Nat) (rm : Int32) (ga : Int32) (fi : Int32) (se : Int32) (ex : Int32) (ha : Int64) (S : Nat → Int32) (cn : Nat) (k : Int32) (hR : RO S cn) : Met l yX6_taken wsX6_taken ({ frames := 1, cells := 0, slots := 0, locals := 22 }) (pR (dC, dI) (tyS cI cV cW) [.ref o, .int k] [(o, .inr (4, [.int th, .ref aS, .ref aA, .ref aV, .int sm, .ref aB, .int ln, .int at_, .int wl, .ref aR, .int rm, .int ga, .int fi, .int se, .int ex, .long ha])), (aS, .inl (cI, 96, .inl S))]) (vp_Si (fun r_ => r_ = (sTk (gW S 1) (gW S 0) k cn))) 0 0 (fun _ => False) := by
  refine Met.ofW (cc := cX6_taken) (maxL := 4) (ret := (some .int)) (by decide) rfl ?_
  intro p e s m args below meth c s₁ B hml hv
  obtain ⟨rfl, hP, hK⟩ := hv
  have hx := B.exec
  have hb := B.bytes
  have hr := B.returns
  have hts := atoms_spec (ws := wsX6_taken) B.pre
  have hown : s.vm.findClass RX6 = some m.cls := findClass_of_methodNamed B.named
  have hlocks := B.notSynchronized
  have hf7 := hts (.fieldLink RX6 7 "VaultShelvesModel" "s" "[I") (by decide +kernel)
  have hiX6 : ∀ w ∈ u_ws RX6 TX6 16, w ∈ wsX6_taken := by decide +kernel
  have hl := lv_entry ([.ref o, .int k]) (n := 4) (Nat.le_of_ble_eq_true rfl)
  rw [lg_entry_eq]
  generalize (lg_sl ([.ref o, .int k]) ++ List.replicate (4 - (lg_sl ([.ref o, .int k])).length) Slot.unset).toArray = ls at hl ⊢
  have hl : lv_has ls 4 [(0, .ref o), (1, .int k)] := hl
  have hc := hR.2.1
  refine lv_iconst (v := (nI 0)) hx hb dX6_taken_0 (by decide) ?_
  refine lv_istore_n (lv' := [(2, .int (nI 0)), (0, .ref o), (1, .int k)]) hx hb dX6_taken_1 rfl hl (by decide) rfl (fun ls hl => ?_)
  refine lv_iconst (v := (nI 0)) hx hb dX6_taken_2 (by decide) ?_
  refine lv_istore_n (lv' := [(3, .int (nI 0)), (2, .int (nI 0)), (0, .ref o), (1, .int k)]) hx hb dX6_taken_3 rfl hl (by decide) rfl (fun ls hl => ?_)
  have el_i4_2 : (nI 0) = (sTk (gW S 1) (gW S 0) k 0) := rfl
  have hI0 : (fun (i : Nat) ls => (i ≤ cn) ∧ (lv_has ls 4 [(0, .ref o), (1, .int k), (2, .int (sTk (gW S 1) (gW S 0) k i)), (3, .int (nI i))])) 0 ls := ⟨by omega, lv_cg (lv_sub hl [2, 3, 1, 0] rfl) (show [(0, .ref o), (1, .int k), (2, .int (nI 0)), (3, .int (nI 0))] = ([(0, .ref o), (1, .int k), (2, .int (sTk (gW S 1) (gW S 0) k 0)), (3, .int (nI 0))] : List (Nat × Value)) from by rw [el_i4_2])⟩
  clear hl
  revert ls
  refine lp_ls (fun (i : Nat) ls => (i ≤ cn) ∧ (lv_has ls 4 [(0, .ref o), (1, .int k), (2, .int (sTk (gW S 1) (gW S 0) k i)), (3, .int (nI i))])) (fun (i : Nat) => cn - i) 0 (fun q_ ls hI ih4 => ?_)
  obtain ⟨i, rfl⟩ : ∃ z, z = q_ := ⟨_, rfl⟩
  obtain ⟨hi, hl⟩ := hI
  refine lv_iload_n hx hb dX6_taken_4 rfl (lv_at hl 3 rfl) ?_
  refine lv_aload_n hx hb dX6_taken_5 rfl (lv_at hl 0 rfl) ?_
  refine va_get (D := (dC, dI)) (ci := 4) (v := .ref aS) (C := RX6) (T := TX6) (N := 16) hx hb hts hiX6 hown hK hP 0 rfl rfl 1 (by decide) hf7 (fun _ h9 => h9) rfl dX6_taken_6 ?_
  refine lv_iconst (v := (nI 0)) hx hb dX6_taken_9 (by decide) ?_
  refine n_iald hx hb hK hP 1 0 rfl rfl (show 0 < 96 from by omega) (by decide) dX6_taken_10 ?_
  refine lv_cgi (show (S 0) = (nI cn) from hR.1) ?_
  refine n_icmp_ge (tgt := 43) hx hb dX6_taken_11 (by decide) (by omega) (by omega) (fun c_11 => ?_) (fun c_11 => ?_)
  · obtain rfl : i = cn := by omega
    refine lv_iload_n hx hb dX6_taken_43 rfl (lv_at hl 2 rfl) ?_
    exact W.iret (v := (sTk (gW S 1) (gW S 0) k i)) hx hb hr (fun t ht hW => ⟨_, rfl, (show (sTk (gW S 1) (gW S 0) k i) = (sTk (gW S 1) (gW S 0) k cn) from by rfl), ht⟩) (fun q hq => absurd hq List.not_mem_nil) dX6_taken_44
  · refine lv_iload_n hx hb dX6_taken_14 rfl (lv_at hl 2 rfl) ?_
    refine lv_aload_n hx hb dX6_taken_15 rfl (lv_at hl 0 rfl) ?_
    refine lv_iload_n hx hb dX6_taken_16 rfl (lv_at hl 3 rfl) ?_
    refine lv_iconst (v := (nI 1)) hx hb dX6_taken_17 (by decide) ?_
    refine vp_callSi (W.runV (As := [.int (nI i), .int (nI 1)]) (rest := [.int (sTk (gW S 1) (gW S 0) k i)]) ⟨hx, hb, hml, hown, hts⟩ (kX6_of l dC dI cI cV cW o th aS aA aV sm aB ln at_ wl aR rm ga fi se ex ha S i 1 (by omega) (by omega)) (cwV 2 hts gX6_taken_X6_of rfl rfl rfl hdX6_of ⟨Nat.le_of_ble_eq_true rfl, Nat.le_of_ble_eq_true rfl⟩) (pR_V hK hP 0 4 rfl rfl rfl [0, 1] rfl) rfl rfl hl.1 rfl (lv_room (Nat.le_of_ble_eq_true rfl)) dX6_taken_18 ⟨Nat.zero_le _, Nat.zero_le _⟩) (fun r_18 hr_ => ?_)
    subst hr_
    refine lv_iload_n hx hb dX6_taken_21 rfl (lv_at hl 1 rfl) ?_
    refine lv_icmp_ne (tgt := 34) hx hb dX6_taken_22 (by decide) (fun c_22 => ?_) (fun c_22 => ?_)
    · refine lv_iconst (v := (nI 0)) hx hb dX6_taken_34 (by decide) ?_
      refine lv_iadd hx hb dX6_taken_35 ?_
      refine lv_istore_n (lv' := [(2, .int ((sTk (gW S 1) (gW S 0) k i) + 0)), (0, .ref o), (1, .int k), (3, .int (nI i))]) hx hb dX6_taken_36 rfl hl (by decide) rfl (fun ls hl => ?_)
      refine lv_iinc (v := (nI (i + 1))) (lv' := [(3, .int (nI (i + 1))), (2, .int ((sTk (gW S 1) (gW S 0) k i) + 0)), (0, .ref o), (1, .int k)]) hx hb dX6_taken_37 hl (k := 3) rfl (n_inc _ 1) (by decide) rfl (fun ls hl => ?_)
      refine lv_goto (tgt := 4) hx hb dX6_taken_40 (by decide) ?_
      have el_b4_2_2 : ((sTk (gW S 1) (gW S 0) k i) + 0) = (sTk (gW S 1) (gW S 0) k (i + 1)) := by simp [sTk, *]
      exact ih4 (i + 1) ls ⟨by omega, lv_cg (lv_sub hl [2, 3, 1, 0] rfl) (show [(0, .ref o), (1, .int k), (2, .int ((sTk (gW S 1) (gW S 0) k i) + 0)), (3, .int (nI (i + 1)))] = ([(0, .ref o), (1, .int k), (2, .int (sTk (gW S 1) (gW S 0) k (i + 1))), (3, .int (nI (i + 1)))] : List (Nat × Value)) from by rw [el_b4_2_2])⟩ (by first | omega | (dsimp only; omega))
    · refine lv_aload_n hx hb dX6_taken_25 rfl (lv_at hl 0 rfl) ?_
      refine lv_iload_n hx hb dX6_taken_26 rfl (lv_at hl 3 rfl) ?_
      refine lv_iconst (v := (nI 0)) hx hb dX6_taken_27 (by decide) ?_
      refine vp_callSi (W.runV (As := [.int (nI i), .int (nI 0)]) (rest := [.int (sTk (gW S 1) (gW S 0) k i)]) ⟨hx, hb, hml, hown, hts⟩ (kX6_of l dC dI cI cV cW o th aS aA aV sm aB ln at_ wl aR rm ga fi se ex ha S i 0 (by omega) (by omega)) (cwV 2 hts gX6_taken_X6_of rfl rfl rfl hdX6_of ⟨Nat.le_of_ble_eq_true rfl, Nat.le_of_ble_eq_true rfl⟩) (pR_V hK hP 0 4 rfl rfl rfl [0, 1] rfl) rfl rfl hl.1 rfl (lv_room (Nat.le_of_ble_eq_true rfl)) dX6_taken_28 ⟨Nat.zero_le _, Nat.zero_le _⟩) (fun r_28 hr_ => ?_)
      subst hr_
      refine lv_goto (tgt := 35) hx hb dX6_taken_31 (by decide) ?_
      refine lv_iadd hx hb dX6_taken_35 ?_
      refine lv_istore_n (lv' := [(2, .int ((sTk (gW S 1) (gW S 0) k i) + (gW S 0 i))), (0, .ref o), (1, .int k), (3, .int (nI i))]) hx hb dX6_taken_36 rfl hl (by decide) rfl (fun ls hl => ?_)
      refine lv_iinc (v := (nI (i + 1))) (lv' := [(3, .int (nI (i + 1))), (2, .int ((sTk (gW S 1) (gW S 0) k i) + (gW S 0 i))), (0, .ref o), (1, .int k)]) hx hb dX6_taken_37 hl (k := 3) rfl (n_inc _ 1) (by decide) rfl (fun ls hl => ?_)
      refine lv_goto (tgt := 4) hx hb dX6_taken_40 (by decide) ?_
      have el_b4_3_2 : ((sTk (gW S 1) (gW S 0) k i) + (gW S 0 i)) = (sTk (gW S 1) (gW S 0) k (i + 1)) := by simp [sTk, *]
      exact ih4 (i + 1) ls ⟨by omega, lv_cg (lv_sub hl [2, 3, 1, 0] rfl) (show [(0, .ref o), (1, .int k), (2, .int ((sTk (gW S 1) (gW S 0) k i) + (gW S 0 i))), (3, .int (nI (i + 1)))] = ([(0, .ref o), (1, .int k), (2, .int (sTk (gW S 1) (gW S 0) k (i + 1))), (3, .int (nI (i + 1)))] : List (Nat × Value)) from by rw [el_b4_3_2])⟩ (by first | omega | (dsimp only; omega))
theorem hdX6_taken : yX6_taken.cls = RX6 ∧ yX6_taken.cls ≠ "java/lang/invoke/MethodHandle" ∧ yX6_taken.cls ≠ "java/lang/invoke/VarHandle" ∧ (parseMethodDescriptor yX6_taken.desc).map (fun d => d.parameters.length) = some 1 := by decide +kernel
set_option maxHeartbeats 4000000 in
set_option maxRecDepth 100000 in
theorem kX6_room (l : Launch) (dC : Nat → ClassId) (dI : Nat → Nat → Nat) (cI cV cW : ClassId) (o : Nat) (th : Int32) (aS : Nat) (aA : Nat) (aV : Nat) (sm : Int32) (aB : Nat) (ln : Int32) (at_ : Int32) (wl : Int32) (aR : Nat) (rm : Int32) (ga : Int32) (fi : Int32) (se : Int32) (ex : Int32) (ha : Int64) (S : Nat → Int32) (cn : Nat) (k : Nat) (hR : RO S cn) (hk : k < 6) : Met l yX6_room wsX6_room ({ frames := 2, cells := 0, slots := 0, locals := 45 }) (pR (dC, dI) (tyS cI cV cW) [.ref o, .int (nI k)] [(o, .inr (4, [.int th, .ref aS, .ref aA, .ref aV, .int sm, .ref aB, .int ln, .int at_, .int wl, .ref aR, .int rm, .int ga, .int fi, .int se, .int ex, .long ha])), (aS, .inl (cI, 96, .inl S))]) (vp_Si (fun r_ => r_ = (S (3 + k) - sTk (gW S 1) (gW S 0) (nI k) cn))) 0 0 (fun _ => False) := by
  refine Met.ofW (cc := cX6_room) (maxL := 2) (ret := (some .int)) (by decide) rfl ?_
  intro p e s m args below meth c s₁ B hml hv
  obtain ⟨rfl, hP, hK⟩ := hv
  have hx := B.exec
  have hb := B.bytes
  have hr := B.returns
  have hts := atoms_spec (ws := wsX6_room) B.pre
  have hown : s.vm.findClass RX6 = some m.cls := findClass_of_methodNamed B.named
  have hlocks := B.notSynchronized
  have hf7 := hts (.fieldLink RX6 7 "VaultShelvesModel" "s" "[I") (by decide +kernel)
  have hiX6 : ∀ w ∈ u_ws RX6 TX6 16, w ∈ wsX6_room := by decide +kernel
  have hl := lv_entry ([.ref o, .int (nI k)]) (n := 2) (Nat.le_of_ble_eq_true rfl)
  rw [lg_entry_eq]
  generalize (lg_sl ([.ref o, .int (nI k)]) ++ List.replicate (2 - (lg_sl ([.ref o, .int (nI k)])).length) Slot.unset).toArray = ls at hl ⊢
  have hl : lv_has ls 2 [(0, .ref o), (1, .int (nI k))] := hl
  refine lv_aload_n hx hb dX6_room_0 rfl (lv_at hl 0 rfl) ?_
  refine va_get (D := (dC, dI)) (ci := 4) (v := .ref aS) (C := RX6) (T := TX6) (N := 16) hx hb hts hiX6 hown hK hP 0 rfl rfl 1 (by decide) hf7 (fun _ h9 => h9) rfl dX6_room_1 ?_
  refine lv_iconst (v := (nI 3)) hx hb dX6_room_4 (by decide) ?_
  refine lv_iload_n hx hb dX6_room_5 rfl (lv_at hl 1 rfl) ?_
  refine n_iadd hx hb dX6_room_6 ?_
  refine n_iald hx hb hK hP 1 0 rfl rfl (show 3 + k < 96 from by omega) (by decide) dX6_room_7 ?_
  refine lv_aload_n hx hb dX6_room_8 rfl (lv_at hl 0 rfl) ?_
  refine lv_iload_n hx hb dX6_room_9 rfl (lv_at hl 1 rfl) ?_
  refine vp_callSi (W.runV (As := [.int (nI k)]) (rest := [.int (S (3 + k))]) ⟨hx, hb, hml, hown, hts⟩ (kX6_taken l dC dI cI cV cW o th aS aA aV sm aB ln at_ wl aR rm ga fi se ex ha S cn (nI k) (hR)) (cwV 1 hts gX6_room_X6_taken rfl rfl rfl hdX6_taken ⟨Nat.le_of_ble_eq_true rfl, Nat.le_of_ble_eq_true rfl⟩) (pR_V hK hP 0 4 rfl rfl rfl [0, 1] rfl) rfl rfl hl.1 rfl (lv_room (Nat.le_of_ble_eq_true rfl)) dX6_room_10 ⟨Nat.zero_le _, Nat.zero_le _⟩) (fun r_10 hr_ => ?_)
  subst hr_
  refine lv_isub hx hb dX6_room_13 ?_
  exact W.iret (v := ((S (3 + k)) - (sTk (gW S 1) (gW S 0) (nI k) cn))) hx hb hr (fun t ht hW => ⟨_, rfl, rfl, ht⟩) (fun q hq => absurd hq List.not_mem_nil) dX6_room_14
