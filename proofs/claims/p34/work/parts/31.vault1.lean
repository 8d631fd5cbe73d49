set_option maxHeartbeats 4000000 in
set_option maxRecDepth 100000 in
theorem kX3_hasRecord (l : Launch) (dC : Nat → ClassId) (dI : Nat → Nat → Nat) (cI cV cW : ClassId) (h : Nat) (vR : Nat) (vQ : Nat) (vF : Nat) (vW : Nat) (vP : Nat) (vH : Nat) (vN : Nat) (vO : Nat) (cn : Nat) (wk : Int32) (sc : Int32) (x : Int32) (hc : cn ≤ 16) : Met l yX3_hasRecord wsX3_hasRecord ({ frames := 0, cells := 0, slots := 0, locals := 0 }) (pR (dC, dI) (tyS cI cV cW) [.ref h, .int x] [(h, .inr (2, [.ref vR, .ref vQ, .ref vF, .ref vW, .ref vP, .ref vH, .ref vN, .ref vO, .int (nI cn), .int wk, .int sc]))]) (vp_Si (fun r_ => r_ = (bI (sHas x cn)))) 0 0 (fun _ => False) := by
  refine Met.ofW (cc := cX3_hasRecord) (maxL := 2) (ret := (some .boolean)) (by decide) rfl ?_
  intro p e s m args below meth c s₁ B hml hv
  obtain ⟨rfl, hP, hK⟩ := hv
  have hx := B.exec
  have hb := B.bytes
  have hr := B.returns
  have hts := atoms_spec (ws := wsX3_hasRecord) B.pre
  have hown : s.vm.findClass RX3 = some m.cls := findClass_of_methodNamed B.named
  have hlocks := B.notSynchronized
  have hf42 := hts (.fieldLink RX3 42 "VaultShelves$Vault" "count" "I") (by decide +kernel)
  have hiX3 : ∀ w ∈ u_ws RX3 TX3 11, w ∈ wsX3_hasRecord := by decide +kernel
  have hl := lv_entry ([.ref h, .int x]) (n := 2) (Nat.le_of_ble_eq_true rfl)
  rw [lg_entry_eq]
  generalize (lg_sl ([.ref h, .int x]) ++ List.replicate (2 - (lg_sl ([.ref h, .int x])).length) Slot.unset).toArray = ls at hl ⊢
  replace hl : lv_has ls 2 [(0, .ref h), (1, .int x)] := hl
  refine lv_iload_n hx hb dX3_hasRecord_0 rfl (lv_at hl 1 rfl) ?_
  refine lv_if_lt (tgt := 16) hx hb dX3_hasRecord_1 (by decide) (fun c_1 => ?_) (fun c_1 => ?_)
  · refine lv_iconst (v := (nI 0)) hx hb dX3_hasRecord_16 (by decide) ?_
    exact W.zret (v := (bI false)) hx hb hr (nar_bI _) (fun t ht hW => ⟨_, rfl, (congrArg bI (show false = (sHas x cn) from by first | rfl | (simp [sHas, c_1, Int32.not_le.mpr c_1]))), ht⟩) (fun q hq => absurd hq List.not_mem_nil) dX3_hasRecord_17
  · refine lv_iload_n hx hb dX3_hasRecord_4 rfl (lv_at hl 1 rfl) ?_
    refine lv_aload_n hx hb dX3_hasRecord_5 rfl (lv_at hl 0 rfl) ?_
    refine va_get (D := (dC, dI)) (ci := 2) (v := .int (nI cn)) (C := RX3) (T := TX3) (N := 11) hx hb hts hiX3 hown hK hP 0 rfl rfl 8 (by decide) hf42 (fun _ h9 => h9) rfl dX3_hasRecord_6 ?_
    refine lv_icmp_ge (tgt := 16) hx hb dX3_hasRecord_9 (by decide) (fun c_9 => ?_) (fun c_9 => ?_)
    · refine lv_iconst (v := (nI 0)) hx hb dX3_hasRecord_16 (by decide) ?_
      exact W.zret (v := (bI false)) hx hb hr (nar_bI _) (fun t ht hW => ⟨_, rfl, (congrArg bI (show false = (sHas x cn) from by first | rfl | (simp [sHas, c_1, Int32.not_lt.mp c_1, c_9, Int32.not_lt.mpr c_9]))), ht⟩) (fun q hq => absurd hq List.not_mem_nil) dX3_hasRecord_17
    · refine lv_iconst (v := (nI 1)) hx hb dX3_hasRecord_12 (by decide) ?_
      refine lv_goto (tgt := 17) hx hb dX3_hasRecord_13 (by decide) ?_
      exact W.zret (v := (bI true)) hx hb hr (nar_bI _) (fun t ht hW => ⟨_, rfl, (congrArg bI (show true = (sHas x cn) from by first | rfl | (simp [sHas, c_1, Int32.not_lt.mp c_1, c_9, Int32.not_le.mp c_9]))), ht⟩) (fun q hq => absurd hq List.not_mem_nil) dX3_hasRecord_17
set_option maxHeartbeats 4000000 in
set_option maxRecDepth 100000 in
theorem kX3_freeRoom (l : Launch) (dC : Nat → ClassId) (dI : Nat → Nat → Nat) (cI cV cW : ClassId) (h : Nat) (vR : Nat) (vQ : Nat) (vF : Nat) (vW : Nat) (vP : Nat) (vH : Nat) (vN : Nat) (vO : Nat) (cn : Nat) (wk : Int32) (sc : Int32) (R : Nat → Int32) (F : Nat → Int32) (k : Nat) (hk : k < 6) : Met l yX3_freeRoom wsX3_freeRoom ({ frames := 0, cells := 0, slots := 0, locals := 0 }) (pR (dC, dI) (tyS cI cV cW) [.ref h, .int (nI k)] [(h, .inr (2, [.ref vR, .ref vQ, .ref vF, .ref vW, .ref vP, .ref vH, .ref vN, .ref vO, .int (nI cn), .int wk, .int sc])), (vR, .inl (cI, 6, .inl R)), (vF, .inl (cI, 6, .inl F))]) (vp_Si (fun r_ => r_ = (R k - F k))) 0 0 (fun _ => False) := by
  refine Met.ofW (cc := cX3_freeRoom) (maxL := 2) (ret := (some .int)) (by decide) rfl ?_
  intro p e s m args below meth c s₁ B hml hv
  obtain ⟨rfl, hP, hK⟩ := hv
  have hx := B.exec
  have hb := B.bytes
  have hr := B.returns
  have hts := atoms_spec (ws := wsX3_freeRoom) B.pre
  have hown : s.vm.findClass RX3 = some m.cls := findClass_of_methodNamed B.named
  have hlocks := B.notSynchronized
  have hf9 := hts (.fieldLink RX3 9 "VaultShelves$Vault" "rooms" "[I") (by decide +kernel)
  have hf18 := hts (.fieldLink RX3 18 "VaultShelves$Vault" "filled" "[I") (by decide +kernel)
  have hiX3 : ∀ w ∈ u_ws RX3 TX3 11, w ∈ wsX3_freeRoom := by decide +kernel
  have hl := lv_entry ([.ref h, .int (nI k)]) (n := 2) (Nat.le_of_ble_eq_true rfl)
  rw [lg_entry_eq]
  generalize (lg_sl ([.ref h, .int (nI k)]) ++ List.replicate (2 - (lg_sl ([.ref h, .int (nI k)])).length) Slot.unset).toArray = ls at hl ⊢
  replace hl : lv_has ls 2 [(0, .ref h), (1, .int (nI k))] := hl
  refine lv_aload_n hx hb dX3_freeRoom_0 rfl (lv_at hl 0 rfl) ?_
  refine va_get (D := (dC, dI)) (ci := 2) (v := .ref vR) (C := RX3) (T := TX3) (N := 11) hx hb hts hiX3 hown hK hP 0 rfl rfl 0 (by decide) hf9 (fun _ h9 => h9) rfl dX3_freeRoom_1 ?_
  refine lv_iload_n hx hb dX3_freeRoom_4 rfl (lv_at hl 1 rfl) ?_
  refine n_iald hx hb hK hP 1 0 rfl rfl (show k < 6 from by omega) (by decide) dX3_freeRoom_5 ?_
  refine lv_aload_n hx hb dX3_freeRoom_6 rfl (lv_at hl 0 rfl) ?_
  refine va_get (D := (dC, dI)) (ci := 2) (v := .ref vF) (C := RX3) (T := TX3) (N := 11) hx hb hts hiX3 hown hK hP 0 rfl rfl 2 (by decide) hf18 (fun _ h9 => h9) rfl dX3_freeRoom_7 ?_
  refine lv_iload_n hx hb dX3_freeRoom_10 rfl (lv_at hl 1 rfl) ?_
  refine n_iald hx hb hK hP 2 0 rfl rfl (show k < 6 from by omega) (by decide) dX3_freeRoom_11 ?_
  refine lv_isub hx hb dX3_freeRoom_12 ?_
  exact W.iret (v := ((R k) - (F k))) hx hb hr (fun t ht hW => ⟨_, rfl, (show ((R k) - (F k)) = (R k - F k) from by rfl), ht⟩) (fun q hq => absurd hq List.not_mem_nil) dX3_freeRoom_13
set_option maxHeartbeats 4000000 in
set_option maxRecDepth 100000 in
theorem kX3_weightOf (l : Launch) (dC : Nat → ClassId) (dI : Nat → Nat → Nat) (cI cV cW : ClassId) (h : Nat) (vR : Nat) (vQ : Nat) (vF : Nat) (vW : Nat) (vP : Nat) (vH : Nat) (vN : Nat) (vO : Nat) (cn : Nat) (wk : Int32) (sc : Int32) (N : Nat → Int32) (O : Nat → Int32) (r : Nat) (hr_0 : r < 16) : Met l yX3_weightOf wsX3_weightOf ({ frames := 0, cells := 0, slots := 0, locals := 0 }) (pR (dC, dI) (tyS cI cV cW) [.ref h, .int (nI r)] [(h, .inr (2, [.ref vR, .ref vQ, .ref vF, .ref vW, .ref vP, .ref vH, .ref vN, .ref vO, .int (nI cn), .int wk, .int sc])), (vN, .inl (cI, 16, .inl N)), (vO, .inl (cI, 16, .inl O))]) (vp_Si (fun r_ => r_ = (sHf N O r))) 0 0 (fun _ => False) := by
  refine Met.ofW (cc := cX3_weightOf) (maxL := 2) (ret := (some .int)) (by decide) rfl ?_
  intro p e s m args below meth c s₁ B hml hv
  obtain ⟨rfl, hP, hK⟩ := hv
  have hx := B.exec
  have hb := B.bytes
  have hr := B.returns
  have hts := atoms_spec (ws := wsX3_weightOf) B.pre
  have hown : s.vm.findClass RX3 = some m.cls := findClass_of_methodNamed B.named
  have hlocks := B.notSynchronized
  have hf30 := hts (.fieldLink RX3 30 "VaultShelves$Vault" "newCalls" "[I") (by decide +kernel)
  have hf33 := hts (.fieldLink RX3 33 "VaultShelves$Vault" "oldCalls" "[I") (by decide +kernel)
  have hiX3 : ∀ w ∈ u_ws RX3 TX3 11, w ∈ wsX3_weightOf := by decide +kernel
  have hl := lv_entry ([.ref h, .int (nI r)]) (n := 2) (Nat.le_of_ble_eq_true rfl)
  rw [lg_entry_eq]
  generalize (lg_sl ([.ref h, .int (nI r)]) ++ List.replicate (2 - (lg_sl ([.ref h, .int (nI r)])).length) Slot.unset).toArray = ls at hl ⊢
  replace hl : lv_has ls 2 [(0, .ref h), (1, .int (nI r))] := hl
  refine lv_iconst (v := (nI 2)) hx hb dX3_weightOf_0 (by decide) ?_
  refine lv_aload_n hx hb dX3_weightOf_1 rfl (lv_at hl 0 rfl) ?_
  refine va_get (D := (dC, dI)) (ci := 2) (v := .ref vN) (C := RX3) (T := TX3) (N := 11) hx hb hts hiX3 hown hK hP 0 rfl rfl 6 (by decide) hf30 (fun _ h9 => h9) rfl dX3_weightOf_2 ?_
  refine lv_iload_n hx hb dX3_weightOf_5 rfl (lv_at hl 1 rfl) ?_
  refine n_iald hx hb hK hP 1 0 rfl rfl (show r < 16 from by omega) (by decide) dX3_weightOf_6 ?_
  refine lv_imul hx hb dX3_weightOf_7 ?_
  refine lv_aload_n hx hb dX3_weightOf_8 rfl (lv_at hl 0 rfl) ?_
  refine va_get (D := (dC, dI)) (ci := 2) (v := .ref vO) (C := RX3) (T := TX3) (N := 11) hx hb hts hiX3 hown hK hP 0 rfl rfl 7 (by decide) hf33 (fun _ h9 => h9) rfl dX3_weightOf_9 ?_
  refine lv_iload_n hx hb dX3_weightOf_12 rfl (lv_at hl 1 rfl) ?_
  refine n_iald hx hb hK hP 2 0 rfl rfl (show r < 16 from by omega) (by decide) dX3_weightOf_13 ?_
  refine lv_iadd hx hb dX3_weightOf_14 ?_
  exact W.iret (v := ((2 * (N r)) + (O r))) hx hb hr (fun t ht hW => ⟨_, rfl, (show ((2 * (N r)) + (O r)) = (sHf N O r) from by rfl), ht⟩) (fun q hq => absurd hq List.not_mem_nil) dX3_weightOf_15
set_option maxHeartbeats 4000000 in
set_option maxRecDepth 100000 in
theorem kX3_isMisplaced (l : Launch) (dC : Nat → ClassId) (dI : Nat → Nat → Nat) (cI cV cW : ClassId) (h : Nat) (vR : Nat) (vQ : Nat) (vF : Nat) (vW : Nat) (vP : Nat) (vH : Nat) (vN : Nat) (vO : Nat) (cn : Nat) (wk : Int32) (sc : Int32) (P : Nat → Int32) (Hm : Nat → Int32) (r : Nat) (hr_0 : r < 16) : Met l yX3_isMisplaced wsX3_isMisplaced ({ frames := 0, cells := 0, slots := 0, locals := 0 }) (pR (dC, dI) (tyS cI cV cW) [.ref h, .int (nI r)] [(h, .inr (2, [.ref vR, .ref vQ, .ref vF, .ref vW, .ref vP, .ref vH, .ref vN, .ref vO, .int (nI cn), .int wk, .int sc])), (vP, .inl (cI, 16, .inl P)), (vH, .inl (cI, 16, .inl Hm))]) (vp_Si (fun r_ => r_ = (bI (sMis P Hm r)))) 0 0 (fun _ => False) := by
  refine Met.ofW (cc := cX3_isMisplaced) (maxL := 2) (ret := (some .boolean)) (by decide) rfl ?_
  intro p e s m args below meth c s₁ B hml hv
  obtain ⟨rfl, hP, hK⟩ := hv
  have hx := B.exec
  have hb := B.bytes
  have hr := B.returns
  have hts := atoms_spec (ws := wsX3_isMisplaced) B.pre
  have hown : s.vm.findClass RX3 = some m.cls := findClass_of_methodNamed B.named
  have hlocks := B.notSynchronized
  have hf24 := hts (.fieldLink RX3 24 "VaultShelves$Vault" "places" "[I") (by decide +kernel)
  have hf27 := hts (.fieldLink RX3 27 "VaultShelves$Vault" "homes" "[I") (by decide +kernel)
  have hiX3 : ∀ w ∈ u_ws RX3 TX3 11, w ∈ wsX3_isMisplaced := by decide +kernel
  have hl := lv_entry ([.ref h, .int (nI r)]) (n := 2) (Nat.le_of_ble_eq_true rfl)
  rw [lg_entry_eq]
  generalize (lg_sl ([.ref h, .int (nI r)]) ++ List.replicate (2 - (lg_sl ([.ref h, .int (nI r)])).length) Slot.unset).toArray = ls at hl ⊢
  replace hl : lv_has ls 2 [(0, .ref h), (1, .int (nI r))] := hl
  refine lv_aload_n hx hb dX3_isMisplaced_0 rfl (lv_at hl 0 rfl) ?_
  refine va_get (D := (dC, dI)) (ci := 2) (v := .ref vP) (C := RX3) (T := TX3) (N := 11) hx hb hts hiX3 hown hK hP 0 rfl rfl 4 (by decide) hf24 (fun _ h9 => h9) rfl dX3_isMisplaced_1 ?_
  refine lv_iload_n hx hb dX3_isMisplaced_4 rfl (lv_at hl 1 rfl) ?_
  refine n_iald hx hb hK hP 1 0 rfl rfl (show r < 16 from by omega) (by decide) dX3_isMisplaced_5 ?_
  refine lv_aload_n hx hb dX3_isMisplaced_6 rfl (lv_at hl 0 rfl) ?_
  refine va_get (D := (dC, dI)) (ci := 2) (v := .ref vH) (C := RX3) (T := TX3) (N := 11) hx hb hts hiX3 hown hK hP 0 rfl rfl 5 (by decide) hf27 (fun _ h9 => h9) rfl dX3_isMisplaced_7 ?_
  refine lv_iload_n hx hb dX3_isMisplaced_10 rfl (lv_at hl 1 rfl) ?_
  refine n_iald hx hb hK hP 2 0 rfl rfl (show r < 16 from by omega) (by decide) dX3_isMisplaced_11 ?_
  refine lv_icmp_eq (tgt := 19) hx hb dX3_isMisplaced_12 (by decide) (fun c_12 => ?_) (fun c_12 => ?_)
  · refine lv_iconst (v := (nI 0)) hx hb dX3_isMisplaced_19 (by decide) ?_
    exact W.zret (v := (bI false)) hx hb hr (nar_bI _) (fun t ht hW => ⟨_, rfl, (congrArg bI (show false = (sMis P Hm r) from by first | rfl | (simp [sMis, c_12]))), ht⟩) (fun q hq => absurd hq List.not_mem_nil) dX3_isMisplaced_20
  · refine lv_iconst (v := (nI 1)) hx hb dX3_isMisplaced_15 (by decide) ?_
    refine lv_goto (tgt := 20) hx hb dX3_isMisplaced_16 (by decide) ?_
    exact W.zret (v := (bI true)) hx hb hr (nar_bI _) (fun t ht hW => ⟨_, rfl, (congrArg bI (show true = (sMis P Hm r) from by first | rfl | (simp [sMis, c_12]))), ht⟩) (fun q hq => absurd hq List.not_mem_nil) dX3_isMisplaced_20
theorem hdX3_isMisplaced : yX3_isMisplaced.cls = RX3 ∧ yX3_isMisplaced.cls ≠ "java/lang/invoke/MethodHandle" ∧ yX3_isMisplaced.cls ≠ "java/lang/invoke/VarHandle" ∧ (parseMethodDescriptor yX3_isMisplaced.desc).map (fun d => d.parameters.length) = some 1 := by decide +kernel
set_option maxHeartbeats 4000000 in
set_option maxRecDepth 100000 in
theorem kX3_countMisplaced (l : Launch) (dC : Nat → ClassId) (dI : Nat → Nat → Nat) (cI cV cW : ClassId) (h : Nat) (vR : Nat) (vQ : Nat) (vF : Nat) (vW : Nat) (vP : Nat) (vH : Nat) (vN : Nat) (vO : Nat) (cn : Nat) (wk : Int32) (sc : Int32) (P : Nat → Int32) (Hm : Nat → Int32) (hc : cn ≤ 16) : Met l yX3_countMisplaced wsX3_countMisplaced ({ frames := 1, cells := 0, slots := 0, locals := 21 }) (pR (dC, dI) (tyS cI cV cW) [.ref h] [(h, .inr (2, [.ref vR, .ref vQ, .ref vF, .ref vW, .ref vP, .ref vH, .ref vN, .ref vO, .int (nI cn), .int wk, .int sc])), (vP, .inl (cI, 16, .inl P)), (vH, .inl (cI, 16, .inl Hm))]) (vp_Si (fun r_ => r_ = (cMm P Hm cn))) 0 0 (fun _ => False) := by
  refine Met.ofW (cc := cX3_countMisplaced) (maxL := 3) (ret := (some .int)) (by decide) rfl ?_
  intro p e s m args below meth c s₁ B hml hv
  obtain ⟨rfl, hP, hK⟩ := hv
  have hx := B.exec
  have hb := B.bytes
  have hr := B.returns
  have hts := atoms_spec (ws := wsX3_countMisplaced) B.pre
  have hown : s.vm.findClass RX3 = some m.cls := findClass_of_methodNamed B.named
  have hlocks := B.notSynchronized
  have hf42 := hts (.fieldLink RX3 42 "VaultShelves$Vault" "count" "I") (by decide +kernel)
  have hiX3 : ∀ w ∈ u_ws RX3 TX3 11, w ∈ wsX3_countMisplaced := by decide +kernel
  have hl := lv_entry ([.ref h]) (n := 3) (Nat.le_of_ble_eq_true rfl)
  rw [lg_entry_eq]
  generalize (lg_sl ([.ref h]) ++ List.replicate (3 - (lg_sl ([.ref h])).length) Slot.unset).toArray = ls at hl ⊢
  replace hl : lv_has ls 3 [(0, .ref h)] := hl
  refine lv_iconst (v := (nI 0)) hx hb dX3_countMisplaced_0 (by decide) ?_
  refine lv_istore_n (lv' := [(1, .int (nI 0)), (0, .ref h)]) hx hb dX3_countMisplaced_1 rfl hl (by decide) rfl (fun ls hl => ?_)
  refine lv_iconst (v := (nI 0)) hx hb dX3_countMisplaced_2 (by decide) ?_
  refine lv_istore_n (lv' := [(2, .int (nI 0)), (1, .int (nI 0)), (0, .ref h)]) hx hb dX3_countMisplaced_3 rfl hl (by decide) rfl (fun ls hl => ?_)
  have el_i4_1 : (nI 0) = (cMm P Hm 0) := by rfl
  have hI0 : (fun (i : Nat) ls => (i ≤ cn) ∧ (lv_has ls 3 [(0, .ref h), (1, .int (cMm P Hm i)), (2, .int (nI i))])) 0 ls := ⟨by omega, lv_cg (lv_sub hl [2, 1, 0] rfl) (congrArg (fun z_ => ([(0, .ref h), (1, .int z_), (2, .int (nI 0))] : List (Nat × Value))) el_i4_1)⟩
  clear hl
  revert ls
  refine lp_ls (fun (i : Nat) ls => (i ≤ cn) ∧ (lv_has ls 3 [(0, .ref h), (1, .int (cMm P Hm i)), (2, .int (nI i))])) (fun (i : Nat) => cn - i) 0 (fun q_ ls hI ih4 => ?_)
  obtain ⟨i, rfl⟩ : ∃ z, z = q_ := ⟨_, rfl⟩
  obtain ⟨hi, hl⟩ := hI
  refine lv_iload_n hx hb dX3_countMisplaced_4 rfl (lv_at hl 2 rfl) ?_
  refine lv_aload_n hx hb dX3_countMisplaced_5 rfl (lv_at hl 0 rfl) ?_
  refine va_get (D := (dC, dI)) (ci := 2) (v := .int (nI cn)) (C := RX3) (T := TX3) (N := 11) hx hb hts hiX3 hown hK hP 0 rfl rfl 8 (by decide) hf42 (fun _ h9 => h9) rfl dX3_countMisplaced_6 ?_
  refine n_icmp_ge (tgt := 29) hx hb dX3_countMisplaced_9 (by decide) (by omega) (by omega) (fun c_9 => ?_) (fun c_9 => ?_)
  · obtain rfl : cn = i := by omega
    refine lv_iload_n hx hb dX3_countMisplaced_29 rfl (lv_at hl 1 rfl) ?_
    exact W.iret (v := (cMm P Hm cn)) hx hb hr (fun t ht hW => ⟨_, rfl, rfl, ht⟩) (fun q hq => absurd hq List.not_mem_nil) dX3_countMisplaced_30
  · refine lv_aload_n hx hb dX3_countMisplaced_12 rfl (lv_at hl 0 rfl) ?_
    refine lv_iload_n hx hb dX3_countMisplaced_13 rfl (lv_at hl 2 rfl) ?_
    refine vp_callSi (W.runV (As := [.int (nI i)]) (rest := []) ⟨hx, hb, hml, hown, hts⟩ (kX3_isMisplaced l dC dI cI cV cW h vR vQ vF vW vP vH vN vO cn wk sc P Hm i (by omega)) (cwV 1 hts gX3_countMisplaced_X3_isMisplaced rfl rfl rfl hdX3_isMisplaced ⟨Nat.le_of_ble_eq_true rfl, Nat.le_of_ble_eq_true rfl⟩) (pR_V hK hP 0 2 rfl rfl rfl [0, 1, 2] rfl) rfl rfl hl.1 rfl (lv_room (Nat.le_of_ble_eq_true rfl)) dX3_countMisplaced_14 ⟨Nat.zero_le _, Nat.zero_le _⟩) (fun r_14 hr_ => ?_)
    subst hr_
    refine b_if_eq (tgt := 23) hx hb dX3_countMisplaced_17 (by decide) (fun c_17 => ?_) (fun c_17 => ?_)
    · refine lv_iinc (v := (nI (i + 1))) (lv' := [(2, .int (nI (i + 1))), (0, .ref h), (1, .int (cMm P Hm i))]) hx hb dX3_countMisplaced_23 hl (k := 2) rfl (n_inc _ 1) (by decide) rfl (fun ls hl => ?_)
      refine lv_goto (tgt := 4) hx hb dX3_countMisplaced_26 (by decide) ?_
      have el_b4_2_1 : (cMm P Hm i) = (cMm P Hm (i + 1)) := by first | rfl | (simp [cMm, c_9, Nat.not_le.mpr c_9, c_17])
      exact ih4 (i + 1) ls ⟨by omega, lv_cg (lv_sub hl [1, 2, 0] rfl) (congrArg (fun z_ => ([(0, .ref h), (1, .int z_), (2, .int (nI (i + 1)))] : List (Nat × Value))) el_b4_2_1)⟩ (by first | omega | (dsimp only; omega))
    · refine lv_iinc (v := ((cMm P Hm i) + 1)) (lv' := [(1, .int ((cMm P Hm i) + 1)), (0, .ref h), (2, .int (nI i))]) hx hb dX3_countMisplaced_20 hl (k := 1) rfl (rfl) (by decide) rfl (fun ls hl => ?_)
      refine lv_iinc (v := (nI (i + 1))) (lv' := [(2, .int (nI (i + 1))), (1, .int ((cMm P Hm i) + 1)), (0, .ref h)]) hx hb dX3_countMisplaced_23 hl (k := 2) rfl (n_inc _ 1) (by decide) rfl (fun ls hl => ?_)
      refine lv_goto (tgt := 4) hx hb dX3_countMisplaced_26 (by decide) ?_
      have el_b4_3_1 : ((cMm P Hm i) + 1) = (cMm P Hm (i + 1)) := by first | rfl | (simp [cMm, c_9, Nat.not_le.mpr c_9, c_17])
      exact ih4 (i + 1) ls ⟨by omega, lv_cg (lv_sub hl [2, 1, 0] rfl) (congrArg (fun z_ => ([(0, .ref h), (1, .int z_), (2, .int (nI (i + 1)))] : List (Nat × Value))) el_b4_3_1)⟩ (by first | omega | (dsimp only; omega))
theorem hdX3_weightOf : yX3_weightOf.cls = RX3 ∧ yX3_weightOf.cls ≠ "java/lang/invoke/MethodHandle" ∧ yX3_weightOf.cls ≠ "java/lang/invoke/VarHandle" ∧ (parseMethodDescriptor yX3_weightOf.desc).map (fun d => d.parameters.length) = some 1 := by decide +kernel
set_option maxHeartbeats 4000000 in
set_option maxRecDepth 100000 in
theorem kX3_totalCost (l : Launch) (dC : Nat → ClassId) (dI : Nat → Nat → Nat) (cI cV cW : ClassId) (h : Nat) (vR : Nat) (vQ : Nat) (vF : Nat) (vW : Nat) (vP : Nat) (vH : Nat) (vN : Nat) (vO : Nat) (cn : Nat) (wk : Int32) (sc : Int32) (N : Nat → Int32) (O : Nat → Int32) (Hm : Nat → Int32) (Q : Nat → Int32) (P : Nat → Int32) (hV : VO P Hm cn) : Met l yX3_totalCost wsX3_totalCost ({ frames := 1, cells := 0, slots := 0, locals := 21 }) (pR (dC, dI) (tyS cI cV cW) [.ref h] [(h, .inr (2, [.ref vR, .ref vQ, .ref vF, .ref vW, .ref vP, .ref vH, .ref vN, .ref vO, .int (nI cn), .int wk, .int sc])), (vN, .inl (cI, 16, .inl N)), (vO, .inl (cI, 16, .inl O)), (vH, .inl (cI, 16, .inl Hm)), (vQ, .inl (cI, 6, .inl Q)), (vP, .inl (cI, 16, .inl P))]) (vp_Si (fun r_ => r_ = (sCo N O Hm Q cn))) 0 0 (fun _ => False) := by
  refine Met.ofW (cc := cX3_totalCost) (maxL := 3) (ret := (some .int)) (by decide) rfl ?_
  intro p e s m args below meth c s₁ B hml hv
  obtain ⟨rfl, hP, hK⟩ := hv
  have hx := B.exec
  have hb := B.bytes
  have hr := B.returns
  have hts := atoms_spec (ws := wsX3_totalCost) B.pre
  have hown : s.vm.findClass RX3 = some m.cls := findClass_of_methodNamed B.named
  have hlocks := B.notSynchronized
  have hf42 := hts (.fieldLink RX3 42 "VaultShelves$Vault" "count" "I") (by decide +kernel)
  have hf15 := hts (.fieldLink RX3 15 "VaultShelves$Vault" "reaches" "[I") (by decide +kernel)
  have hf27 := hts (.fieldLink RX3 27 "VaultShelves$Vault" "homes" "[I") (by decide +kernel)
  have hiX3 : ∀ w ∈ u_ws RX3 TX3 11, w ∈ wsX3_totalCost := by decide +kernel
  have hl := lv_entry ([.ref h]) (n := 3) (Nat.le_of_ble_eq_true rfl)
  rw [lg_entry_eq]
  generalize (lg_sl ([.ref h]) ++ List.replicate (3 - (lg_sl ([.ref h])).length) Slot.unset).toArray = ls at hl ⊢
  replace hl : lv_has ls 3 [(0, .ref h)] := hl
  have hc := hV.1
  refine lv_iconst (v := (nI 0)) hx hb dX3_totalCost_0 (by decide) ?_
  refine lv_istore_n (lv' := [(1, .int (nI 0)), (0, .ref h)]) hx hb dX3_totalCost_1 rfl hl (by decide) rfl (fun ls hl => ?_)
  refine lv_iconst (v := (nI 0)) hx hb dX3_totalCost_2 (by decide) ?_
  refine lv_istore_n (lv' := [(2, .int (nI 0)), (1, .int (nI 0)), (0, .ref h)]) hx hb dX3_totalCost_3 rfl hl (by decide) rfl (fun ls hl => ?_)
  have el_i4_1 : (nI 0) = (sCo N O Hm Q 0) := by rfl
  have hI0 : (fun (i : Nat) ls => (i ≤ cn) ∧ (lv_has ls 3 [(0, .ref h), (1, .int (sCo N O Hm Q i)), (2, .int (nI i))])) 0 ls := ⟨by omega, lv_cg (lv_sub hl [2, 1, 0] rfl) (congrArg (fun z_ => ([(0, .ref h), (1, .int z_), (2, .int (nI 0))] : List (Nat × Value))) el_i4_1)⟩
  clear hl
  revert ls
  refine lp_ls (fun (i : Nat) ls => (i ≤ cn) ∧ (lv_has ls 3 [(0, .ref h), (1, .int (sCo N O Hm Q i)), (2, .int (nI i))])) (fun (i : Nat) => cn - i) 0 (fun q_ ls hI ih4 => ?_)
  obtain ⟨i, rfl⟩ : ∃ z, z = q_ := ⟨_, rfl⟩
  obtain ⟨hi, hl⟩ := hI
  refine lv_iload_n hx hb dX3_totalCost_4 rfl (lv_at hl 2 rfl) ?_
  refine lv_aload_n hx hb dX3_totalCost_5 rfl (lv_at hl 0 rfl) ?_
  refine va_get (D := (dC, dI)) (ci := 2) (v := .int (nI cn)) (C := RX3) (T := TX3) (N := 11) hx hb hts hiX3 hown hK hP 0 rfl rfl 8 (by decide) hf42 (fun _ h9 => h9) rfl dX3_totalCost_6 ?_
  refine n_icmp_ge (tgt := 38) hx hb dX3_totalCost_9 (by decide) (by omega) (by omega) (fun c_9 => ?_) (fun c_9 => ?_)
  · obtain rfl : cn = i := by omega
    refine lv_iload_n hx hb dX3_totalCost_38 rfl (lv_at hl 1 rfl) ?_
    exact W.iret (v := (sCo N O Hm Q cn)) hx hb hr (fun t ht hW => ⟨_, rfl, rfl, ht⟩) (fun q hq => absurd hq List.not_mem_nil) dX3_totalCost_39
  · refine lv_iload_n hx hb dX3_totalCost_12 rfl (lv_at hl 1 rfl) ?_
    refine lv_aload_n hx hb dX3_totalCost_13 rfl (lv_at hl 0 rfl) ?_
    refine lv_iload_n hx hb dX3_totalCost_14 rfl (lv_at hl 2 rfl) ?_
    refine vp_callSi (W.runV (As := [.int (nI i)]) (rest := [.int (sCo N O Hm Q i)]) ⟨hx, hb, hml, hown, hts⟩ (kX3_weightOf l dC dI cI cV cW h vR vQ vF vW vP vH vN vO cn wk sc N O i (by omega)) (cwV 1 hts gX3_totalCost_X3_weightOf rfl rfl rfl hdX3_weightOf ⟨Nat.le_of_ble_eq_true rfl, Nat.le_of_ble_eq_true rfl⟩) (pR_V hK hP 0 2 rfl rfl rfl [0, 1, 2] rfl) rfl rfl hl.1 rfl (lv_room (Nat.le_of_ble_eq_true rfl)) dX3_totalCost_15 ⟨Nat.zero_le _, Nat.zero_le _⟩) (fun r_15 hr_ => ?_)
    subst hr_
    refine lv_aload_n hx hb dX3_totalCost_18 rfl (lv_at hl 0 rfl) ?_
    refine va_get (D := (dC, dI)) (ci := 2) (v := .ref vQ) (C := RX3) (T := TX3) (N := 11) hx hb hts hiX3 hown hK hP 0 rfl rfl 1 (by decide) hf15 (fun _ h9 => h9) rfl dX3_totalCost_19 ?_
    refine lv_aload_n hx hb dX3_totalCost_22 rfl (lv_at hl 0 rfl) ?_
    refine va_get (D := (dC, dI)) (ci := 2) (v := .ref vH) (C := RX3) (T := TX3) (N := 11) hx hb hts hiX3 hown hK hP 0 rfl rfl 5 (by decide) hf27 (fun _ h9 => h9) rfl dX3_totalCost_23 ?_
    refine lv_iload_n hx hb dX3_totalCost_26 rfl (lv_at hl 2 rfl) ?_
    refine n_iald hx hb hK hP 3 0 rfl rfl (show i < 16 from by omega) (by decide) dX3_totalCost_27 ?_
    refine lv_cgi (show (Hm i) = (nI (ix (Hm i))) from (hV.2 i c_9).2.1) ?_
    refine n_iald hx hb hK hP 4 0 rfl rfl (show ix (Hm i) < 6 from by have := (hV.2 i c_9).2.2; omega) (by decide) dX3_totalCost_28 ?_
    refine lv_imul hx hb dX3_totalCost_29 ?_
    refine lv_iadd hx hb dX3_totalCost_30 ?_
    refine lv_istore_n (lv' := [(1, .int ((sCo N O Hm Q i) + ((sHf N O i) * (Q (ix (Hm i)))))), (0, .ref h), (2, .int (nI i))]) hx hb dX3_totalCost_31 rfl hl (by decide) rfl (fun ls hl => ?_)
    refine lv_iinc (v := (nI (i + 1))) (lv' := [(2, .int (nI (i + 1))), (1, .int ((sCo N O Hm Q i) + ((sHf N O i) * (Q (ix (Hm i)))))), (0, .ref h)]) hx hb dX3_totalCost_32 hl (k := 2) rfl (n_inc _ 1) (by decide) rfl (fun ls hl => ?_)
    refine lv_goto (tgt := 4) hx hb dX3_totalCost_35 (by decide) ?_
    have el_b4_2_1 : ((sCo N O Hm Q i) + ((sHf N O i) * (Q (ix (Hm i))))) = (sCo N O Hm Q (i + 1)) := by rfl
    exact ih4 (i + 1) ls ⟨by omega, lv_cg (lv_sub hl [2, 1, 0] rfl) (congrArg (fun z_ => ([(0, .ref h), (1, .int z_), (2, .int (nI (i + 1)))] : List (Nat × Value))) el_b4_2_1)⟩ (by first | omega | (dsimp only; omega))
theorem hdX3_freeRoom : yX3_freeRoom.cls = RX3 ∧ yX3_freeRoom.cls ≠ "java/lang/invoke/MethodHandle" ∧ yX3_freeRoom.cls ≠ "java/lang/invoke/VarHandle" ∧ (parseMethodDescriptor yX3_freeRoom.desc).map (fun d => d.parameters.length) = some 1 := by decide +kernel
set_option maxHeartbeats 4000000 in
set_option maxRecDepth 100000 in
theorem kX3_canTakeIn (l : Launch) (dC : Nat → ClassId) (dI : Nat → Nat → Nat) (cI cV cW : ClassId) (h : Nat) (vR : Nat) (vQ : Nat) (vF : Nat) (vW : Nat) (vP : Nat) (vH : Nat) (vN : Nat) (vO : Nat) (cn : Nat) (wk : Int32) (sc : Int32) (R : Nat → Int32) (F : Nat → Int32) (w : Int32) (k : Nat) (hc : cn ≤ 16) (hk : k < 6) : Met l yX3_canTakeIn wsX3_canTakeIn ({ frames := 1, cells := 0, slots := 0, locals := 21 }) (pR (dC, dI) (tyS cI cV cW) [.ref h, .int w, .int (nI k)] [(h, .inr (2, [.ref vR, .ref vQ, .ref vF, .ref vW, .ref vP, .ref vH, .ref vN, .ref vO, .int (nI cn), .int wk, .int sc])), (vR, .inl (cI, 6, .inl R)), (vF, .inl (cI, 6, .inl F))]) (vp_Si (fun r_ => r_ = (bI (decide (cn < 16) && decide (w ≤ R k - F k))))) 0 0 (fun _ => False) := by
  refine Met.ofW (cc := cX3_canTakeIn) (maxL := 3) (ret := (some .boolean)) (by decide) rfl ?_
  intro p e s m args below meth c s₁ B hml hv
  obtain ⟨rfl, hP, hK⟩ := hv
  have hx := B.exec
  have hb := B.bytes
  have hr := B.returns
  have hts := atoms_spec (ws := wsX3_canTakeIn) B.pre
  have hown : s.vm.findClass RX3 = some m.cls := findClass_of_methodNamed B.named
  have hlocks := B.notSynchronized
  have hf42 := hts (.fieldLink RX3 42 "VaultShelves$Vault" "count" "I") (by decide +kernel)
  have hiX3 : ∀ w ∈ u_ws RX3 TX3 11, w ∈ wsX3_canTakeIn := by decide +kernel
  have hl := lv_entry ([.ref h, .int w, .int (nI k)]) (n := 3) (Nat.le_of_ble_eq_true rfl)
  rw [lg_entry_eq]
  generalize (lg_sl ([.ref h, .int w, .int (nI k)]) ++ List.replicate (3 - (lg_sl ([.ref h, .int w, .int (nI k)])).length) Slot.unset).toArray = ls at hl ⊢
  replace hl : lv_has ls 3 [(0, .ref h), (1, .int w), (2, .int (nI k))] := hl
  refine lv_aload_n hx hb dX3_canTakeIn_0 rfl (lv_at hl 0 rfl) ?_
  refine va_get (D := (dC, dI)) (ci := 2) (v := .int (nI cn)) (C := RX3) (T := TX3) (N := 11) hx hb hts hiX3 hown hK hP 0 rfl rfl 8 (by decide) hf42 (fun _ h9 => h9) rfl dX3_canTakeIn_1 ?_
  refine lv_bipush (v := (nI 16)) hx hb dX3_canTakeIn_4 (by decide) ?_
  refine n_icmp_ge (tgt := 22) hx hb dX3_canTakeIn_6 (by decide) (by omega) (by omega) (fun c_6 => ?_) (fun c_6 => ?_)
  · refine lv_iconst (v := (nI 0)) hx hb dX3_canTakeIn_22 (by decide) ?_
    exact W.zret (v := (bI false)) hx hb hr (nar_bI _) (fun t ht hW => ⟨_, rfl, (congrArg bI (show false = (decide (cn < 16) && decide (w ≤ R k - F k)) from by first | rfl | (simp [c_6, Nat.not_lt.mpr c_6]))), ht⟩) (fun q hq => absurd hq List.not_mem_nil) dX3_canTakeIn_23
  · refine lv_aload_n hx hb dX3_canTakeIn_9 rfl (lv_at hl 0 rfl) ?_
    refine lv_iload_n hx hb dX3_canTakeIn_10 rfl (lv_at hl 2 rfl) ?_
    refine vp_callSi (W.runV (As := [.int (nI k)]) (rest := []) ⟨hx, hb, hml, hown, hts⟩ (kX3_freeRoom l dC dI cI cV cW h vR vQ vF vW vP vH vN vO cn wk sc R F k (hk)) (cwV 1 hts gX3_canTakeIn_X3_freeRoom rfl rfl rfl hdX3_freeRoom ⟨Nat.le_of_ble_eq_true rfl, Nat.le_of_ble_eq_true rfl⟩) (pR_V hK hP 0 2 rfl rfl rfl [0, 1, 2] rfl) rfl rfl hl.1 rfl (lv_room (Nat.le_of_ble_eq_true rfl)) dX3_canTakeIn_11 ⟨Nat.zero_le _, Nat.zero_le _⟩) (fun r_11 hr_ => ?_)
    subst hr_
    refine lv_iload_n hx hb dX3_canTakeIn_14 rfl (lv_at hl 1 rfl) ?_
    refine lv_icmp_lt (tgt := 22) hx hb dX3_canTakeIn_15 (by decide) (fun c_15 => ?_) (fun c_15 => ?_)
    · refine lv_iconst (v := (nI 0)) hx hb dX3_canTakeIn_22 (by decide) ?_
      exact W.zret (v := (bI false)) hx hb hr (nar_bI _) (fun t ht hW => ⟨_, rfl, (congrArg bI (show false = (decide (cn < 16) && decide (w ≤ R k - F k)) from by first | rfl | (simp [c_6, Nat.not_le.mpr c_6, c_15, Int32.not_le.mpr c_15]))), ht⟩) (fun q hq => absurd hq List.not_mem_nil) dX3_canTakeIn_23
    · refine lv_iconst (v := (nI 1)) hx hb dX3_canTakeIn_18 (by decide) ?_
      refine lv_goto (tgt := 23) hx hb dX3_canTakeIn_19 (by decide) ?_
      exact W.zret (v := (bI true)) hx hb hr (nar_bI _) (fun t ht hW => ⟨_, rfl, (congrArg bI (show true = (decide (cn < 16) && decide (w ≤ R k - F k)) from by first | rfl | (simp [c_6, Nat.not_le.mpr c_6, c_15, Int32.not_lt.mp c_15]))), ht⟩) (fun q hq => absurd hq List.not_mem_nil) dX3_canTakeIn_23
set_option maxHeartbeats 4000000 in
set_option maxRecDepth 100000 in
theorem kX3_canStandOn (l : Launch) (dC : Nat → ClassId) (dI : Nat → Nat → Nat) (cI cV cW : ClassId) (h : Nat) (vR : Nat) (vQ : Nat) (vF : Nat) (vW : Nat) (vP : Nat) (vH : Nat) (vN : Nat) (vO : Nat) (cn : Nat) (wk : Int32) (sc : Int32) (R : Nat → Int32) (F : Nat → Int32) (Wd : Nat → Int32) (P : Nat → Int32) (r : Nat) (k : Nat) (hr_0 : r < 16) (hk : k < 6) : Met l yX3_canStandOn wsX3_canStandOn ({ frames := 1, cells := 0, slots := 0, locals := 21 }) (pR (dC, dI) (tyS cI cV cW) [.ref h, .int (nI r), .int (nI k)] [(h, .inr (2, [.ref vR, .ref vQ, .ref vF, .ref vW, .ref vP, .ref vH, .ref vN, .ref vO, .int (nI cn), .int wk, .int sc])), (vR, .inl (cI, 6, .inl R)), (vF, .inl (cI, 6, .inl F)), (vW, .inl (cI, 16, .inl Wd)), (vP, .inl (cI, 16, .inl P))]) (vp_Si (fun r_ => r_ = (bI (decide (P r = nI k) || decide (Wd r ≤ R k - F k))))) 0 0 (fun _ => False) := by
  refine Met.ofW (cc := cX3_canStandOn) (maxL := 3) (ret := (some .boolean)) (by decide) rfl ?_
  intro p e s m args below meth c s₁ B hml hv
  obtain ⟨rfl, hP, hK⟩ := hv
  have hx := B.exec
  have hb := B.bytes
  have hr := B.returns
  have hts := atoms_spec (ws := wsX3_canStandOn) B.pre
  have hown : s.vm.findClass RX3 = some m.cls := findClass_of_methodNamed B.named
  have hlocks := B.notSynchronized
  have hf24 := hts (.fieldLink RX3 24 "VaultShelves$Vault" "places" "[I") (by decide +kernel)
  have hf21 := hts (.fieldLink RX3 21 "VaultShelves$Vault" "widths" "[I") (by decide +kernel)
  have hiX3 : ∀ w ∈ u_ws RX3 TX3 11, w ∈ wsX3_canStandOn := by decide +kernel
  have hl := lv_entry ([.ref h, .int (nI r), .int (nI k)]) (n := 3) (Nat.le_of_ble_eq_true rfl)
  rw [lg_entry_eq]
  generalize (lg_sl ([.ref h, .int (nI r), .int (nI k)]) ++ List.replicate (3 - (lg_sl ([.ref h, .int (nI r), .int (nI k)])).length) Slot.unset).toArray = ls at hl ⊢
  replace hl : lv_has ls 3 [(0, .ref h), (1, .int (nI r)), (2, .int (nI k))] := hl
  refine lv_aload_n hx hb dX3_canStandOn_0 rfl (lv_at hl 0 rfl) ?_
  refine va_get (D := (dC, dI)) (ci := 2) (v := .ref vP) (C := RX3) (T := TX3) (N := 11) hx hb hts hiX3 hown hK hP 0 rfl rfl 4 (by decide) hf24 (fun _ h9 => h9) rfl dX3_canStandOn_1 ?_
  refine lv_iload_n hx hb dX3_canStandOn_4 rfl (lv_at hl 1 rfl) ?_
  refine n_iald hx hb hK hP 4 0 rfl rfl (show r < 16 from by omega) (by decide) dX3_canStandOn_5 ?_
  refine lv_iload_n hx hb dX3_canStandOn_6 rfl (lv_at hl 2 rfl) ?_
  refine lv_icmp_eq (tgt := 24) hx hb dX3_canStandOn_7 (by decide) (fun c_7 => ?_) (fun c_7 => ?_)
  · refine lv_iconst (v := (nI 1)) hx hb dX3_canStandOn_24 (by decide) ?_
    refine lv_goto (tgt := 29) hx hb dX3_canStandOn_25 (by decide) ?_
    exact W.zret (v := (bI true)) hx hb hr (nar_bI _) (fun t ht hW => ⟨_, rfl, (congrArg bI (show true = (decide (P r = nI k) || decide (Wd r ≤ R k - F k)) from by first | rfl | (simp [c_7]))), ht⟩) (fun q hq => absurd hq List.not_mem_nil) dX3_canStandOn_29
  · refine lv_aload_n hx hb dX3_canStandOn_10 rfl (lv_at hl 0 rfl) ?_
    refine lv_iload_n hx hb dX3_canStandOn_11 rfl (lv_at hl 2 rfl) ?_
    refine vp_callSi (W.runV (As := [.int (nI k)]) (rest := []) ⟨hx, hb, hml, hown, hts⟩ (kX3_freeRoom l dC dI cI cV cW h vR vQ vF vW vP vH vN vO cn wk sc R F k (hk)) (cwV 1 hts gX3_canStandOn_X3_freeRoom rfl rfl rfl hdX3_freeRoom ⟨Nat.le_of_ble_eq_true rfl, Nat.le_of_ble_eq_true rfl⟩) (pR_V hK hP 0 2 rfl rfl rfl [0, 1, 2] rfl) rfl rfl hl.1 rfl (lv_room (Nat.le_of_ble_eq_true rfl)) dX3_canStandOn_12 ⟨Nat.zero_le _, Nat.zero_le _⟩) (fun r_12 hr_ => ?_)
    subst hr_
    refine lv_aload_n hx hb dX3_canStandOn_15 rfl (lv_at hl 0 rfl) ?_
    refine va_get (D := (dC, dI)) (ci := 2) (v := .ref vW) (C := RX3) (T := TX3) (N := 11) hx hb hts hiX3 hown hK hP 0 rfl rfl 3 (by decide) hf21 (fun _ h9 => h9) rfl dX3_canStandOn_16 ?_
    refine lv_iload_n hx hb dX3_canStandOn_19 rfl (lv_at hl 1 rfl) ?_
    refine n_iald hx hb hK hP 3 0 rfl rfl (show r < 16 from by omega) (by decide) dX3_canStandOn_20 ?_
    refine lv_icmp_lt (tgt := 28) hx hb dX3_canStandOn_21 (by decide) (fun c_21 => ?_) (fun c_21 => ?_)
    · refine lv_iconst (v := (nI 0)) hx hb dX3_canStandOn_28 (by decide) ?_
      exact W.zret (v := (bI false)) hx hb hr (nar_bI _) (fun t ht hW => ⟨_, rfl, (congrArg bI (show false = (decide (P r = nI k) || decide (Wd r ≤ R k - F k)) from by first | rfl | (simp [c_7, c_21, Int32.not_le.mpr c_21]))), ht⟩) (fun q hq => absurd hq List.not_mem_nil) dX3_canStandOn_29
    · refine lv_iconst (v := (nI 1)) hx hb dX3_canStandOn_24 (by decide) ?_
      refine lv_goto (tgt := 29) hx hb dX3_canStandOn_25 (by decide) ?_
      exact W.zret (v := (bI true)) hx hb hr (nar_bI _) (fun t ht hW => ⟨_, rfl, (congrArg bI (show true = (decide (P r = nI k) || decide (Wd r ≤ R k - F k)) from by first | rfl | (simp [c_7, c_21, Int32.not_lt.mp c_21]))), ht⟩) (fun q hq => absurd hq List.not_mem_nil) dX3_canStandOn_29
set_option maxHeartbeats 4000000 in
set_option maxRecDepth 100000 in
theorem kX3_isSearchedBefore (l : Launch) (dC : Nat → ClassId) (dI : Nat → Nat → Nat) (cI cV cW : ClassId) (h : Nat) (vR : Nat) (vQ : Nat) (vF : Nat) (vW : Nat) (vP : Nat) (vH : Nat) (vN : Nat) (vO : Nat) (cn : Nat) (wk : Int32) (sc : Int32) (Q : Nat → Int32) (a : Nat) (b : Nat) (h1 : a < 6) (h2 : b < 6) : Met l yX3_isSearchedBefore wsX3_isSearchedBefore ({ frames := 0, cells := 0, slots := 0, locals := 0 }) (pR (dC, dI) (tyS cI cV cW) [.ref h, .int (nI a), .int (nI b)] [(h, .inr (2, [.ref vR, .ref vQ, .ref vF, .ref vW, .ref vP, .ref vH, .ref vN, .ref vO, .int (nI cn), .int wk, .int sc])), (vQ, .inl (cI, 6, .inl Q))]) (vp_Si (fun r_ => r_ = (bI (sBf Q a b)))) 0 0 (fun _ => False) := by
  refine Met.ofW (cc := cX3_isSearchedBefore) (maxL := 3) (ret := (some .boolean)) (by decide) rfl ?_
  intro p e s m args below meth c s₁ B hml hv
  obtain ⟨rfl, hP, hK⟩ := hv
  have hx := B.exec
  have hb := B.bytes
  have hr := B.returns
  have hts := atoms_spec (ws := wsX3_isSearchedBefore) B.pre
  have hown : s.vm.findClass RX3 = some m.cls := findClass_of_methodNamed B.named
  have hlocks := B.notSynchronized
  have hf15 := hts (.fieldLink RX3 15 "VaultShelves$Vault" "reaches" "[I") (by decide +kernel)
  have hiX3 : ∀ w ∈ u_ws RX3 TX3 11, w ∈ wsX3_isSearchedBefore := by decide +kernel
  have hl := lv_entry ([.ref h, .int (nI a), .int (nI b)]) (n := 3) (Nat.le_of_ble_eq_true rfl)
  rw [lg_entry_eq]
  generalize (lg_sl ([.ref h, .int (nI a), .int (nI b)]) ++ List.replicate (3 - (lg_sl ([.ref h, .int (nI a), .int (nI b)])).length) Slot.unset).toArray = ls at hl ⊢
  replace hl : lv_has ls 3 [(0, .ref h), (1, .int (nI a)), (2, .int (nI b))] := hl
  refine lv_aload_n hx hb dX3_isSearchedBefore_0 rfl (lv_at hl 0 rfl) ?_
  refine va_get (D := (dC, dI)) (ci := 2) (v := .ref vQ) (C := RX3) (T := TX3) (N := 11) hx hb hts hiX3 hown hK hP 0 rfl rfl 1 (by decide) hf15 (fun _ h9 => h9) rfl dX3_isSearchedBefore_1 ?_
  refine lv_iload_n hx hb dX3_isSearchedBefore_4 rfl (lv_at hl 1 rfl) ?_
  refine n_iald hx hb hK hP 1 0 rfl rfl (show a < 6 from by omega) (by decide) dX3_isSearchedBefore_5 ?_
  refine lv_aload_n hx hb dX3_isSearchedBefore_6 rfl (lv_at hl 0 rfl) ?_
  refine va_get (D := (dC, dI)) (ci := 2) (v := .ref vQ) (C := RX3) (T := TX3) (N := 11) hx hb hts hiX3 hown hK hP 0 rfl rfl 1 (by decide) hf15 (fun _ h9 => h9) rfl dX3_isSearchedBefore_7 ?_
  refine lv_iload_n hx hb dX3_isSearchedBefore_10 rfl (lv_at hl 2 rfl) ?_
  refine n_iald hx hb hK hP 1 0 rfl rfl (show b < 6 from by omega) (by decide) dX3_isSearchedBefore_11 ?_
  refine lv_icmp_lt (tgt := 35) hx hb dX3_isSearchedBefore_12 (by decide) (fun c_12 => ?_) (fun c_12 => ?_)
  · refine lv_iconst (v := (nI 1)) hx hb dX3_isSearchedBefore_35 (by decide) ?_
    refine lv_goto (tgt := 40) hx hb dX3_isSearchedBefore_36 (by decide) ?_
    exact W.zret (v := (bI true)) hx hb hr (nar_bI _) (fun t ht hW => ⟨_, rfl, (congrArg bI (show true = (sBf Q a b) from by first | rfl | (simp [sBf, c_12, Int32.not_le.mpr c_12]))), ht⟩) (fun q hq => absurd hq List.not_mem_nil) dX3_isSearchedBefore_40
  · refine lv_aload_n hx hb dX3_isSearchedBefore_15 rfl (lv_at hl 0 rfl) ?_
    refine va_get (D := (dC, dI)) (ci := 2) (v := .ref vQ) (C := RX3) (T := TX3) (N := 11) hx hb hts hiX3 hown hK hP 0 rfl rfl 1 (by decide) hf15 (fun _ h9 => h9) rfl dX3_isSearchedBefore_16 ?_
    refine lv_iload_n hx hb dX3_isSearchedBefore_19 rfl (lv_at hl 1 rfl) ?_
    refine n_iald hx hb hK hP 1 0 rfl rfl (show a < 6 from by omega) (by decide) dX3_isSearchedBefore_20 ?_
    refine lv_aload_n hx hb dX3_isSearchedBefore_21 rfl (lv_at hl 0 rfl) ?_
    refine va_get (D := (dC, dI)) (ci := 2) (v := .ref vQ) (C := RX3) (T := TX3) (N := 11) hx hb hts hiX3 hown hK hP 0 rfl rfl 1 (by decide) hf15 (fun _ h9 => h9) rfl dX3_isSearchedBefore_22 ?_
    refine lv_iload_n hx hb dX3_isSearchedBefore_25 rfl (lv_at hl 2 rfl) ?_
    refine n_iald hx hb hK hP 1 0 rfl rfl (show b < 6 from by omega) (by decide) dX3_isSearchedBefore_26 ?_
    refine lv_icmp_ne (tgt := 39) hx hb dX3_isSearchedBefore_27 (by decide) (fun c_27 => ?_) (fun c_27 => ?_)
    · refine lv_iconst (v := (nI 0)) hx hb dX3_isSearchedBefore_39 (by decide) ?_
      exact W.zret (v := (bI false)) hx hb hr (nar_bI _) (fun t ht hW => ⟨_, rfl, (congrArg bI (show false = (sBf Q a b) from by first | rfl | (simp [sBf, c_12, Int32.not_lt.mp c_12, c_27]))), ht⟩) (fun q hq => absurd hq List.not_mem_nil) dX3_isSearchedBefore_40
    · refine lv_iload_n hx hb dX3_isSearchedBefore_30 rfl (lv_at hl 1 rfl) ?_
      refine lv_iload_n hx hb dX3_isSearchedBefore_31 rfl (lv_at hl 2 rfl) ?_
      refine n_icmp_ge (tgt := 39) hx hb dX3_isSearchedBefore_32 (by decide) (by omega) (by omega) (fun c_32 => ?_) (fun c_32 => ?_)
      · refine lv_iconst (v := (nI 0)) hx hb dX3_isSearchedBefore_39 (by decide) ?_
        exact W.zret (v := (bI false)) hx hb hr (nar_bI _) (fun t ht hW => ⟨_, rfl, (congrArg bI (show false = (sBf Q a b) from by first | rfl | (simp [sBf, c_12, Int32.not_lt.mp c_12, c_27, c_32, Nat.not_lt.mpr c_32]))), ht⟩) (fun q hq => absurd hq List.not_mem_nil) dX3_isSearchedBefore_40
      · refine lv_iconst (v := (nI 1)) hx hb dX3_isSearchedBefore_35 (by decide) ?_
        refine lv_goto (tgt := 40) hx hb dX3_isSearchedBefore_36 (by decide) ?_
        exact W.zret (v := (bI true)) hx hb hr (nar_bI _) (fun t ht hW => ⟨_, rfl, (congrArg bI (show true = (sBf Q a b) from by first | rfl | (simp [sBf, c_12, Int32.not_lt.mp c_12, c_27, c_32, Nat.not_le.mpr c_32]))), ht⟩) (fun q hq => absurd hq List.not_mem_nil) dX3_isSearchedBefore_40
theorem hdX3_isSearchedBefore : yX3_isSearchedBefore.cls = RX3 ∧ yX3_isSearchedBefore.cls ≠ "java/lang/invoke/MethodHandle" ∧ yX3_isSearchedBefore.cls ≠ "java/lang/invoke/VarHandle" ∧ (parseMethodDescriptor yX3_isSearchedBefore.desc).map (fun d => d.parameters.length) = some 2 := by decide +kernel
set_option maxHeartbeats 4000000 in
set_option maxRecDepth 100000 in
theorem kX3_walkOf (l : Launch) (dC : Nat → ClassId) (dI : Nat → Nat → Nat) (cI cV cW : ClassId) (h : Nat) (vR : Nat) (vQ : Nat) (vF : Nat) (vW : Nat) (vP : Nat) (vH : Nat) (vN : Nat) (vO : Nat) (cn : Nat) (wk : Int32) (sc : Int32) (Q : Nat → Int32) (P : Nat → Int32) (Hm : Nat → Int32) (r : Nat) (hV : VO P Hm cn) (hr_1 : r < cn) : Met l yX3_walkOf wsX3_walkOf ({ frames := 1, cells := 0, slots := 0, locals := 22 }) (pR (dC, dI) (tyS cI cV cW) [.ref h, .int (nI r)] [(h, .inr (2, [.ref vR, .ref vQ, .ref vF, .ref vW, .ref vP, .ref vH, .ref vN, .ref vO, .int (nI cn), .int wk, .int sc])), (vQ, .inl (cI, 6, .inl Q)), (vP, .inl (cI, 16, .inl P)), (vH, .inl (cI, 16, .inl Hm))]) (vp_Si (fun r_ => r_ = (cWalk Q P Hm r))) 0 0 (fun _ => False) := by
  refine Met.ofW (cc := cX3_walkOf) (maxL := 5) (ret := (some .int)) (by decide) rfl ?_
  intro p e s m args below meth c s₁ B hml hv
  obtain ⟨rfl, hP, hK⟩ := hv
  have hx := B.exec
  have hb := B.bytes
  have hr := B.returns
  have hts := atoms_spec (ws := wsX3_walkOf) B.pre
  have hown : s.vm.findClass RX3 = some m.cls := findClass_of_methodNamed B.named
  have hlocks := B.notSynchronized
  have hf27 := hts (.fieldLink RX3 27 "VaultShelves$Vault" "homes" "[I") (by decide +kernel)
  have hf15 := hts (.fieldLink RX3 15 "VaultShelves$Vault" "reaches" "[I") (by decide +kernel)
  have hf24 := hts (.fieldLink RX3 24 "VaultShelves$Vault" "places" "[I") (by decide +kernel)
  have hiX3 : ∀ w ∈ u_ws RX3 TX3 11, w ∈ wsX3_walkOf := by decide +kernel
  have hl := lv_entry ([.ref h, .int (nI r)]) (n := 5) (Nat.le_of_ble_eq_true rfl)
  rw [lg_entry_eq]
  generalize (lg_sl ([.ref h, .int (nI r)]) ++ List.replicate (5 - (lg_sl ([.ref h, .int (nI r)])).length) Slot.unset).toArray = ls at hl ⊢
  replace hl : lv_has ls 5 [(0, .ref h), (1, .int (nI r))] := hl
  have hc := hV.1
  have hp := (hV.2 r hr_1).1.2
  have hj := (hV.2 r hr_1).2.2
  refine lv_aload_n hx hb dX3_walkOf_0 rfl (lv_at hl 0 rfl) ?_
  refine va_get (D := (dC, dI)) (ci := 2) (v := .ref vH) (C := RX3) (T := TX3) (N := 11) hx hb hts hiX3 hown hK hP 0 rfl rfl 5 (by decide) hf27 (fun _ h9 => h9) rfl dX3_walkOf_1 ?_
  refine lv_iload_n hx hb dX3_walkOf_4 rfl (lv_at hl 1 rfl) ?_
  refine n_iald hx hb hK hP 3 0 rfl rfl (show r < 16 from by omega) (by decide) dX3_walkOf_5 ?_
  refine lv_cgi (show (Hm r) = (nI (ix (Hm r))) from (hV.2 r hr_1).2.1) ?_
  refine lv_istore_n (lv' := [(2, .int (nI (ix (Hm r)))), (0, .ref h), (1, .int (nI r))]) hx hb dX3_walkOf_6 rfl hl (by decide) rfl (fun ls hl => ?_)
  refine lv_aload_n hx hb dX3_walkOf_7 rfl (lv_at hl 1 rfl) ?_
  refine va_get (D := (dC, dI)) (ci := 2) (v := .ref vQ) (C := RX3) (T := TX3) (N := 11) hx hb hts hiX3 hown hK hP 0 rfl rfl 1 (by decide) hf15 (fun _ h9 => h9) rfl dX3_walkOf_8 ?_
  refine lv_iload_n hx hb dX3_walkOf_11 rfl (lv_at hl 0 rfl) ?_
  refine n_iald hx hb hK hP 1 0 rfl rfl (show ix (Hm r) < 6 from by omega) (by decide) dX3_walkOf_12 ?_
  refine lv_istore_n (lv' := [(3, .int (Q (ix (Hm r)))), (2, .int (nI (ix (Hm r)))), (0, .ref h), (1, .int (nI r))]) hx hb dX3_walkOf_13 rfl hl (by decide) rfl (fun ls hl => ?_)
  refine lv_aload_n hx hb dX3_walkOf_14 rfl (lv_at hl 2 rfl) ?_
  refine lv_iload_n hx hb dX3_walkOf_15 rfl (lv_at hl 3 rfl) ?_
  refine vp_callSi (W.runV (As := [.int (nI r)]) (rest := []) ⟨hx, hb, hml, hown, hts⟩ (kX3_isMisplaced l dC dI cI cV cW h vR vQ vF vW vP vH vN vO cn wk sc P Hm r (by omega)) (cwV 1 hts gX3_walkOf_X3_isMisplaced rfl rfl rfl hdX3_isMisplaced ⟨Nat.le_of_ble_eq_true rfl, Nat.le_of_ble_eq_true rfl⟩) (pR_V hK hP 0 2 rfl rfl rfl [0, 2, 3] rfl) rfl rfl hl.1 rfl (lv_room (Nat.le_of_ble_eq_true rfl)) dX3_walkOf_16 ⟨Nat.zero_le _, Nat.zero_le _⟩) (fun r_16 hr_ => ?_)
  subst hr_
  refine b_if_ne (tgt := 24) hx hb dX3_walkOf_19 (by decide) (fun c_19 => ?_) (fun c_19 => ?_)
  · refine lv_iconst (v := (nI 0)) hx hb dX3_walkOf_24 (by decide) ?_
    refine lv_istore (lv' := [(4, .int (nI 0)), (3, .int (Q (ix (Hm r)))), (2, .int (nI (ix (Hm r)))), (0, .ref h), (1, .int (nI r))]) hx hb dX3_walkOf_25 hl (by decide) rfl (fun ls hl => ?_)
    have el_i27_3 : (Q (ix (Hm r))) = (cWl Q (ix (Hm r)) (ix (P r)) 0) := by rfl
    have hI0 : (fun (i : Nat) ls => (i ≤ 6) ∧ (lv_has ls 5 [(0, .ref h), (1, .int (nI r)), (2, .int (nI (ix (Hm r)))), (3, .int (cWl Q (ix (Hm r)) (ix (P r)) i)), (4, .int (nI i))])) 0 ls := ⟨by omega, lv_cg (lv_sub hl [3, 4, 2, 1, 0] rfl) (congrArg (fun z_ => ([(0, .ref h), (1, .int (nI r)), (2, .int (nI (ix (Hm r)))), (3, .int z_), (4, .int (nI 0))] : List (Nat × Value))) el_i27_3)⟩
    clear hl
    revert ls
    refine lp_ls (fun (i : Nat) ls => (i ≤ 6) ∧ (lv_has ls 5 [(0, .ref h), (1, .int (nI r)), (2, .int (nI (ix (Hm r)))), (3, .int (cWl Q (ix (Hm r)) (ix (P r)) i)), (4, .int (nI i))])) (fun (i : Nat) => 6 - i) 0 (fun q_ ls hI ih27 => ?_)
    obtain ⟨i, rfl⟩ : ∃ z, z = q_ := ⟨_, rfl⟩
    obtain ⟨hi, hl⟩ := hI
    refine lv_iload hx hb dX3_walkOf_27 (lv_at hl 4 rfl) ?_
    refine lv_bipush (v := (nI 6)) hx hb dX3_walkOf_29 (by decide) ?_
    refine n_icmp_ge (tgt := 71) hx hb dX3_walkOf_31 (by decide) (by omega) (by omega) (fun c_31 => ?_) (fun c_31 => ?_)
    · obtain rfl : i = 6 := by omega
      refine lv_iload_n hx hb dX3_walkOf_71 rfl (lv_at hl 3 rfl) ?_
      exact W.iret (v := (cWl Q (ix (Hm r)) (ix (P r)) 6)) hx hb hr (fun t ht hW => ⟨_, rfl, (show (cWl Q (ix (Hm r)) (ix (P r)) 6) = (cWalk Q P Hm r) from by first | rfl | (first | (rw [cWalk, if_pos c_19]; done) | (rw [cWalk, if_neg (by rw [c_19]; decide)]; done))), ht⟩) (fun q hq => absurd hq List.not_mem_nil) dX3_walkOf_72
    · refine lv_iload hx hb dX3_walkOf_34 (lv_at hl 4 rfl) ?_
      refine lv_iload_n hx hb dX3_walkOf_36 rfl (lv_at hl 2 rfl) ?_
      refine n_icmp_eq (tgt := 65) hx hb dX3_walkOf_37 (by decide) (by omega) (by omega) (fun c_37 => ?_) (fun c_37 => ?_)
      · refine lv_iinc (v := (nI (i + 1))) (lv' := [(4, .int (nI (i + 1))), (0, .ref h), (1, .int (nI r)), (2, .int (nI (ix (Hm r)))), (3, .int (cWl Q (ix (Hm r)) (ix (P r)) i))]) hx hb dX3_walkOf_65 hl (k := 4) rfl (n_inc _ 1) (by decide) rfl (fun ls hl => ?_)
        refine lv_goto (tgt := 27) hx hb dX3_walkOf_68 (by decide) ?_
        have el_b27_2_3 : (cWl Q (ix (Hm r)) (ix (P r)) i) = (cWl Q (ix (Hm r)) (ix (P r)) (i + 1)) := by first | rfl | (simp [cWl, c_19, c_31, Nat.not_le.mpr c_31, c_37])
        exact ih27 (i + 1) ls ⟨by omega, lv_cg (lv_sub hl [1, 2, 3, 4, 0] rfl) (congrArg (fun z_ => ([(0, .ref h), (1, .int (nI r)), (2, .int (nI (ix (Hm r)))), (3, .int z_), (4, .int (nI (i + 1)))] : List (Nat × Value))) el_b27_2_3)⟩ (by first | omega | (dsimp only; omega))
      · refine lv_aload_n hx hb dX3_walkOf_40 rfl (lv_at hl 0 rfl) ?_
        refine lv_aload_n hx hb dX3_walkOf_41 rfl (lv_at hl 0 rfl) ?_
        refine va_get (D := (dC, dI)) (ci := 2) (v := .ref vP) (C := RX3) (T := TX3) (N := 11) hx hb hts hiX3 hown hK hP 0 rfl rfl 4 (by decide) hf24 (fun _ h9 => h9) rfl dX3_walkOf_42 ?_
        refine lv_iload_n hx hb dX3_walkOf_45 rfl (lv_at hl 1 rfl) ?_
        refine n_iald hx hb hK hP 2 0 rfl rfl (show r < 16 from by omega) (by decide) dX3_walkOf_46 ?_
        refine lv_cgi (show (P r) = (nI (ix (P r))) from (hV.2 r hr_1).1.1) ?_
        refine lv_iload hx hb dX3_walkOf_47 (lv_at hl 4 rfl) ?_
        refine vp_callSi (W.runV (As := [.int (nI (ix (P r))), .int (nI i)]) (rest := []) ⟨hx, hb, hml, hown, hts⟩ (kX3_isSearchedBefore l dC dI cI cV cW h vR vQ vF vW vP vH vN vO cn wk sc Q (ix (P r)) i (by omega) (by omega)) (cwV 2 hts gX3_walkOf_X3_isSearchedBefore rfl rfl rfl hdX3_isSearchedBefore ⟨Nat.le_of_ble_eq_true rfl, Nat.le_of_ble_eq_true rfl⟩) (pR_V hK hP 0 2 rfl rfl rfl [0, 1] rfl) rfl rfl hl.1 rfl (lv_room (Nat.le_of_ble_eq_true rfl)) dX3_walkOf_49 ⟨Nat.zero_le _, Nat.zero_le _⟩) (fun r_49 hr_ => ?_)
        subst hr_
        refine b_if_ne (tgt := 65) hx hb dX3_walkOf_52 (by decide) (fun c_52 => ?_) (fun c_52 => ?_)
        · refine lv_iinc (v := (nI (i + 1))) (lv' := [(4, .int (nI (i + 1))), (0, .ref h), (1, .int (nI r)), (2, .int (nI (ix (Hm r)))), (3, .int (cWl Q (ix (Hm r)) (ix (P r)) i))]) hx hb dX3_walkOf_65 hl (k := 4) rfl (n_inc _ 1) (by decide) rfl (fun ls hl => ?_)
          refine lv_goto (tgt := 27) hx hb dX3_walkOf_68 (by decide) ?_
          have el_b27_3_3 : (cWl Q (ix (Hm r)) (ix (P r)) i) = (cWl Q (ix (Hm r)) (ix (P r)) (i + 1)) := by first | rfl | (simp [cWl, c_19, c_31, Nat.not_le.mpr c_31, c_37, c_52])
          exact ih27 (i + 1) ls ⟨by omega, lv_cg (lv_sub hl [1, 2, 3, 4, 0] rfl) (congrArg (fun z_ => ([(0, .ref h), (1, .int (nI r)), (2, .int (nI (ix (Hm r)))), (3, .int z_), (4, .int (nI (i + 1)))] : List (Nat × Value))) el_b27_3_3)⟩ (by first | omega | (dsimp only; omega))
        · refine lv_iload_n hx hb dX3_walkOf_55 rfl (lv_at hl 3 rfl) ?_
          refine lv_aload_n hx hb dX3_walkOf_56 rfl (lv_at hl 0 rfl) ?_
          refine va_get (D := (dC, dI)) (ci := 2) (v := .ref vQ) (C := RX3) (T := TX3) (N := 11) hx hb hts hiX3 hown hK hP 0 rfl rfl 1 (by decide) hf15 (fun _ h9 => h9) rfl dX3_walkOf_57 ?_
          refine lv_iload hx hb dX3_walkOf_60 (lv_at hl 4 rfl) ?_
          refine n_iald hx hb hK hP 1 0 rfl rfl (show i < 6 from by omega) (by decide) dX3_walkOf_62 ?_
          refine lv_iadd hx hb dX3_walkOf_63 ?_
          refine lv_istore_n (lv' := [(3, .int ((cWl Q (ix (Hm r)) (ix (P r)) i) + (Q i))), (0, .ref h), (1, .int (nI r)), (2, .int (nI (ix (Hm r)))), (4, .int (nI i))]) hx hb dX3_walkOf_64 rfl hl (by decide) rfl (fun ls hl => ?_)
          refine lv_iinc (v := (nI (i + 1))) (lv' := [(4, .int (nI (i + 1))), (3, .int ((cWl Q (ix (Hm r)) (ix (P r)) i) + (Q i))), (0, .ref h), (1, .int (nI r)), (2, .int (nI (ix (Hm r))))]) hx hb dX3_walkOf_65 hl (k := 4) rfl (n_inc _ 1) (by decide) rfl (fun ls hl => ?_)
          refine lv_goto (tgt := 27) hx hb dX3_walkOf_68 (by decide) ?_
          have el_b27_4_3 : ((cWl Q (ix (Hm r)) (ix (P r)) i) + (Q i)) = (cWl Q (ix (Hm r)) (ix (P r)) (i + 1)) := by first | rfl | (simp [cWl, c_19, c_31, Nat.not_le.mpr c_31, c_37, c_52])
          exact ih27 (i + 1) ls ⟨by omega, lv_cg (lv_sub hl [2, 3, 4, 1, 0] rfl) (congrArg (fun z_ => ([(0, .ref h), (1, .int (nI r)), (2, .int (nI (ix (Hm r)))), (3, .int z_), (4, .int (nI (i + 1)))] : List (Nat × Value))) el_b27_4_3)⟩ (by first | omega | (dsimp only; omega))
  · refine lv_iload_n hx hb dX3_walkOf_22 rfl (lv_at hl 0 rfl) ?_
    exact W.iret (v := (Q (ix (Hm r)))) hx hb hr (fun t ht hW => ⟨_, rfl, (show (Q (ix (Hm r))) = (cWalk Q P Hm r) from by first | rfl | (first | (rw [cWalk, if_pos c_19]; done) | (rw [cWalk, if_neg (by rw [c_19]; decide)]; done))), ht⟩) (fun q hq => absurd hq List.not_mem_nil) dX3_walkOf_23
set_option maxHeartbeats 4000000 in
set_option maxRecDepth 100000 in
theorem kX3_moveGain (l : Launch) (dC : Nat → ClassId) (dI : Nat → Nat → Nat) (cI cV cW : ClassId) (h : Nat) (vR : Nat) (vQ : Nat) (vF : Nat) (vW : Nat) (vP : Nat) (vH : Nat) (vN : Nat) (vO : Nat) (cn : Nat) (wk : Int32) (sc : Int32) (N : Nat → Int32) (O : Nat → Int32) (Q : Nat → Int32) (P : Nat → Int32) (Hm : Nat → Int32) (r : Nat) (k : Nat) (hV : VO P Hm cn) (hr_1 : r < cn) (hk : k < 6) : Met l yX3_moveGain wsX3_moveGain ({ frames := 1, cells := 0, slots := 0, locals := 21 }) (pR (dC, dI) (tyS cI cV cW) [.ref h, .int (nI r), .int (nI k)] [(h, .inr (2, [.ref vR, .ref vQ, .ref vF, .ref vW, .ref vP, .ref vH, .ref vN, .ref vO, .int (nI cn), .int wk, .int sc])), (vN, .inl (cI, 16, .inl N)), (vO, .inl (cI, 16, .inl O)), (vQ, .inl (cI, 6, .inl Q)), (vP, .inl (cI, 16, .inl P)), (vH, .inl (cI, 16, .inl Hm))]) (vp_Si (fun r_ => r_ = (cMg N O Q P r k))) 0 0 (fun _ => False) := by
  refine Met.ofW (cc := cX3_moveGain) (maxL := 3) (ret := (some .int)) (by decide) rfl ?_
  intro p e s m args below meth c s₁ B hml hv
  obtain ⟨rfl, hP, hK⟩ := hv
  have hx := B.exec
  have hb := B.bytes
  have hr := B.returns
  have hts := atoms_spec (ws := wsX3_moveGain) B.pre
  have hown : s.vm.findClass RX3 = some m.cls := findClass_of_methodNamed B.named
  have hlocks := B.notSynchronized
  have hf15 := hts (.fieldLink RX3 15 "VaultShelves$Vault" "reaches" "[I") (by decide +kernel)
  have hf24 := hts (.fieldLink RX3 24 "VaultShelves$Vault" "places" "[I") (by decide +kernel)
  have hiX3 : ∀ w ∈ u_ws RX3 TX3 11, w ∈ wsX3_moveGain := by decide +kernel
  have hl := lv_entry ([.ref h, .int (nI r), .int (nI k)]) (n := 3) (Nat.le_of_ble_eq_true rfl)
  rw [lg_entry_eq]
  generalize (lg_sl ([.ref h, .int (nI r), .int (nI k)]) ++ List.replicate (3 - (lg_sl ([.ref h, .int (nI r), .int (nI k)])).length) Slot.unset).toArray = ls at hl ⊢
  replace hl : lv_has ls 3 [(0, .ref h), (1, .int (nI r)), (2, .int (nI k))] := hl
  have hc := hV.1
  have hp := (hV.2 r hr_1).1.2
  have hj := (hV.2 r hr_1).2.2
  refine lv_aload_n hx hb dX3_moveGain_0 rfl (lv_at hl 0 rfl) ?_
  refine lv_iload_n hx hb dX3_moveGain_1 rfl (lv_at hl 1 rfl) ?_
  refine vp_callSi (W.runV (As := [.int (nI r)]) (rest := []) ⟨hx, hb, hml, hown, hts⟩ (kX3_weightOf l dC dI cI cV cW h vR vQ vF vW vP vH vN vO cn wk sc N O r (by omega)) (cwV 1 hts gX3_moveGain_X3_weightOf rfl rfl rfl hdX3_weightOf ⟨Nat.le_of_ble_eq_true rfl, Nat.le_of_ble_eq_true rfl⟩) (pR_V hK hP 0 2 rfl rfl rfl [0, 1, 2] rfl) rfl rfl hl.1 rfl (lv_room (Nat.le_of_ble_eq_true rfl)) dX3_moveGain_2 ⟨Nat.zero_le _, Nat.zero_le _⟩) (fun r_2 hr_ => ?_)
  subst hr_
  refine lv_aload_n hx hb dX3_moveGain_5 rfl (lv_at hl 0 rfl) ?_
  refine va_get (D := (dC, dI)) (ci := 2) (v := .ref vQ) (C := RX3) (T := TX3) (N := 11) hx hb hts hiX3 hown hK hP 0 rfl rfl 1 (by decide) hf15 (fun _ h9 => h9) rfl dX3_moveGain_6 ?_
  refine lv_aload_n hx hb dX3_moveGain_9 rfl (lv_at hl 0 rfl) ?_
  refine va_get (D := (dC, dI)) (ci := 2) (v := .ref vP) (C := RX3) (T := TX3) (N := 11) hx hb hts hiX3 hown hK hP 0 rfl rfl 4 (by decide) hf24 (fun _ h9 => h9) rfl dX3_moveGain_10 ?_
  refine lv_iload_n hx hb dX3_moveGain_13 rfl (lv_at hl 1 rfl) ?_
  refine n_iald hx hb hK hP 4 0 rfl rfl (show r < 16 from by omega) (by decide) dX3_moveGain_14 ?_
  refine lv_cgi (show (P r) = (nI (ix (P r))) from (hV.2 r hr_1).1.1) ?_
  refine n_iald hx hb hK hP 3 0 rfl rfl (show ix (P r) < 6 from by omega) (by decide) dX3_moveGain_15 ?_
  refine lv_aload_n hx hb dX3_moveGain_16 rfl (lv_at hl 0 rfl) ?_
  refine va_get (D := (dC, dI)) (ci := 2) (v := .ref vQ) (C := RX3) (T := TX3) (N := 11) hx hb hts hiX3 hown hK hP 0 rfl rfl 1 (by decide) hf15 (fun _ h9 => h9) rfl dX3_moveGain_17 ?_
  refine lv_iload_n hx hb dX3_moveGain_20 rfl (lv_at hl 2 rfl) ?_
  refine n_iald hx hb hK hP 3 0 rfl rfl (show k < 6 from by omega) (by decide) dX3_moveGain_21 ?_
  refine lv_isub hx hb dX3_moveGain_22 ?_
  refine lv_imul hx hb dX3_moveGain_23 ?_
  exact W.iret (v := ((sHf N O r) * ((Q (ix (P r))) - (Q k)))) hx hb hr (fun t ht hW => ⟨_, rfl, (show ((sHf N O r) * ((Q (ix (P r))) - (Q k))) = (cMg N O Q P r k) from by rfl), ht⟩) (fun q hq => absurd hq List.not_mem_nil) dX3_moveGain_24
set_option maxHeartbeats 4000000 in
set_option maxRecDepth 100000 in
theorem kX3_exchangeGain (l : Launch) (dC : Nat → ClassId) (dI : Nat → Nat → Nat) (cI cV cW : ClassId) (h : Nat) (vR : Nat) (vQ : Nat) (vF : Nat) (vW : Nat) (vP : Nat) (vH : Nat) (vN : Nat) (vO : Nat) (cn : Nat) (wk : Int32) (sc : Int32) (N : Nat → Int32) (O : Nat → Int32) (Q : Nat → Int32) (P : Nat → Int32) (Hm : Nat → Int32) (r : Nat) (e_ : Nat) (hV : VO P Hm cn) (hr_1 : r < cn) (he_1 : e_ < cn) : Met l yX3_exchangeGain wsX3_exchangeGain ({ frames := 1, cells := 0, slots := 0, locals := 21 }) (pR (dC, dI) (tyS cI cV cW) [.ref h, .int (nI r), .int (nI e_)] [(h, .inr (2, [.ref vR, .ref vQ, .ref vF, .ref vW, .ref vP, .ref vH, .ref vN, .ref vO, .int (nI cn), .int wk, .int sc])), (vN, .inl (cI, 16, .inl N)), (vO, .inl (cI, 16, .inl O)), (vQ, .inl (cI, 6, .inl Q)), (vP, .inl (cI, 16, .inl P)), (vH, .inl (cI, 16, .inl Hm))]) (vp_Si (fun r_ => r_ = (cEg N O Q P r e_))) 0 0 (fun _ => False) := by
  refine Met.ofW (cc := cX3_exchangeGain) (maxL := 3) (ret := (some .int)) (by decide) rfl ?_
  intro p e s m args below meth c s₁ B hml hv
  obtain ⟨rfl, hP, hK⟩ := hv
  have hx := B.exec
  have hb := B.bytes
  have hr := B.returns
  have hts := atoms_spec (ws := wsX3_exchangeGain) B.pre
  have hown : s.vm.findClass RX3 = some m.cls := findClass_of_methodNamed B.named
  have hlocks := B.notSynchronized
  have hf15 := hts (.fieldLink RX3 15 "VaultShelves$Vault" "reaches" "[I") (by decide +kernel)
  have hf24 := hts (.fieldLink RX3 24 "VaultShelves$Vault" "places" "[I") (by decide +kernel)
  have hiX3 : ∀ w ∈ u_ws RX3 TX3 11, w ∈ wsX3_exchangeGain := by decide +kernel
  have hl := lv_entry ([.ref h, .int (nI r), .int (nI e_)]) (n := 3) (Nat.le_of_ble_eq_true rfl)
  rw [lg_entry_eq]
  generalize (lg_sl ([.ref h, .int (nI r), .int (nI e_)]) ++ List.replicate (3 - (lg_sl ([.ref h, .int (nI r), .int (nI e_)])).length) Slot.unset).toArray = ls at hl ⊢
  replace hl : lv_has ls 3 [(0, .ref h), (1, .int (nI r)), (2, .int (nI e_))] := hl
  have hc := hV.1
  have hp := (hV.2 r hr_1).1.2
  have hj := (hV.2 r hr_1).2.2
  have hp2 := (hV.2 e_ he_1).1.2
  refine lv_aload_n hx hb dX3_exchangeGain_0 rfl (lv_at hl 0 rfl) ?_
  refine lv_iload_n hx hb dX3_exchangeGain_1 rfl (lv_at hl 1 rfl) ?_
  refine vp_callSi (W.runV (As := [.int (nI r)]) (rest := []) ⟨hx, hb, hml, hown, hts⟩ (kX3_weightOf l dC dI cI cV cW h vR vQ vF vW vP vH vN vO cn wk sc N O r (by omega)) (cwV 1 hts gX3_exchangeGain_X3_weightOf rfl rfl rfl hdX3_weightOf ⟨Nat.le_of_ble_eq_true rfl, Nat.le_of_ble_eq_true rfl⟩) (pR_V hK hP 0 2 rfl rfl rfl [0, 1, 2] rfl) rfl rfl hl.1 rfl (lv_room (Nat.le_of_ble_eq_true rfl)) dX3_exchangeGain_2 ⟨Nat.zero_le _, Nat.zero_le _⟩) (fun r_2 hr_ => ?_)
  subst hr_
  refine lv_aload_n hx hb dX3_exchangeGain_5 rfl (lv_at hl 0 rfl) ?_
  refine lv_iload_n hx hb dX3_exchangeGain_6 rfl (lv_at hl 2 rfl) ?_
  refine vp_callSi (W.runV (As := [.int (nI e_)]) (rest := [.int (sHf N O r)]) ⟨hx, hb, hml, hown, hts⟩ (kX3_weightOf l dC dI cI cV cW h vR vQ vF vW vP vH vN vO cn wk sc N O e_ (by omega)) (cwV 1 hts gX3_exchangeGain_X3_weightOf rfl rfl rfl hdX3_weightOf ⟨Nat.le_of_ble_eq_true rfl, Nat.le_of_ble_eq_true rfl⟩) (pR_V hK hP 0 2 rfl rfl rfl [0, 1, 2] rfl) rfl rfl hl.1 rfl (lv_room (Nat.le_of_ble_eq_true rfl)) dX3_exchangeGain_7 ⟨Nat.zero_le _, Nat.zero_le _⟩) (fun r_7 hr_ => ?_)
  subst hr_
  refine lv_isub hx hb dX3_exchangeGain_10 ?_
  refine lv_aload_n hx hb dX3_exchangeGain_11 rfl (lv_at hl 0 rfl) ?_
  refine va_get (D := (dC, dI)) (ci := 2) (v := .ref vQ) (C := RX3) (T := TX3) (N := 11) hx hb hts hiX3 hown hK hP 0 rfl rfl 1 (by decide) hf15 (fun _ h9 => h9) rfl dX3_exchangeGain_12 ?_
  refine lv_aload_n hx hb dX3_exchangeGain_15 rfl (lv_at hl 0 rfl) ?_
  refine va_get (D := (dC, dI)) (ci := 2) (v := .ref vP) (C := RX3) (T := TX3) (N := 11) hx hb hts hiX3 hown hK hP 0 rfl rfl 4 (by decide) hf24 (fun _ h9 => h9) rfl dX3_exchangeGain_16 ?_
  refine lv_iload_n hx hb dX3_exchangeGain_19 rfl (lv_at hl 1 rfl) ?_
  refine n_iald hx hb hK hP 4 0 rfl rfl (show r < 16 from by omega) (by decide) dX3_exchangeGain_20 ?_
  refine lv_cgi (show (P r) = (nI (ix (P r))) from (hV.2 r hr_1).1.1) ?_
  refine n_iald hx hb hK hP 3 0 rfl rfl (show ix (P r) < 6 from by omega) (by decide) dX3_exchangeGain_21 ?_
  refine lv_aload_n hx hb dX3_exchangeGain_22 rfl (lv_at hl 0 rfl) ?_
  refine va_get (D := (dC, dI)) (ci := 2) (v := .ref vQ) (C := RX3) (T := TX3) (N := 11) hx hb hts hiX3 hown hK hP 0 rfl rfl 1 (by decide) hf15 (fun _ h9 => h9) rfl dX3_exchangeGain_23 ?_
  refine lv_aload_n hx hb dX3_exchangeGain_26 rfl (lv_at hl 0 rfl) ?_
  refine va_get (D := (dC, dI)) (ci := 2) (v := .ref vP) (C := RX3) (T := TX3) (N := 11) hx hb hts hiX3 hown hK hP 0 rfl rfl 4 (by decide) hf24 (fun _ h9 => h9) rfl dX3_exchangeGain_27 ?_
  refine lv_iload_n hx hb dX3_exchangeGain_30 rfl (lv_at hl 2 rfl) ?_
  refine n_iald hx hb hK hP 4 0 rfl rfl (show e_ < 16 from by omega) (by decide) dX3_exchangeGain_31 ?_
  refine lv_cgi (show (P e_) = (nI (ix (P e_))) from (hV.2 e_ he_1).1.1) ?_
  refine n_iald hx hb hK hP 3 0 rfl rfl (show ix (P e_) < 6 from by omega) (by decide) dX3_exchangeGain_32 ?_
  refine lv_isub hx hb dX3_exchangeGain_33 ?_
  refine lv_imul hx hb dX3_exchangeGain_34 ?_
  exact W.iret (v := (((sHf N O r) - (sHf N O e_)) * ((Q (ix (P r))) - (Q (ix (P e_)))))) hx hb hr (fun t ht hW => ⟨_, rfl, (show (((sHf N O r) - (sHf N O e_)) * ((Q (ix (P r))) - (Q (ix (P e_))))) = (cEg N O Q P r e_) from by rfl), ht⟩) (fun q hq => absurd hq List.not_mem_nil) dX3_exchangeGain_35
set_option maxHeartbeats 4000000 in
set_option maxRecDepth 100000 in
theorem kX3_canExchange (l : Launch) (dC : Nat → ClassId) (dI : Nat → Nat → Nat) (cI cV cW : ClassId) (h : Nat) (vR : Nat) (vQ : Nat) (vF : Nat) (vW : Nat) (vP : Nat) (vH : Nat) (vN : Nat) (vO : Nat) (cn : Nat) (wk : Int32) (sc : Int32) (P : Nat → Int32) (Wd : Nat → Int32) (R : Nat → Int32) (F : Nat → Int32) (Hm : Nat → Int32) (r : Nat) (e_ : Nat) (hV : VO P Hm cn) (hr_1 : r < cn) (he_1 : e_ < cn) : Met l yX3_canExchange wsX3_canExchange ({ frames := 1, cells := 0, slots := 0, locals := 21 }) (pR (dC, dI) (tyS cI cV cW) [.ref h, .int (nI r), .int (nI e_)] [(h, .inr (2, [.ref vR, .ref vQ, .ref vF, .ref vW, .ref vP, .ref vH, .ref vN, .ref vO, .int (nI cn), .int wk, .int sc])), (vP, .inl (cI, 16, .inl P)), (vW, .inl (cI, 16, .inl Wd)), (vR, .inl (cI, 6, .inl R)), (vF, .inl (cI, 6, .inl F)), (vH, .inl (cI, 16, .inl Hm))]) (vp_Si (fun r_ => r_ = (bI (cCe P Wd R F r e_)))) 0 0 (fun _ => False) := by
  refine Met.ofW (cc := cX3_canExchange) (maxL := 4) (ret := (some .boolean)) (by decide) rfl ?_
  intro p e s m args below meth c s₁ B hml hv
  obtain ⟨rfl, hP, hK⟩ := hv
  have hx := B.exec
  have hb := B.bytes
  have hr := B.returns
  have hts := atoms_spec (ws := wsX3_canExchange) B.pre
  have hown : s.vm.findClass RX3 = some m.cls := findClass_of_methodNamed B.named
  have hlocks := B.notSynchronized
  have hf21 := hts (.fieldLink RX3 21 "VaultShelves$Vault" "widths" "[I") (by decide +kernel)
  have hf24 := hts (.fieldLink RX3 24 "VaultShelves$Vault" "places" "[I") (by decide +kernel)
  have hiX3 : ∀ w ∈ u_ws RX3 TX3 11, w ∈ wsX3_canExchange := by decide +kernel
  have hl := lv_entry ([.ref h, .int (nI r), .int (nI e_)]) (n := 4) (Nat.le_of_ble_eq_true rfl)
  rw [lg_entry_eq]
  generalize (lg_sl ([.ref h, .int (nI r), .int (nI e_)]) ++ List.replicate (4 - (lg_sl ([.ref h, .int (nI r), .int (nI e_)])).length) Slot.unset).toArray = ls at hl ⊢
  replace hl : lv_has ls 4 [(0, .ref h), (1, .int (nI r)), (2, .int (nI e_))] := hl
  have hc := hV.1
  have hp := (hV.2 r hr_1).1.2
  have hj := (hV.2 r hr_1).2.2
  have hp2 := (hV.2 e_ he_1).1.2
  refine lv_aload_n hx hb dX3_canExchange_0 rfl (lv_at hl 0 rfl) ?_
  refine va_get (D := (dC, dI)) (ci := 2) (v := .ref vW) (C := RX3) (T := TX3) (N := 11) hx hb hts hiX3 hown hK hP 0 rfl rfl 3 (by decide) hf21 (fun _ h9 => h9) rfl dX3_canExchange_1 ?_
  refine lv_iload_n hx hb dX3_canExchange_4 rfl (lv_at hl 2 rfl) ?_
  refine n_iald hx hb hK hP 2 0 rfl rfl (show e_ < 16 from by omega) (by decide) dX3_canExchange_5 ?_
  refine lv_aload_n hx hb dX3_canExchange_6 rfl (lv_at hl 0 rfl) ?_
  refine va_get (D := (dC, dI)) (ci := 2) (v := .ref vW) (C := RX3) (T := TX3) (N := 11) hx hb hts hiX3 hown hK hP 0 rfl rfl 3 (by decide) hf21 (fun _ h9 => h9) rfl dX3_canExchange_7 ?_
  refine lv_iload_n hx hb dX3_canExchange_10 rfl (lv_at hl 1 rfl) ?_
  refine n_iald hx hb hK hP 2 0 rfl rfl (show r < 16 from by omega) (by decide) dX3_canExchange_11 ?_
  refine lv_isub hx hb dX3_canExchange_12 ?_
  refine lv_istore_n (lv' := [(3, .int ((Wd e_) - (Wd r))), (0, .ref h), (1, .int (nI r)), (2, .int (nI e_))]) hx hb dX3_canExchange_13 rfl hl (by decide) rfl (fun ls hl => ?_)
  refine lv_aload_n hx hb dX3_canExchange_14 rfl (lv_at hl 1 rfl) ?_
  refine va_get (D := (dC, dI)) (ci := 2) (v := .ref vP) (C := RX3) (T := TX3) (N := 11) hx hb hts hiX3 hown hK hP 0 rfl rfl 4 (by decide) hf24 (fun _ h9 => h9) rfl dX3_canExchange_15 ?_
  refine lv_iload_n hx hb dX3_canExchange_18 rfl (lv_at hl 2 rfl) ?_
  refine n_iald hx hb hK hP 1 0 rfl rfl (show r < 16 from by omega) (by decide) dX3_canExchange_19 ?_
  refine lv_aload_n hx hb dX3_canExchange_20 rfl (lv_at hl 1 rfl) ?_
  refine va_get (D := (dC, dI)) (ci := 2) (v := .ref vP) (C := RX3) (T := TX3) (N := 11) hx hb hts hiX3 hown hK hP 0 rfl rfl 4 (by decide) hf24 (fun _ h9 => h9) rfl dX3_canExchange_21 ?_
  refine lv_iload_n hx hb dX3_canExchange_24 rfl (lv_at hl 3 rfl) ?_
  refine n_iald hx hb hK hP 1 0 rfl rfl (show e_ < 16 from by omega) (by decide) dX3_canExchange_25 ?_
  refine lv_icmp_eq (tgt := 62) hx hb dX3_canExchange_26 (by decide) (fun c_26 => ?_) (fun c_26 => ?_)
  · refine lv_iconst (v := (nI 0)) hx hb dX3_canExchange_62 (by decide) ?_
    exact W.zret (v := (bI false)) hx hb hr (nar_bI _) (fun t ht hW => ⟨_, rfl, (congrArg bI (show false = (cCe P Wd R F r e_) from by first | rfl | (simp only [cCe, c_26, eq_self, decide_true, decide_false, Bool.not_false, Bool.not_true, Bool.and_true, Bool.true_and, Bool.and_false, Bool.false_and]))), ht⟩) (fun q hq => absurd hq List.not_mem_nil) dX3_canExchange_63
  · refine lv_aload_n hx hb dX3_canExchange_29 rfl (lv_at hl 1 rfl) ?_
    refine lv_aload_n hx hb dX3_canExchange_30 rfl (lv_at hl 1 rfl) ?_
    refine va_get (D := (dC, dI)) (ci := 2) (v := .ref vP) (C := RX3) (T := TX3) (N := 11) hx hb hts hiX3 hown hK hP 0 rfl rfl 4 (by decide) hf24 (fun _ h9 => h9) rfl dX3_canExchange_31 ?_
    refine lv_iload_n hx hb dX3_canExchange_34 rfl (lv_at hl 2 rfl) ?_
    refine n_iald hx hb hK hP 1 0 rfl rfl (show r < 16 from by omega) (by decide) dX3_canExchange_35 ?_
    refine lv_cgi (show (P r) = (nI (ix (P r))) from (hV.2 r hr_1).1.1) ?_
    refine vp_callSi (W.runV (As := [.int (nI (ix (P r)))]) (rest := []) ⟨hx, hb, hml, hown, hts⟩ (kX3_freeRoom l dC dI cI cV cW h vR vQ vF vW vP vH vN vO cn wk sc R F (ix (P r)) (by omega)) (cwV 1 hts gX3_canExchange_X3_freeRoom rfl rfl rfl hdX3_freeRoom ⟨Nat.le_of_ble_eq_true rfl, Nat.le_of_ble_eq_true rfl⟩) (pR_V hK hP 0 2 rfl rfl rfl [0, 3, 4] rfl) rfl rfl hl.1 rfl (lv_room (Nat.le_of_ble_eq_true rfl)) dX3_canExchange_36 ⟨Nat.zero_le _, Nat.zero_le _⟩) (fun r_36 hr_ => ?_)
    subst hr_
    refine lv_iload_n hx hb dX3_canExchange_39 rfl (lv_at hl 0 rfl) ?_
    refine lv_icmp_lt (tgt := 62) hx hb dX3_canExchange_40 (by decide) (fun c_40 => ?_) (fun c_40 => ?_)
    · refine lv_iconst (v := (nI 0)) hx hb dX3_canExchange_62 (by decide) ?_
      exact W.zret (v := (bI false)) hx hb hr (nar_bI _) (fun t ht hW => ⟨_, rfl, (congrArg bI (show false = (cCe P Wd R F r e_) from by first | rfl | (simp only [cCe, c_26, c_40, Int32.not_le.mpr c_40, eq_self, decide_true, decide_false, Bool.not_false, Bool.not_true, Bool.and_true, Bool.true_and, Bool.and_false, Bool.false_and]))), ht⟩) (fun q hq => absurd hq List.not_mem_nil) dX3_canExchange_63
    · refine lv_aload_n hx hb dX3_canExchange_43 rfl (lv_at hl 1 rfl) ?_
      refine lv_aload_n hx hb dX3_canExchange_44 rfl (lv_at hl 1 rfl) ?_
      refine va_get (D := (dC, dI)) (ci := 2) (v := .ref vP) (C := RX3) (T := TX3) (N := 11) hx hb hts hiX3 hown hK hP 0 rfl rfl 4 (by decide) hf24 (fun _ h9 => h9) rfl dX3_canExchange_45 ?_
      refine lv_iload_n hx hb dX3_canExchange_48 rfl (lv_at hl 3 rfl) ?_
      refine n_iald hx hb hK hP 1 0 rfl rfl (show e_ < 16 from by omega) (by decide) dX3_canExchange_49 ?_
      refine lv_cgi (show (P e_) = (nI (ix (P e_))) from (hV.2 e_ he_1).1.1) ?_
      refine vp_callSi (W.runV (As := [.int (nI (ix (P e_)))]) (rest := []) ⟨hx, hb, hml, hown, hts⟩ (kX3_freeRoom l dC dI cI cV cW h vR vQ vF vW vP vH vN vO cn wk sc R F (ix (P e_)) (by omega)) (cwV 1 hts gX3_canExchange_X3_freeRoom rfl rfl rfl hdX3_freeRoom ⟨Nat.le_of_ble_eq_true rfl, Nat.le_of_ble_eq_true rfl⟩) (pR_V hK hP 0 2 rfl rfl rfl [0, 3, 4] rfl) rfl rfl hl.1 rfl (lv_room (Nat.le_of_ble_eq_true rfl)) dX3_canExchange_50 ⟨Nat.zero_le _, Nat.zero_le _⟩) (fun r_50 hr_ => ?_)
      subst hr_
      refine lv_iload_n hx hb dX3_canExchange_53 rfl (lv_at hl 0 rfl) ?_
      refine lv_ineg hx hb dX3_canExchange_54 ?_
      refine lv_icmp_lt (tgt := 62) hx hb dX3_canExchange_55 (by decide) (fun c_55 => ?_) (fun c_55 => ?_)
      · refine lv_iconst (v := (nI 0)) hx hb dX3_canExchange_62 (by decide) ?_
        exact W.zret (v := (bI false)) hx hb hr (nar_bI _) (fun t ht hW => ⟨_, rfl, (congrArg bI (show false = (cCe P Wd R F r e_) from by first | rfl | (simp only [cCe, c_26, c_40, Int32.not_lt.mp c_40, c_55, Int32.not_le.mpr c_55, eq_self, decide_true, decide_false, Bool.not_false, Bool.not_true, Bool.and_true, Bool.true_and, Bool.and_false, Bool.false_and]))), ht⟩) (fun q hq => absurd hq List.not_mem_nil) dX3_canExchange_63
      · refine lv_iconst (v := (nI 1)) hx hb dX3_canExchange_58 (by decide) ?_
        refine lv_goto (tgt := 63) hx hb dX3_canExchange_59 (by decide) ?_
        exact W.zret (v := (bI true)) hx hb hr (nar_bI _) (fun t ht hW => ⟨_, rfl, (congrArg bI (show true = (cCe P Wd R F r e_) from by first | rfl | (simp only [cCe, c_26, c_40, Int32.not_lt.mp c_40, c_55, Int32.not_lt.mp c_55, eq_self, decide_true, decide_false, Bool.not_false, Bool.not_true, Bool.and_true, Bool.true_and, Bool.and_false, Bool.false_and]))), ht⟩) (fun q hq => absurd hq List.not_mem_nil) dX3_canExchange_63
