set_option maxHeartbeats 4000000 in
set_option maxRecDepth 100000 in
theorem kJ3_ck0 (l : Launch) (dC : Nat → ClassId) (dI : Nat → Nat → Nat) (cI cV cW : ClassId) (a : Nat) (b : Nat) (hab : a < b) (hb9 : b < 1000) : Met l yJ3_checkIndex_8e157 wsJ3_checkIndex_8e157 ({ frames := 0, cells := 0, slots := 0, locals := 0 }) (pR (dC, dI) (tyS cI cV cW) [.int (nI a), .int (nI b), .null] []) (vp_Si (fun r_ => r_ = (nI a))) 0 0 (fun _ => False) := by
  refine Met.ofW (cc := cJ3_checkIndex_8e157) (maxL := 3) (ret := (some .int)) (by decide) rfl ?_
  intro p e s m args below meth c s₁ B hml hv
  obtain ⟨rfl, hP, hK⟩ := hv
  have hx := B.exec
  have hb := B.bytes
  have hr := B.returns
  have hts := atoms_spec (ws := wsJ3_checkIndex_8e157) B.pre
  have hown : s.vm.findClass RJ3 = some m.cls := findClass_of_methodNamed B.named
  have hlocks := B.notSynchronized
  have hl := lv_entry ([.int (nI a), .int (nI b), .null]) (n := 3) (Nat.le_of_ble_eq_true rfl)
  rw [lg_entry_eq]
  generalize (lg_sl ([.int (nI a), .int (nI b), .null]) ++ List.replicate (3 - (lg_sl ([.int (nI a), .int (nI b), .null])).length) Slot.unset).toArray = ls at hl ⊢
  replace hl : lv_has ls 3 [(0, .int (nI a)), (1, .int (nI b)), (2, .null)] := hl
  refine lv_iload_n hx hb dJ3_checkIndex_8e157_0 rfl (lv_at hl 0 rfl) ?_
  refine n_if_lt (tgt := 9) hx hb dJ3_checkIndex_8e157_1 (by decide) (by omega) (fun c_1 => (by exfalso; exact c_1)) (fun c_1 => ?_)
  refine lv_iload_n hx hb dJ3_checkIndex_8e157_4 rfl (lv_at hl 0 rfl) ?_
  refine lv_iload_n hx hb dJ3_checkIndex_8e157_5 rfl (lv_at hl 1 rfl) ?_
  refine n_icmp_lt (tgt := 16) hx hb dJ3_checkIndex_8e157_6 (by decide) (by omega) (by omega) (fun c_6 => ?_) (fun c_6 => (by exfalso; omega))
  refine lv_iload_n hx hb dJ3_checkIndex_8e157_16 rfl (lv_at hl 0 rfl) ?_
  exact W.iret (v := (nI a)) hx hb hr (fun t ht hW => ⟨_, rfl, rfl, ht⟩) (fun q hq => absurd hq List.not_mem_nil) dJ3_checkIndex_8e157_17
set_option maxHeartbeats 4000000 in
set_option maxRecDepth 100000 in
theorem kJ3_ck1 (l : Launch) (dC : Nat → ClassId) (dI : Nat → Nat → Nat) (cI cV cW : ClassId) (a : Nat) (b : Nat) (tf : Nat) (hab : a < b) (hb9 : b < 1000) : Met l yJ3_checkIndex_8e157 wsJ3_checkIndex_8e157 ({ frames := 0, cells := 0, slots := 0, locals := 0 }) (pR (dC, dI) (tyS cI cV cW) [.int (nI a), .int (nI b), .ref tf] []) (vp_Si (fun r_ => r_ = (nI a))) 0 0 (fun _ => False) := by
  refine Met.ofW (cc := cJ3_checkIndex_8e157) (maxL := 3) (ret := (some .int)) (by decide) rfl ?_
  intro p e s m args below meth c s₁ B hml hv
  obtain ⟨rfl, hP, hK⟩ := hv
  have hx := B.exec
  have hb := B.bytes
  have hr := B.returns
  have hts := atoms_spec (ws := wsJ3_checkIndex_8e157) B.pre
  have hown : s.vm.findClass RJ3 = some m.cls := findClass_of_methodNamed B.named
  have hlocks := B.notSynchronized
  have hl := lv_entry ([.int (nI a), .int (nI b), .ref tf]) (n := 3) (Nat.le_of_ble_eq_true rfl)
  rw [lg_entry_eq]
  generalize (lg_sl ([.int (nI a), .int (nI b), .ref tf]) ++ List.replicate (3 - (lg_sl ([.int (nI a), .int (nI b), .ref tf])).length) Slot.unset).toArray = ls at hl ⊢
  replace hl : lv_has ls 3 [(0, .int (nI a)), (1, .int (nI b)), (2, .ref tf)] := hl
  refine lv_iload_n hx hb dJ3_checkIndex_8e157_0 rfl (lv_at hl 0 rfl) ?_
  refine n_if_lt (tgt := 9) hx hb dJ3_checkIndex_8e157_1 (by decide) (by omega) (fun c_1 => (by exfalso; exact c_1)) (fun c_1 => ?_)
  refine lv_iload_n hx hb dJ3_checkIndex_8e157_4 rfl (lv_at hl 0 rfl) ?_
  refine lv_iload_n hx hb dJ3_checkIndex_8e157_5 rfl (lv_at hl 1 rfl) ?_
  refine n_icmp_lt (tgt := 16) hx hb dJ3_checkIndex_8e157_6 (by decide) (by omega) (by omega) (fun c_6 => ?_) (fun c_6 => (by exfalso; omega))
  refine lv_iload_n hx hb dJ3_checkIndex_8e157_16 rfl (lv_at hl 0 rfl) ?_
  exact W.iret (v := (nI a)) hx hb hr (fun t ht hW => ⟨_, rfl, rfl, ht⟩) (fun q hq => absurd hq List.not_mem_nil) dJ3_checkIndex_8e157_17
theorem hdJ3_checkIndex_8e157 : yJ3_checkIndex_8e157.cls ≠ "java/lang/invoke/MethodHandle" ∧ yJ3_checkIndex_8e157.cls ≠ "java/lang/invoke/VarHandle" ∧ (parseMethodDescriptor yJ3_checkIndex_8e157.desc).map (fun d => d.parameters.length) = some 3 := by decide +kernel
set_option maxHeartbeats 4000000 in
set_option maxRecDepth 100000 in
theorem kJ0_checkIndex_df160 (l : Launch) (dC : Nat → ClassId) (dI : Nat → Nat → Nat) (cI cV cW : ClassId) (wa sw : Nat) (ad aK aV : Nat → Nat) (a : Nat) (b : Nat) (hab : a < b) (hb9 : b < 1000) : Met l yJ0_checkIndex_df160 wsJ0_checkIndex_df160 ({ frames := 1, cells := 0, slots := 0, locals := 22 }) (pRi wa sw ad aK aV (dC, dI) (tyS cI cV cW) [.int (nI a), .int (nI b)] []) (va_Sv (fun r_ => True)) 0 0 (fun _ => False) := by
  refine Met.ofW (cc := cJ0_checkIndex_df160) (maxL := 2) (ret := none) (by decide) rfl ?_
  intro p e s m args below meth c s₁ B hml hv
  obtain ⟨rfl, hP, hK, hIm, hNw⟩ := hv
  have hS : va_S noA s.heap s.heap [] := va_S.rf
  have hx := B.exec
  have hb := B.bytes
  have hr := B.returns
  have hts := atoms_spec (ws := wsJ0_checkIndex_df160) B.pre
  have hown : s.vm.findClass RJ0 = some m.cls := findClass_of_methodNamed B.named
  have hlocks := B.notSynchronized
  have hf1053 := hts (.fieldLink RJ0 1053 "jdk/internal/util/Preconditions" "SIOOBE_FORMATTER" "Ljava/util/function/BiFunction;") (by decide +kernel)
  have hl := lv_entry ([.int (nI a), .int (nI b)]) (n := 2) (Nat.le_of_ble_eq_true rfl)
  rw [lg_entry_eq]
  generalize (lg_sl ([.int (nI a), .int (nI b)]) ++ List.replicate (2 - (lg_sl ([.int (nI a), .int (nI b)])).length) Slot.unset).toArray = ls at hl ⊢
  replace hl : lv_has ls 2 [(0, .int (nI a)), (1, .int (nI b))] := hl
  refine lv_iload_n hx hb dJ0_checkIndex_df160_0 rfl (lv_at hl 0 rfl) ?_
  refine lv_iload_n hx hb dJ0_checkIndex_df160_1 rfl (lv_at hl 1 rfl) ?_
  rcases hIm.2.2.2.2.2.1 with hfv | ⟨tf, hfv⟩
  · refine va_gets (v := .null) hx hb hfv hS hown hf1053 (fun _ h9 => h9) dJ0_checkIndex_df160_2 ?_
    refine vp_callSi (W.runS (As := [.int (nI a), .int (nI b), .null]) (rest := []) ⟨hx, hb, hml, hown, hts⟩ (kJ3_ck0 l dC dI cI cV cW a b (hab) (hb9)) (va_cwS 3 hts gJ0_checkIndex_df160_J3_checkIndex_8e157 rfl rfl rfl hdJ3_checkIndex_8e157 ⟨Nat.le_of_ble_eq_true rfl, Nat.le_of_ble_eq_true rfl⟩) (pR_S hK hP [] rfl) rfl rfl hl.1 rfl (lv_room (Nat.le_of_ble_eq_true rfl)) dJ0_checkIndex_df160_5 ⟨Nat.zero_le _, Nat.zero_le _⟩) (fun r_5 hr_ => ?_)
    subst hr_
    refine lv_pop hx hb dJ0_checkIndex_df160_8 rfl ?_
    exact W.vret hx hb hr (fun t ht hW => ⟨rfl, trivial, ht⟩) (fun q hq => absurd hq List.not_mem_nil) dJ0_checkIndex_df160_9
  · refine va_gets (v := .ref tf) hx hb hfv hS hown hf1053 (fun _ h9 => h9) dJ0_checkIndex_df160_2 ?_
    refine vp_callSi (W.runS (As := [.int (nI a), .int (nI b), .ref tf]) (rest := []) ⟨hx, hb, hml, hown, hts⟩ (kJ3_ck1 l dC dI cI cV cW a b tf (hab) (hb9)) (va_cwS 3 hts gJ0_checkIndex_df160_J3_checkIndex_8e157 rfl rfl rfl hdJ3_checkIndex_8e157 ⟨Nat.le_of_ble_eq_true rfl, Nat.le_of_ble_eq_true rfl⟩) (pR_S hK hP [] rfl) rfl rfl hl.1 rfl (lv_room (Nat.le_of_ble_eq_true rfl)) dJ0_checkIndex_df160_5 ⟨Nat.zero_le _, Nat.zero_le _⟩) (fun r_5 hr_ => ?_)
    subst hr_
    refine lv_pop hx hb dJ0_checkIndex_df160_8 rfl ?_
    exact W.vret hx hb hr (fun t ht hW => ⟨rfl, trivial, ht⟩) (fun q hq => absurd hq List.not_mem_nil) dJ0_checkIndex_df160_9
set_option maxHeartbeats 4000000 in
set_option maxRecDepth 100000 in
theorem kJ0_coder_7d493 (l : Launch) (dC : Nat → ClassId) (dI : Nat → Nat → Nat) (cI cV cW : ClassId) (wa sw : Nat) (ad aK aV : Nat → Nat) (i : Nat) (hi : i < 5) : Met l yJ0_coder_7d493 wsJ0_coder_7d493 ({ frames := 0, cells := 0, slots := 0, locals := 0 }) (pRi wa sw ad aK aV (dC, dI) (tyS cI cV cW) [.ref (aK i)] []) (vp_Si (fun r_ => r_ = (nI 0))) 0 0 (fun _ => False) := by
  refine Met.ofW (cc := cJ0_coder_7d493) (maxL := 1) (ret := (some .byte)) (by decide) rfl ?_
  intro p e s m args below meth c s₁ B hml hv
  obtain ⟨rfl, hP, hK, hIm, hNw⟩ := hv
  have hS : va_S noA s.heap s.heap [] := va_S.rf
  have hx := B.exec
  have hb := B.bytes
  have hr := B.returns
  have hts := atoms_spec (ws := wsJ0_coder_7d493) B.pre
  have hown : s.vm.findClass RJ0 = some m.cls := findClass_of_methodNamed B.named
  have hlocks := B.notSynchronized
  have hf38 := hts (.fieldLink RJ0 38 "java/lang/String" "COMPACT_STRINGS" "Z") (by decide +kernel)
  have hf15 := hts (.fieldLink RJ0 15 "java/lang/String" "coder" "B") (by decide +kernel)
  have hl := lv_entry ([.ref (aK i)]) (n := 1) (Nat.le_of_ble_eq_true rfl)
  rw [lg_entry_eq]
  generalize (lg_sl ([.ref (aK i)]) ++ List.replicate (1 - (lg_sl ([.ref (aK i)])).length) Slot.unset).toArray = ls at hl ⊢
  replace hl : lv_has ls 1 [(0, .ref (aK i))] := hl
  refine va_gets (v := .int (nI 1)) hx hb hIm.2.2.2.2.1 hS hown hf38 (fun _ h9 => h9) dJ0_coder_7d493_0 ?_
  refine n_if_eq (tgt := 13) hx hb dJ0_coder_7d493_3 (by decide) (by omega) (fun c_3 => absurd c_3 (by decide)) (fun c_3 => ?_)
  refine lv_aload_n hx hb dJ0_coder_7d493_6 rfl (lv_at hl 0 rfl) ?_
  refine vk_getf (v := .int (nI 0)) hx hb (hIm.2.2.2.1.1 i (by omega)).2.1 hS hown hf15 (fun _ h9 => h9) dJ0_coder_7d493_7 ?_
  refine lv_goto (tgt := 14) hx hb dJ0_coder_7d493_10 (by decide) ?_
  exact W.zret (v := (nI 0)) hx hb hr rfl (fun t ht hW => ⟨_, rfl, rfl, ht⟩) (fun q hq => absurd hq List.not_mem_nil) dJ0_coder_7d493_14
theorem hdJ0_coder_7d493 : yJ0_coder_7d493.cls = RJ0 ∧ yJ0_coder_7d493.cls ≠ "java/lang/invoke/MethodHandle" ∧ yJ0_coder_7d493.cls ≠ "java/lang/invoke/VarHandle" ∧ (parseMethodDescriptor yJ0_coder_7d493.desc).map (fun d => d.parameters.length) = some 0 := by decide +kernel
set_option maxHeartbeats 4000000 in
set_option maxRecDepth 100000 in
theorem kJ0_length_8abf5 (l : Launch) (dC : Nat → ClassId) (dI : Nat → Nat → Nat) (cI cV cW : ClassId) (wa sw : Nat) (ad aK aV : Nat → Nat) (i : Nat) (hi : i < 5) : Met l yJ0_length_8abf5 wsJ0_length_8abf5 ({ frames := 1, cells := 0, slots := 0, locals := 20 }) (pRi wa sw ad aK aV (dC, dI) (tyS cI cV cW) [.ref (aK i)] []) (vp_Si (fun r_ => r_ = (nI (wLn.getD i 0)))) 0 0 (fun _ => False) := by
  refine Met.ofW (cc := cJ0_length_8abf5) (maxL := 1) (ret := (some .int)) (by decide) rfl ?_
  intro p e s m args below meth c s₁ B hml hv
  obtain ⟨rfl, hP, hK, hIm, hNw⟩ := hv
  have hS : va_S noA s.heap s.heap [] := va_S.rf
  have hx := B.exec
  have hb := B.bytes
  have hr := B.returns
  have hts := atoms_spec (ws := wsJ0_length_8abf5) B.pre
  have hown : s.vm.findClass RJ0 = some m.cls := findClass_of_methodNamed B.named
  have hlocks := B.notSynchronized
  have hf9 := hts (.fieldLink RJ0 9 "java/lang/String" "value" "[B") (by decide +kernel)
  have hl := lv_entry ([.ref (aK i)]) (n := 1) (Nat.le_of_ble_eq_true rfl)
  rw [lg_entry_eq]
  generalize (lg_sl ([.ref (aK i)]) ++ List.replicate (1 - (lg_sl ([.ref (aK i)])).length) Slot.unset).toArray = ls at hl ⊢
  replace hl : lv_has ls 1 [(0, .ref (aK i))] := hl
  refine lv_aload_n hx hb dJ0_length_8abf5_0 rfl (lv_at hl 0 rfl) ?_
  refine vk_getf (v := .ref (aV i)) hx hb (hIm.2.2.2.1.1 i (by omega)).2.2.1 hS hown hf9 (fun _ h9 => h9) dJ0_length_8abf5_1 ?_
  refine va_tlen (v := nI (wLn.getD i 0)) hx hb (hIm.2.2.2.1.1 i (by omega)).2.2.2 hS rfl dJ0_length_8abf5_4 ?_
  refine lv_aload_n hx hb dJ0_length_8abf5_5 rfl (lv_at hl 0 rfl) ?_
  refine vp_callSi (W.runV (As := []) (rest := [.int (nI (wLn.getD i 0))]) ⟨hx, hb, hml, hown, hts⟩ (kJ0_coder_7d493 l dC dI cI cV cW wa sw ad aK aV i (hi)) (cwV 0 hts gJ0_length_8abf5_J0_coder_7d493 rfl rfl rfl hdJ0_coder_7d493 ⟨Nat.le_of_ble_eq_true rfl, Nat.le_of_ble_eq_true rfl⟩) (pRi_O hK hP (imR hIm hS) hNw (((hIm.2.2.2.1.1 i (by omega)).1.kept hS.2.1).narrow (fun _ h => h.elim)) [] rfl) rfl rfl hl.1 rfl (lv_room (Nat.le_of_ble_eq_true rfl)) dJ0_length_8abf5_6 ⟨Nat.zero_le _, Nat.zero_le _⟩) (fun r_6 hr_ => ?_)
  subst hr_
  refine lv_ishr hx hb dJ0_length_8abf5_9 ?_
  refine lv_cgi (show _ = (nI (wLn.getD i 0)) from sc_shr0 (by have := (wLn_le i hi).1; omega)) ?_
  exact W.iret (v := (nI (wLn.getD i 0))) hx hb hr (fun t ht hW => ⟨_, rfl, rfl, ht⟩) (fun q hq => absurd hq List.not_mem_nil) dJ0_length_8abf5_10
set_option maxHeartbeats 4000000 in
set_option maxRecDepth 100000 in
theorem kJ0_isLatin1_aae02 (l : Launch) (dC : Nat → ClassId) (dI : Nat → Nat → Nat) (cI cV cW : ClassId) (wa sw : Nat) (ad aK aV : Nat → Nat) (i : Nat) (hi : i < 5) : Met l yJ0_isLatin1_aae02 wsJ0_isLatin1_aae02 ({ frames := 0, cells := 0, slots := 0, locals := 0 }) (pRi wa sw ad aK aV (dC, dI) (tyS cI cV cW) [.ref (aK i)] []) (vp_Si (fun r_ => r_ = (bI true))) 0 0 (fun _ => False) := by
  refine Met.ofW (cc := cJ0_isLatin1_aae02) (maxL := 1) (ret := (some .boolean)) (by decide) rfl ?_
  intro p e s m args below meth c s₁ B hml hv
  obtain ⟨rfl, hP, hK, hIm, hNw⟩ := hv
  have hS : va_S noA s.heap s.heap [] := va_S.rf
  have hx := B.exec
  have hb := B.bytes
  have hr := B.returns
  have hts := atoms_spec (ws := wsJ0_isLatin1_aae02) B.pre
  have hown : s.vm.findClass RJ0 = some m.cls := findClass_of_methodNamed B.named
  have hlocks := B.notSynchronized
  have hf38 := hts (.fieldLink RJ0 38 "java/lang/String" "COMPACT_STRINGS" "Z") (by decide +kernel)
  have hf15 := hts (.fieldLink RJ0 15 "java/lang/String" "coder" "B") (by decide +kernel)
  have hl := lv_entry ([.ref (aK i)]) (n := 1) (Nat.le_of_ble_eq_true rfl)
  rw [lg_entry_eq]
  generalize (lg_sl ([.ref (aK i)]) ++ List.replicate (1 - (lg_sl ([.ref (aK i)])).length) Slot.unset).toArray = ls at hl ⊢
  replace hl : lv_has ls 1 [(0, .ref (aK i))] := hl
  refine va_gets (v := .int (nI 1)) hx hb hIm.2.2.2.2.1 hS hown hf38 (fun _ h9 => h9) dJ0_isLatin1_aae02_0 ?_
  refine n_if_eq (tgt := 17) hx hb dJ0_isLatin1_aae02_3 (by decide) (by omega) (fun c_3 => absurd c_3 (by decide)) (fun c_3 => ?_)
  refine lv_aload_n hx hb dJ0_isLatin1_aae02_6 rfl (lv_at hl 0 rfl) ?_
  refine vk_getf (v := .int (nI 0)) hx hb (hIm.2.2.2.1.1 i (by omega)).2.1 hS hown hf15 (fun _ h9 => h9) dJ0_isLatin1_aae02_7 ?_
  refine n_if_ne (tgt := 17) hx hb dJ0_isLatin1_aae02_10 (by decide) (by omega) (fun c_10 => absurd c_10 (by decide)) (fun c_10 => ?_)
  refine lv_iconst (v := (nI 1)) hx hb dJ0_isLatin1_aae02_13 (by decide) ?_
  refine lv_goto (tgt := 18) hx hb dJ0_isLatin1_aae02_14 (by decide) ?_
  exact W.zret (v := (bI true)) hx hb hr (nar_bI _) (fun t ht hW => ⟨_, rfl, rfl, ht⟩) (fun q hq => absurd hq List.not_mem_nil) dJ0_isLatin1_aae02_18
theorem hdJ0_checkIndex_df160 : yJ0_checkIndex_df160.cls ≠ "java/lang/invoke/MethodHandle" ∧ yJ0_checkIndex_df160.cls ≠ "java/lang/invoke/VarHandle" ∧ (parseMethodDescriptor yJ0_checkIndex_df160.desc).map (fun d => d.parameters.length) = some 2 := by decide +kernel
set_option maxHeartbeats 4000000 in
set_option maxRecDepth 100000 in
theorem kJ1_charAt_3b067 (l : Launch) (dC : Nat → ClassId) (dI : Nat → Nat → Nat) (cI cV cW : ClassId) (wa sw : Nat) (ad aK aV : Nat → Nat) (i : Nat) (j : Nat) (hi : i < 5) (hj : j < wLn.getD i 0) : Met l yJ1_charAt_3b067 wsJ1_charAt_3b067 ({ frames := 2, cells := 0, slots := 0, locals := 43 }) (pRi wa sw ad aK aV (dC, dI) (tyS cI cV cW) [.ref (aV i), .int (nI j)] []) (vp_Si (fun r_ => r_ = (wCh i j))) 0 0 (fun _ => False) := by
  refine Met.ofW (cc := cJ1_charAt_3b067) (maxL := 2) (ret := (some .char)) (by decide) rfl ?_
  intro p e s m args below meth c s₁ B hml hv
  obtain ⟨rfl, hP, hK, hIm, hNw⟩ := hv
  have hS : va_S noA s.heap s.heap [] := va_S.rf
  have hx := B.exec
  have hb := B.bytes
  have hr := B.returns
  have hts := atoms_spec (ws := wsJ1_charAt_3b067) B.pre
  have hown : s.vm.findClass RJ1 = some m.cls := findClass_of_methodNamed B.named
  have hlocks := B.notSynchronized
  have hl := lv_entry ([.ref (aV i), .int (nI j)]) (n := 2) (Nat.le_of_ble_eq_true rfl)
  rw [lg_entry_eq]
  generalize (lg_sl ([.ref (aV i), .int (nI j)]) ++ List.replicate (2 - (lg_sl ([.ref (aV i), .int (nI j)])).length) Slot.unset).toArray = ls at hl ⊢
  replace hl : lv_has ls 2 [(0, .ref (aV i)), (1, .int (nI j))] := hl
  have hle := (wLn_le i hi).1
  refine lv_iload_n hx hb dJ1_charAt_3b067_0 rfl (lv_at hl 1 rfl) ?_
  refine lv_aload_n hx hb dJ1_charAt_3b067_1 rfl (lv_at hl 0 rfl) ?_
  refine va_tlen (v := nI (wLn.getD i 0)) hx hb (hIm.2.2.2.1.1 i (by omega)).2.2.2 hS rfl dJ1_charAt_3b067_2 ?_
  refine va_csv (W.runS (As := [.int (nI j), .int (nI (wLn.getD i 0))]) (rest := []) ⟨hx, hb, hml, hown, hts⟩ (kJ0_checkIndex_df160 l dC dI cI cV cW wa sw ad aK aV j (wLn.getD i 0) (by omega) (by omega)) (va_cwS 2 hts gJ1_charAt_3b067_J0_checkIndex_df160 rfl rfl rfl hdJ0_checkIndex_df160 ⟨Nat.le_of_ble_eq_true rfl, Nat.le_of_ble_eq_true rfl⟩) (pRi_S hK hP (imR hIm hS) hNw [] rfl) rfl rfl hl.1 rfl (lv_room (Nat.le_of_ble_eq_true rfl)) dJ1_charAt_3b067_3 ⟨Nat.zero_le _, Nat.zero_le _⟩) (fun _ => ?_)
  refine lv_aload_n hx hb dJ1_charAt_3b067_6 rfl (lv_at hl 0 rfl) ?_
  refine lv_iload_n hx hb dJ1_charAt_3b067_7 rfl (lv_at hl 1 rfl) ?_
  refine va_tb (v := .int (wCh i j)) hx hb (hIm.2.2.2.1.1 i (by omega)).2.2.2 hS (vp_in_nI (by omega) (by have := (wLn_le i (by omega)).1; omega)) (by rw [nI_clamp (by have := (wLn_le i (by omega)).1; omega)]; rfl) dJ1_charAt_3b067_8 ?_
  refine lv_sipush (v := (nI 255)) hx hb dJ1_charAt_3b067_9 (by decide) ?_
  refine lv_iand hx hb dJ1_charAt_3b067_12 ?_
  refine lv_i2c (v := (wCh i j)) hx hb dJ1_charAt_3b067_13 (by rw [(wCh_and i hi j hj).1]; exact (wCh_and i hi j hj).2) ?_
  exact W.zret (v := (wCh i j)) hx hb hr (wCh_char i hi j hj) (fun t ht hW => ⟨_, rfl, rfl, ht⟩) (fun q hq => absurd hq List.not_mem_nil) dJ1_charAt_3b067_14
theorem hdJ0_isLatin1_aae02 : yJ0_isLatin1_aae02.cls = RJ0 ∧ yJ0_isLatin1_aae02.cls ≠ "java/lang/invoke/MethodHandle" ∧ yJ0_isLatin1_aae02.cls ≠ "java/lang/invoke/VarHandle" ∧ (parseMethodDescriptor yJ0_isLatin1_aae02.desc).map (fun d => d.parameters.length) = some 0 := by decide +kernel
theorem hdJ1_charAt_3b067 : yJ1_charAt_3b067.cls ≠ "java/lang/invoke/MethodHandle" ∧ yJ1_charAt_3b067.cls ≠ "java/lang/invoke/VarHandle" ∧ (parseMethodDescriptor yJ1_charAt_3b067.desc).map (fun d => d.parameters.length) = some 2 := by decide +kernel
set_option maxHeartbeats 4000000 in
set_option maxRecDepth 100000 in
theorem kJ0_charAt_5068e (l : Launch) (dC : Nat → ClassId) (dI : Nat → Nat → Nat) (cI cV cW : ClassId) (wa sw : Nat) (ad aK aV : Nat → Nat) (i : Nat) (j : Nat) (hi : i < 5) (hj : j < wLn.getD i 0) : Met l yJ0_charAt_5068e wsJ0_charAt_5068e ({ frames := 3, cells := 0, slots := 0, locals := 64 }) (pRi wa sw ad aK aV (dC, dI) (tyS cI cV cW) [.ref (aK i), .int (nI j)] []) (vp_Si (fun r_ => r_ = (wCh i j))) 0 0 (fun _ => False) := by
  refine Met.ofW (cc := cJ0_charAt_5068e) (maxL := 2) (ret := (some .char)) (by decide) rfl ?_
  intro p e s m args below meth c s₁ B hml hv
  obtain ⟨rfl, hP, hK, hIm, hNw⟩ := hv
  have hS : va_S noA s.heap s.heap [] := va_S.rf
  have hx := B.exec
  have hb := B.bytes
  have hr := B.returns
  have hts := atoms_spec (ws := wsJ0_charAt_5068e) B.pre
  have hown : s.vm.findClass RJ0 = some m.cls := findClass_of_methodNamed B.named
  have hlocks := B.notSynchronized
  have hf9 := hts (.fieldLink RJ0 9 "java/lang/String" "value" "[B") (by decide +kernel)
  have hl := lv_entry ([.ref (aK i), .int (nI j)]) (n := 2) (Nat.le_of_ble_eq_true rfl)
  rw [lg_entry_eq]
  generalize (lg_sl ([.ref (aK i), .int (nI j)]) ++ List.replicate (2 - (lg_sl ([.ref (aK i), .int (nI j)])).length) Slot.unset).toArray = ls at hl ⊢
  replace hl : lv_has ls 2 [(0, .ref (aK i)), (1, .int (nI j))] := hl
  refine lv_aload_n hx hb dJ0_charAt_5068e_0 rfl (lv_at hl 0 rfl) ?_
  refine vp_callSi (W.runV (As := []) (rest := []) ⟨hx, hb, hml, hown, hts⟩ (kJ0_isLatin1_aae02 l dC dI cI cV cW wa sw ad aK aV i (hi)) (cwV 0 hts gJ0_charAt_5068e_J0_isLatin1_aae02 rfl rfl rfl hdJ0_isLatin1_aae02 ⟨Nat.le_of_ble_eq_true rfl, Nat.le_of_ble_eq_true rfl⟩) (pRi_O hK hP (imR hIm hS) hNw (((hIm.2.2.2.1.1 i (by omega)).1.kept hS.2.1).narrow (fun _ h => h.elim)) [] rfl) rfl rfl hl.1 rfl (lv_room (Nat.le_of_ble_eq_true rfl)) dJ0_charAt_5068e_1 ⟨Nat.zero_le _, Nat.zero_le _⟩) (fun r_1 hr_ => ?_)
  subst hr_
  refine b_if_eq (tgt := 16) hx hb dJ0_charAt_5068e_4 (by decide) (fun c_4 => absurd c_4 (by decide)) (fun c_4 => ?_)
  refine lv_aload_n hx hb dJ0_charAt_5068e_7 rfl (lv_at hl 0 rfl) ?_
  refine vk_getf (v := .ref (aV i)) hx hb (hIm.2.2.2.1.1 i (by omega)).2.2.1 hS hown hf9 (fun _ h9 => h9) dJ0_charAt_5068e_8 ?_
  refine lv_iload_n hx hb dJ0_charAt_5068e_11 rfl (lv_at hl 1 rfl) ?_
  refine vp_callSi (W.runS (As := [.ref (aV i), .int (nI j)]) (rest := []) ⟨hx, hb, hml, hown, hts⟩ (kJ1_charAt_3b067 l dC dI cI cV cW wa sw ad aK aV i j (hi) (hj)) (va_cwS 2 hts gJ0_charAt_5068e_J1_charAt_3b067 rfl rfl rfl hdJ1_charAt_3b067 ⟨Nat.le_of_ble_eq_true rfl, Nat.le_of_ble_eq_true rfl⟩) (pRi_S hK hP (imR hIm hS) hNw [] rfl) rfl rfl hl.1 rfl (lv_room (Nat.le_of_ble_eq_true rfl)) dJ0_charAt_5068e_12 ⟨Nat.zero_le _, Nat.zero_le _⟩) (fun r_12 hr_ => ?_)
  subst hr_
  exact W.zret (v := (wCh i j)) hx hb hr (wCh_char i hi j hj) (fun t ht hW => ⟨_, rfl, rfl, ht⟩) (fun q hq => absurd hq List.not_mem_nil) dJ0_charAt_5068e_15
set_option maxHeartbeats 4000000 in
set_option maxRecDepth 100000 in
theorem kX4_hasNumber (l : Launch) (dC : Nat → ClassId) (dI : Nat → Nat → Nat) (cI cV cW : ClassId) (wa sw : Nat) (ad aK aV : Nat → Nat) (i : Nat) (hi : i < 5) : Met l yX4_hasNumber wsX4_hasNumber ({ frames := 0, cells := 0, slots := 0, locals := 0 }) (pRi wa sw ad aK aV (dC, dI) (tyS cI cV cW) [.ref (ad i)] []) (vp_Si (fun r_ => r_ = (bI (!decide (wLe i = -1))))) 0 0 (fun _ => False) := by
  refine Met.ofW (cc := cX4_hasNumber) (maxL := 1) (ret := (some .boolean)) (by decide) rfl ?_
  intro p e s m args below meth c s₁ B hml hv
  obtain ⟨rfl, hP, hK, hIm, hNw⟩ := hv
  have hS : va_S noA s.heap s.heap [] := va_S.rf
  have hx := B.exec
  have hb := B.bytes
  have hr := B.returns
  have hts := atoms_spec (ws := wsX4_hasNumber) B.pre
  have hown : s.vm.findClass RX4 = some m.cls := findClass_of_methodNamed B.named
  have hlocks := B.notSynchronized
  have hf44 := hts (.fieldLink RX4 44 "VaultShelves$Word" "least" "I") (by decide +kernel)
  have hl := lv_entry ([.ref (ad i)]) (n := 1) (Nat.le_of_ble_eq_true rfl)
  rw [lg_entry_eq]
  generalize (lg_sl ([.ref (ad i)]) ++ List.replicate (1 - (lg_sl ([.ref (ad i)])).length) Slot.unset).toArray = ls at hl ⊢
  replace hl : lv_has ls 1 [(0, .ref (ad i))] := hl
  refine lv_aload_n hx hb dX4_hasNumber_0 rfl (lv_at hl 0 rfl) ?_
  refine vk_getf (v := .int (wLe i)) hx hb (hIm.2.2.1 i (by omega)).2.2.1 hS hown hf44 (fun _ h9 => h9) dX4_hasNumber_1 ?_
  refine lv_iconst (v := (-1)) hx hb dX4_hasNumber_4 (by decide) ?_
  refine lv_icmp_eq (tgt := 12) hx hb dX4_hasNumber_5 (by decide) (fun c_5 => ?_) (fun c_5 => ?_)
  · refine lv_iconst (v := (nI 0)) hx hb dX4_hasNumber_12 (by decide) ?_
    exact W.zret (v := (bI false)) hx hb hr (nar_bI _) (fun t ht hW => ⟨_, rfl, (congrArg bI (show false = (!decide (wLe i = -1)) from by first | rfl | (simp [c_5]))), ht⟩) (fun q hq => absurd hq List.not_mem_nil) dX4_hasNumber_13
  · refine lv_iconst (v := (nI 1)) hx hb dX4_hasNumber_8 (by decide) ?_
    refine lv_goto (tgt := 13) hx hb dX4_hasNumber_9 (by decide) ?_
    exact W.zret (v := (bI true)) hx hb hr (nar_bI _) (fun t ht hW => ⟨_, rfl, (congrArg bI (show true = (!decide (wLe i = -1)) from by first | rfl | (simp [c_5]))), ht⟩) (fun q hq => absurd hq List.not_mem_nil) dX4_hasNumber_13
theorem hdJ0_length_8abf5 : yJ0_length_8abf5.cls = RJ0 ∧ yJ0_length_8abf5.cls ≠ "java/lang/invoke/MethodHandle" ∧ yJ0_length_8abf5.cls ≠ "java/lang/invoke/VarHandle" ∧ (parseMethodDescriptor yJ0_length_8abf5.desc).map (fun d => d.parameters.length) = some 0 := by decide +kernel
theorem hdJ0_charAt_5068e : yJ0_charAt_5068e.cls = RJ0 ∧ yJ0_charAt_5068e.cls ≠ "java/lang/invoke/MethodHandle" ∧ yJ0_charAt_5068e.cls ≠ "java/lang/invoke/VarHandle" ∧ (parseMethodDescriptor yJ0_charAt_5068e.desc).map (fun d => d.parameters.length) = some 1 := by decide +kernel
set_option maxHeartbeats 4000000 in
set_option maxRecDepth 100000 in
theorem kX4_beginsWith (l : Launch) (dC : Nat → ClassId) (dI : Nat → Nat → Nat) (cI cV cW : ClassId) (wa sw : Nat) (ad aK aV : Nat → Nat) (i : Nat) (x : Int32) (hi : i < 5) : Met l yX4_beginsWith wsX4_beginsWith ({ frames := 4, cells := 0, slots := 0, locals := 85 }) (pRi wa sw ad aK aV (dC, dI) (tyS cI cV cW) [.ref (ad i), .int x] []) (vp_Si (fun r_ => r_ = (bI (decide (wCh i 0 = x))))) 0 0 (fun _ => False) := by
  refine Met.ofW (cc := cX4_beginsWith) (maxL := 2) (ret := (some .boolean)) (by decide) rfl ?_
  intro p e s m args below meth c s₁ B hml hv
  obtain ⟨rfl, hP, hK, hIm, hNw⟩ := hv
  have hS : va_S noA s.heap s.heap [] := va_S.rf
  have hx := B.exec
  have hb := B.bytes
  have hr := B.returns
  have hts := atoms_spec (ws := wsX4_beginsWith) B.pre
  have hown : s.vm.findClass RX4 = some m.cls := findClass_of_methodNamed B.named
  have hlocks := B.notSynchronized
  have hf40 := hts (.fieldLink RX4 40 "VaultShelves$Word" "letters" "Ljava/lang/String;") (by decide +kernel)
  have hl := lv_entry ([.ref (ad i), .int x]) (n := 2) (Nat.le_of_ble_eq_true rfl)
  rw [lg_entry_eq]
  generalize (lg_sl ([.ref (ad i), .int x]) ++ List.replicate (2 - (lg_sl ([.ref (ad i), .int x])).length) Slot.unset).toArray = ls at hl ⊢
  replace hl : lv_has ls 2 [(0, .ref (ad i)), (1, .int x)] := hl
  have hle := wLn_le i hi
  refine lv_aload_n hx hb dX4_beginsWith_0 rfl (lv_at hl 0 rfl) ?_
  refine vk_getf (v := .ref (aK i)) hx hb (hIm.2.2.1 i (by omega)).2.1 hS hown hf40 (fun _ h9 => h9) dX4_beginsWith_1 ?_
  refine vp_callSi (W.runV (As := []) (rest := []) ⟨hx, hb, hml, hown, hts⟩ (kJ0_length_8abf5 l dC dI cI cV cW wa sw ad aK aV i (hi)) (cwV 0 hts gX4_beginsWith_J0_length_8abf5 rfl rfl rfl hdJ0_length_8abf5 ⟨Nat.le_of_ble_eq_true rfl, Nat.le_of_ble_eq_true rfl⟩) (pRi_O hK hP (imR hIm hS) hNw (((hIm.2.2.2.1.1 i (by omega)).1.kept hS.2.1).narrow (fun _ h => h.elim)) [] rfl) rfl rfl hl.1 rfl (lv_room (Nat.le_of_ble_eq_true rfl)) dX4_beginsWith_4 ⟨Nat.zero_le _, Nat.zero_le _⟩) (fun r_4 hr_ => ?_)
  subst hr_
  refine n_if_le (tgt := 26) hx hb dX4_beginsWith_7 (by decide) (by omega) (fun c_7 => (by exfalso; omega)) (fun c_7 => ?_)
  refine lv_aload_n hx hb dX4_beginsWith_10 rfl (lv_at hl 0 rfl) ?_
  refine vk_getf (v := .ref (aK i)) hx hb (hIm.2.2.1 i (by omega)).2.1 hS hown hf40 (fun _ h9 => h9) dX4_beginsWith_11 ?_
  refine lv_iconst (v := (nI 0)) hx hb dX4_beginsWith_14 (by decide) ?_
  refine vp_callSi (W.runV (As := [.int (nI 0)]) (rest := []) ⟨hx, hb, hml, hown, hts⟩ (kJ0_charAt_5068e l dC dI cI cV cW wa sw ad aK aV i 0 (hi) (by omega)) (cwV 1 hts gX4_beginsWith_J0_charAt_5068e rfl rfl rfl hdJ0_charAt_5068e ⟨Nat.le_of_ble_eq_true rfl, Nat.le_of_ble_eq_true rfl⟩) (pRi_O hK hP (imR hIm hS) hNw (((hIm.2.2.2.1.1 i (by omega)).1.kept hS.2.1).narrow (fun _ h => h.elim)) [] rfl) rfl rfl hl.1 rfl (lv_room (Nat.le_of_ble_eq_true rfl)) dX4_beginsWith_15 ⟨Nat.zero_le _, Nat.zero_le _⟩) (fun r_15 hr_ => ?_)
  subst hr_
  refine lv_iload_n hx hb dX4_beginsWith_18 rfl (lv_at hl 1 rfl) ?_
  refine lv_icmp_ne (tgt := 26) hx hb dX4_beginsWith_19 (by decide) (fun c_19 => ?_) (fun c_19 => ?_)
  · refine lv_iconst (v := (nI 0)) hx hb dX4_beginsWith_26 (by decide) ?_
    exact W.zret (v := (bI false)) hx hb hr (nar_bI _) (fun t ht hW => ⟨_, rfl, (congrArg bI (show false = (decide (wCh i 0 = x)) from by first | rfl | (simp [c_7, c_19]))), ht⟩) (fun q hq => absurd hq List.not_mem_nil) dX4_beginsWith_27
  · refine lv_iconst (v := (nI 1)) hx hb dX4_beginsWith_22 (by decide) ?_
    refine lv_goto (tgt := 27) hx hb dX4_beginsWith_23 (by decide) ?_
    exact W.zret (v := (bI true)) hx hb hr (nar_bI _) (fun t ht hW => ⟨_, rfl, (congrArg bI (show true = (decide (wCh i 0 = x)) from by first | rfl | (simp [c_7, c_19]))), ht⟩) (fun q hq => absurd hq List.not_mem_nil) dX4_beginsWith_27
set_option maxHeartbeats 4000000 in
set_option maxRecDepth 100000 in
theorem kJx29ce0_ordinal_8abf5 (l : Launch) (dC : Nat → ClassId) (dI : Nat → Nat → Nat) (cI cV cW : ClassId) (wa sw : Nat) (ad aK aV : Nat → Nat) (i : Nat) (hi : i < 5) : Met l yJx29ce0_ordinal_8abf5 wsJx29ce0_ordinal_8abf5 ({ frames := 0, cells := 0, slots := 0, locals := 0 }) (pRi wa sw ad aK aV (dC, dI) (tyS cI cV cW) [.ref (ad i)] []) (vp_Si (fun r_ => r_ = (nI i))) 0 0 (fun _ => False) := by
  refine Met.ofW (cc := cJx29ce0_ordinal_8abf5) (maxL := 1) (ret := (some .int)) (by decide) rfl ?_
  intro p e s m args below meth c s₁ B hml hv
  obtain ⟨rfl, hP, hK, hIm, hNw⟩ := hv
  have hS : va_S noA s.heap s.heap [] := va_S.rf
  have hx := B.exec
  have hb := B.bytes
  have hr := B.returns
  have hts := atoms_spec (ws := wsJx29ce0_ordinal_8abf5) B.pre
  have hown : s.vm.findClass RJx29ce0 = some m.cls := findClass_of_methodNamed B.named
  have hlocks := B.notSynchronized
  have hf7 := hts (.fieldLink RJx29ce0 7 "java/lang/Enum" "ordinal" "I") (by decide +kernel)
  have hl := lv_entry ([.ref (ad i)]) (n := 1) (Nat.le_of_ble_eq_true rfl)
  rw [lg_entry_eq]
  generalize (lg_sl ([.ref (ad i)]) ++ List.replicate (1 - (lg_sl ([.ref (ad i)])).length) Slot.unset).toArray = ls at hl ⊢
  replace hl : lv_has ls 1 [(0, .ref (ad i))] := hl
  refine lv_aload_n hx hb dJx29ce0_ordinal_8abf5_0 rfl (lv_at hl 0 rfl) ?_
  refine vk_getf (v := .int (nI i)) hx hb (hIm.2.2.1 i (by omega)).2.2.2.2.2 hS hown hf7 (fun _ h9 => h9) dJx29ce0_ordinal_8abf5_1 ?_
  exact W.iret (v := (nI i)) hx hb hr (fun t ht hW => ⟨_, rfl, rfl, ht⟩) (fun q hq => absurd hq List.not_mem_nil) dJx29ce0_ordinal_8abf5_4
