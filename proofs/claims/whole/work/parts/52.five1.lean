theorem rs_t {y : Int32} (h1 : ¬ y < 0) (h2 : y < nI 6) : sIn y 0 5 = true := by
  obtain ⟨j, hj, rfl⟩ := nI_of h1
  have h3 := (nI_ltI hj (by decide)).mp h2
  simp only [sIn, Bool.and_eq_true, decide_eq_true_eq]
  exact ⟨Int32.not_lt.mp h1, (nI_leI (b := 5) hj (by decide)).mpr (by omega)⟩
theorem rs_f {y : Int32} (h : y < 0 ∨ ¬ y < nI 6) : sIn y 0 5 = false := by
  rcases h with h | h
  · simp only [sIn, decide_eq_false (Int32.not_le.mpr h), Bool.false_and]
  · have : ¬ y ≤ 5 := fun q => h (Int32.lt_of_le_of_lt q (by decide))
    simp only [sIn, decide_eq_false this, Bool.and_false]
theorem rw_t {y lo hi : Int32} (h1 : ¬ y < lo) (h2 : y ≤ hi) : sIn y lo hi = true := by
  simp only [sIn, Bool.and_eq_true, decide_eq_true_eq]
  exact ⟨Int32.not_lt.mp h1, h2⟩
theorem rw_f {y lo hi : Int32} (h : y < lo ∨ hi < y) : sIn y lo hi = false := by
  rcases h with h | h
  · simp only [sIn, decide_eq_false (Int32.not_le.mpr h), Bool.false_and]
  · simp only [sIn, decide_eq_false (Int32.not_le.mpr h), Bool.and_false]
set_option maxHeartbeats 4000000 in
set_option maxRecDepth 100000 in
theorem kX5_requireShelf (l : Launch) (dC : Nat → ClassId) (dI : Nat → Nat → Nat) (cI cV cW : ClassId) (wa sw : Nat) (ad aK aV : Nat → Nat) (sa : Nat → Nat) (hlt : l.stackTraces = false) (sz : Nat) (y : Int32)  : vx_Met l yX5_requireShelf wsX5_requireShelf ({ frames := 6, cells := 1, slots := 6, locals := 100 }) (pWx sa wa sw ad aK aV (dC, dI) (tyS cI cV cW) sz [.int y] []) (va_Qv (fun (_ : Unit) => sIn y 0 5 = true) (fun (_ : Unit) t => qB (dC, dI) (tyS cI cV cW) (va_A [] sz) [] t) (va_A [] sz)) (vx_X (fun (_ : Unit) => True) (fun (E9 : String) _ t => (E9 = eI ∧ sIn y 0 5 = false) ∧ qB (dC, dI) (tyS cI cV cW) (va_A [] sz) [] t) (va_A [] sz)) 1 6 (va_A [] sz) := by
  refine vx_ofW (cc := cX5_requireShelf) (maxL := 1) (ret := none) (by decide) rfl ?_
  intro p e s m args below meth c s₁ B hml hno hv
  obtain ⟨rfl, hsz, hP, hK, hD0, hIm, hNw, hXm⟩ := hv
  have hx := B.exec
  have hb := B.bytes
  have hr := B.returns
  have hts := atoms_spec (ws := wsX5_requireShelf) B.pre
  have hown : s.vm.findClass RX5 = some m.cls := findClass_of_methodNamed B.named
  have hlocks := B.notSynchronized
  subst hsz
  have hD := hD0.self (sz := s.heap.size)
  generalize hAe : va_A [] s.heap.size = A at hD hIm hXm ⊢
  have hA : ∀ q : Nat, s.heap.size ≤ q → A q := fun q h => by rw [← hAe]; exact Or.inr h
  have hS : va_S A s.heap s.heap [] := va_S.rf
  refine w_gen hP hS (fun H locs hP hS => ?_)
  have hl := lv_entry ([.int y]) (n := 1) (Nat.le_of_ble_eq_true rfl)
  rw [lg_entry_eq]
  generalize (lg_sl ([.int y]) ++ List.replicate (1 - (lg_sl ([.int y])).length) Slot.unset).toArray = ls at hl ⊢
  replace hl : lv_has ls 1 [(0, .int y)] := hl
  refine lv_iload_n hx hb dX5_requireShelf_0 rfl (lv_at hl 0 rfl) ?_
  refine lv_if_lt (tgt := 10) hx hb dX5_requireShelf_1 (by decide) (fun c_1 => ?_) (fun c_1 => ?_)
  · exact vx_throwS (cls := eI) (text := "there is no such shelf") (names := eNs) (ik := 221) (is := 223) (ic := 225) (sa := sa 223) hx hb hlt hown fitE.1 fitE.2.2.2 (hts (.classLink RX5 221 eI) (by decide +kernel)) (hts (.initialized eI) (by decide +kernel)) (hXm.2.2 (223, "there is no such shelf") (by decide +kernel)) (vx_hat (fun w hw => hts w ((by decide +kernel : ∀ w ∈ (vx_atS RX5 225 eI eNs).filter goodWord, w ∈ wsX5_requireShelf) w hw)) nwE_I hXm.1.use) (otE_I 221) hXm.2.1.1 hXm.2.1.2 hS (hl.1.trans hml.symm) dX5_requireShelf_10 dX5_requireShelf_13 dX5_requireShelf_14 dX5_requireShelf_16 dX5_requireShelf_19 (fun x hx9 => (hno x hx9).elim) (by decide) (by decide) (by decide) (by decide) hlocks (fun t ha_ hs_ hq_ => ⟨(), trivial, ⟨(⟨rfl, rs_f (Or.inl c_1)⟩), xP hP hq_, va_K.moved ha_ hK, hD⟩, xF hS hs_ hq_⟩) hS.2.2 (by decide) (by decide)
  · refine lv_iload_n hx hb dX5_requireShelf_4 rfl (lv_at hl 0 rfl) ?_
    refine lv_bipush (v := (nI 6)) hx hb dX5_requireShelf_5 (by decide) ?_
    refine lv_icmp_lt (tgt := 20) hx hb dX5_requireShelf_7 (by decide) (fun c_7 => ?_) (fun c_7 => ?_)
    · have hP9 := hP
      have hD9 := hD
      refine W.widen (k := 1) (n := 6) (by decide) (by decide) ?_
      refine vx_ret ?_
      exact W.vret hx hb hr (fun t ht hW => ⟨⟨(), rfl, (by exact rs_t c_1 c_7), by rw [ht]; exact hP9, va_K.moved hW.alike hK, hD9⟩, hS.F ht⟩) hS.2.2 dX5_requireShelf_20
    · exact vx_throwS (cls := eI) (text := "there is no such shelf") (names := eNs) (ik := 221) (is := 223) (ic := 225) (sa := sa 223) hx hb hlt hown fitE.1 fitE.2.2.2 (hts (.classLink RX5 221 eI) (by decide +kernel)) (hts (.initialized eI) (by decide +kernel)) (hXm.2.2 (223, "there is no such shelf") (by decide +kernel)) (vx_hat (fun w hw => hts w ((by decide +kernel : ∀ w ∈ (vx_atS RX5 225 eI eNs).filter goodWord, w ∈ wsX5_requireShelf) w hw)) nwE_I hXm.1.use) (otE_I 221) hXm.2.1.1 hXm.2.1.2 hS (hl.1.trans hml.symm) dX5_requireShelf_10 dX5_requireShelf_13 dX5_requireShelf_14 dX5_requireShelf_16 dX5_requireShelf_19 (fun x hx9 => (hno x hx9).elim) (by decide) (by decide) (by decide) (by decide) hlocks (fun t ha_ hs_ hq_ => ⟨(), trivial, ⟨(⟨rfl, rs_f (Or.inr c_7)⟩), xP hP hq_, va_K.moved ha_ hK, hD⟩, xF hS hs_ hq_⟩) hS.2.2 (by decide) (by decide)
theorem hdX3_hasRecord : yX3_hasRecord.cls = RX3 ∧ yX3_hasRecord.cls ≠ "java/lang/invoke/MethodHandle" ∧ yX3_hasRecord.cls ≠ "java/lang/invoke/VarHandle" ∧ (parseMethodDescriptor yX3_hasRecord.desc).map (fun d => d.parameters.length) = some 1 := by decide +kernel
set_option maxHeartbeats 4000000 in
set_option maxRecDepth 100000 in
theorem kX5_requireRecord (l : Launch) (dC : Nat → ClassId) (dI : Nat → Nat → Nat) (cI cV cW : ClassId) (wa sw : Nat) (ad aK aV : Nat → Nat) (sa : Nat → Nat) (hlt : l.stackTraces = false) (sz : Nat) (v : Nat) (h : Nat) (g : Nat) (bs : Nat) (x : Nat) (sv : Nat) (sn : Int32) (vR : Nat) (vQ : Nat) (vF : Nat) (vW : Nat) (vP : Nat) (vH : Nat) (vN : Nat) (vO : Nat) (cn : Nat) (wk : Int32) (sc : Int32) (y : Int32) (hc : cn ≤ 16) : vx_Met l yX5_requireRecord wsX5_requireRecord ({ frames := 6, cells := 1, slots := 6, locals := 100 }) (pWx sa wa sw ad aK aV (dC, dI) (tyS cI cV cW) sz [.ref v, .int y] [(v, .inr (3, [.ref h, .ref g, .ref bs, .ref x, .ref sv, .int sn])), (h, .inr (2, [.ref vR, .ref vQ, .ref vF, .ref vW, .ref vP, .ref vH, .ref vN, .ref vO, .int (nI cn), .int wk, .int sc]))]) (va_Qv (fun (_ : Unit) => sHas y cn = true) (fun (_ : Unit) t => qB (dC, dI) (tyS cI cV cW) (va_A [(v, .inr (3, [.ref h, .ref g, .ref bs, .ref x, .ref sv, .int sn])), (h, .inr (2, [.ref vR, .ref vQ, .ref vF, .ref vW, .ref vP, .ref vH, .ref vN, .ref vO, .int (nI cn), .int wk, .int sc]))] sz) [(v, .inr (3, [.ref h, .ref g, .ref bs, .ref x, .ref sv, .int sn])), (h, .inr (2, [.ref vR, .ref vQ, .ref vF, .ref vW, .ref vP, .ref vH, .ref vN, .ref vO, .int (nI cn), .int wk, .int sc]))] t) (va_A [(v, .inr (3, [.ref h, .ref g, .ref bs, .ref x, .ref sv, .int sn])), (h, .inr (2, [.ref vR, .ref vQ, .ref vF, .ref vW, .ref vP, .ref vH, .ref vN, .ref vO, .int (nI cn), .int wk, .int sc]))] sz)) (vx_X (fun (_ : Unit) => True) (fun (E9 : String) _ t => (E9 = eI ∧ sHas y cn = false) ∧ qB (dC, dI) (tyS cI cV cW) (va_A [(v, .inr (3, [.ref h, .ref g, .ref bs, .ref x, .ref sv, .int sn])), (h, .inr (2, [.ref vR, .ref vQ, .ref vF, .ref vW, .ref vP, .ref vH, .ref vN, .ref vO, .int (nI cn), .int wk, .int sc]))] sz) [(v, .inr (3, [.ref h, .ref g, .ref bs, .ref x, .ref sv, .int sn])), (h, .inr (2, [.ref vR, .ref vQ, .ref vF, .ref vW, .ref vP, .ref vH, .ref vN, .ref vO, .int (nI cn), .int wk, .int sc]))] t) (va_A [(v, .inr (3, [.ref h, .ref g, .ref bs, .ref x, .ref sv, .int sn])), (h, .inr (2, [.ref vR, .ref vQ, .ref vF, .ref vW, .ref vP, .ref vH, .ref vN, .ref vO, .int (nI cn), .int wk, .int sc]))] sz)) 1 6 (va_A [(v, .inr (3, [.ref h, .ref g, .ref bs, .ref x, .ref sv, .int sn])), (h, .inr (2, [.ref vR, .ref vQ, .ref vF, .ref vW, .ref vP, .ref vH, .ref vN, .ref vO, .int (nI cn), .int wk, .int sc]))] sz) := by
  refine vx_ofW (cc := cX5_requireRecord) (maxL := 2) (ret := none) (by decide) rfl ?_
  intro p e s m args below meth c s₁ B hml hno hv
  obtain ⟨rfl, hsz, hP, hK, hD0, hIm, hNw, hXm⟩ := hv
  have hx := B.exec
  have hb := B.bytes
  have hr := B.returns
  have hts := atoms_spec (ws := wsX5_requireRecord) B.pre
  have hown : s.vm.findClass RX5 = some m.cls := findClass_of_methodNamed B.named
  have hlocks := B.notSynchronized
  subst hsz
  have hD := hD0.self (sz := s.heap.size)
  generalize hAe : va_A [(v, .inr (3, [.ref h, .ref g, .ref bs, .ref x, .ref sv, .int sn])), (h, .inr (2, [.ref vR, .ref vQ, .ref vF, .ref vW, .ref vP, .ref vH, .ref vN, .ref vO, .int (nI cn), .int wk, .int sc]))] s.heap.size = A at hD hIm hXm ⊢
  have hA : ∀ q : Nat, s.heap.size ≤ q → A q := fun q h => by rw [← hAe]; exact Or.inr h
  have hS : va_S A s.heap s.heap [] := va_S.rf
  refine w_gen hP hS (fun H locs hP hS => ?_)
  have hf10 := hts (.fieldLink RX5 10 "VaultShelves" "now" "LVaultShelves$Vault;") (by decide +kernel)
  have hiX3 : ∀ w ∈ u_ws RX3 TX3 11, w ∈ wsX5_requireRecord := by decide +kernel
  have hiX5 : ∀ w ∈ u_ws RX5 TX5 6, w ∈ wsX5_requireRecord := by decide +kernel
  have hl := lv_entry ([.ref v, .int y]) (n := 2) (Nat.le_of_ble_eq_true rfl)
  rw [lg_entry_eq]
  generalize (lg_sl ([.ref v, .int y]) ++ List.replicate (2 - (lg_sl ([.ref v, .int y])).length) Slot.unset).toArray = ls at hl ⊢
  replace hl : lv_has ls 2 [(0, .ref v), (1, .int y)] := hl
  refine lv_aload_n hx hb dX5_requireRecord_0 rfl (lv_at hl 0 rfl) ?_
  refine va_get (D := (dC, dI)) (ci := 3) (v := .ref h) (C := RX5) (T := TX5) (N := 6) hx hb hts hiX5 hown hK hP 0 rfl rfl 0 (by decide) hf10 (fun _ h9 => h9) rfl dX5_requireRecord_1 ?_
  refine lv_iload_n hx hb dX5_requireRecord_4 rfl (lv_at hl 1 rfl) ?_
  refine vp_callSi (W.runV (As := [.int y]) (rest := []) ⟨hx, hb, hml, hown, hts⟩ (kX3_hasRecord l dC dI cI cV cW h vR vQ vF vW vP vH vN vO cn wk sc y (hc)) (cwV 1 hts gX5_requireRecord_X3_hasRecord rfl rfl rfl hdX3_hasRecord ⟨Nat.le_of_ble_eq_true rfl, Nat.le_of_ble_eq_true rfl⟩) (pR_V hK hP 1 2 rfl rfl rfl [1] rfl) rfl rfl hl.1 rfl (lv_room (Nat.le_of_ble_eq_true rfl)) dX5_requireRecord_5 ⟨Nat.zero_le _, Nat.zero_le _⟩) (fun r_5 hr_ => ?_)
  subst hr_
  refine b_if_ne (tgt := 21) hx hb dX5_requireRecord_8 (by decide) (fun c_8 => ?_) (fun c_8 => ?_)
  · have hP9 := hP
    have hD9 := hD
    refine W.widen (k := 1) (n := 6) (by decide) (by decide) ?_
    refine vx_ret ?_
    exact W.vret hx hb hr (fun t ht hW => ⟨⟨(), rfl, (by exact c_8), by rw [ht]; exact hP9, va_K.moved hW.alike hK, hD9⟩, hS.F ht⟩) hS.2.2 dX5_requireRecord_21
  · exact vx_throwS (cls := eI) (text := "there is no such record") (names := eNs) (ik := 221) (is := 229) (ic := 225) (sa := sa 229) hx hb hlt hown fitE.1 fitE.2.2.2 (hts (.classLink RX5 221 eI) (by decide +kernel)) (hts (.initialized eI) (by decide +kernel)) (hXm.2.2 (229, "there is no such record") (by decide +kernel)) (vx_hat (fun w hw => hts w ((by decide +kernel : ∀ w ∈ (vx_atS RX5 225 eI eNs).filter goodWord, w ∈ wsX5_requireRecord) w hw)) nwE_I hXm.1.use) (otE_I 221) hXm.2.1.1 hXm.2.1.2 hS (hl.1.trans hml.symm) dX5_requireRecord_11 dX5_requireRecord_14 dX5_requireRecord_15 dX5_requireRecord_17 dX5_requireRecord_20 (fun x hx9 => (hno x hx9).elim) (by decide) (by decide) (by decide) (by decide) hlocks (fun t ha_ hs_ hq_ => ⟨(), trivial, ⟨(⟨rfl, c_8⟩), xP hP hq_, va_K.moved ha_ hK, hD⟩, xF hS hs_ hq_⟩) hS.2.2 (by decide) (by decide)
set_option maxHeartbeats 4000000 in
set_option maxRecDepth 100000 in
theorem kX5_requireWidth (l : Launch) (dC : Nat → ClassId) (dI : Nat → Nat → Nat) (cI cV cW : ClassId) (wa sw : Nat) (ad aK aV : Nat → Nat) (sa : Nat → Nat) (hlt : l.stackTraces = false) (sz : Nat) (y : Int32)  : vx_Met l yX5_requireWidth wsX5_requireWidth ({ frames := 6, cells := 1, slots := 6, locals := 100 }) (pWx sa wa sw ad aK aV (dC, dI) (tyS cI cV cW) sz [.int y] []) (va_Qv (fun (_ : Unit) => sIn y 1 30 = true) (fun (_ : Unit) t => qB (dC, dI) (tyS cI cV cW) (va_A [] sz) [] t) (va_A [] sz)) (vx_X (fun (_ : Unit) => True) (fun (E9 : String) _ t => (E9 = eA ∧ sIn y 1 30 = false) ∧ qB (dC, dI) (tyS cI cV cW) (va_A [] sz) [] t) (va_A [] sz)) 1 6 (va_A [] sz) := by
  refine vx_ofW (cc := cX5_requireWidth) (maxL := 1) (ret := none) (by decide) rfl ?_
  intro p e s m args below meth c s₁ B hml hno hv
  obtain ⟨rfl, hsz, hP, hK, hD0, hIm, hNw, hXm⟩ := hv
  have hx := B.exec
  have hb := B.bytes
  have hr := B.returns
  have hts := atoms_spec (ws := wsX5_requireWidth) B.pre
  have hown : s.vm.findClass RX5 = some m.cls := findClass_of_methodNamed B.named
  have hlocks := B.notSynchronized
  subst hsz
  have hD := hD0.self (sz := s.heap.size)
  generalize hAe : va_A [] s.heap.size = A at hD hIm hXm ⊢
  have hA : ∀ q : Nat, s.heap.size ≤ q → A q := fun q h => by rw [← hAe]; exact Or.inr h
  have hS : va_S A s.heap s.heap [] := va_S.rf
  refine w_gen hP hS (fun H locs hP hS => ?_)
  have hl := lv_entry ([.int y]) (n := 1) (Nat.le_of_ble_eq_true rfl)
  rw [lg_entry_eq]
  generalize (lg_sl ([.int y]) ++ List.replicate (1 - (lg_sl ([.int y])).length) Slot.unset).toArray = ls at hl ⊢
  replace hl : lv_has ls 1 [(0, .int y)] := hl
  refine lv_iload_n hx hb dX5_requireWidth_0 rfl (lv_at hl 0 rfl) ?_
  refine lv_iconst (v := (nI 1)) hx hb dX5_requireWidth_1 (by decide) ?_
  refine lv_icmp_lt (tgt := 11) hx hb dX5_requireWidth_2 (by decide) (fun c_2 => ?_) (fun c_2 => ?_)
  · exact vx_throwS (cls := eA) (text := "the width is not 1 to 30") (names := eNs) (ik := 41) (is := 231) (ic := 45) (sa := sa 231) hx hb hlt hown fitE.2.1 fitE.2.2.2 (hts (.classLink RX5 41 eA) (by decide +kernel)) (hts (.initialized eA) (by decide +kernel)) (hXm.2.2 (231, "the width is not 1 to 30") (by decide +kernel)) (vx_hat (fun w hw => hts w ((by decide +kernel : ∀ w ∈ (vx_atS RX5 45 eA eNs).filter goodWord, w ∈ wsX5_requireWidth) w hw)) nwE_A hXm.1.use) (otE_A 41) hXm.2.1.1 hXm.2.1.2 hS (hl.1.trans hml.symm) dX5_requireWidth_11 dX5_requireWidth_14 dX5_requireWidth_15 dX5_requireWidth_17 dX5_requireWidth_20 (fun x hx9 => (hno x hx9).elim) (by decide) (by decide) (by decide) (by decide) hlocks (fun t ha_ hs_ hq_ => ⟨(), trivial, ⟨(⟨rfl, rw_f (Or.inl c_2)⟩), xP hP hq_, va_K.moved ha_ hK, hD⟩, xF hS hs_ hq_⟩) hS.2.2 (by decide) (by decide)
  · refine lv_iload_n hx hb dX5_requireWidth_5 rfl (lv_at hl 0 rfl) ?_
    refine lv_bipush (v := (nI 30)) hx hb dX5_requireWidth_6 (by decide) ?_
    refine lv_icmp_le (tgt := 21) hx hb dX5_requireWidth_8 (by decide) (fun c_8 => ?_) (fun c_8 => ?_)
    · have hP9 := hP
      have hD9 := hD
      refine W.widen (k := 1) (n := 6) (by decide) (by decide) ?_
      refine vx_ret ?_
      exact W.vret hx hb hr (fun t ht hW => ⟨⟨(), rfl, (by exact rw_t c_2 c_8), by rw [ht]; exact hP9, va_K.moved hW.alike hK, hD9⟩, hS.F ht⟩) hS.2.2 dX5_requireWidth_21
    · exact vx_throwS (cls := eA) (text := "the width is not 1 to 30") (names := eNs) (ik := 41) (is := 231) (ic := 45) (sa := sa 231) hx hb hlt hown fitE.2.1 fitE.2.2.2 (hts (.classLink RX5 41 eA) (by decide +kernel)) (hts (.initialized eA) (by decide +kernel)) (hXm.2.2 (231, "the width is not 1 to 30") (by decide +kernel)) (vx_hat (fun w hw => hts w ((by decide +kernel : ∀ w ∈ (vx_atS RX5 45 eA eNs).filter goodWord, w ∈ wsX5_requireWidth) w hw)) nwE_A hXm.1.use) (otE_A 41) hXm.2.1.1 hXm.2.1.2 hS (hl.1.trans hml.symm) dX5_requireWidth_11 dX5_requireWidth_14 dX5_requireWidth_15 dX5_requireWidth_17 dX5_requireWidth_20 (fun x hx9 => (hno x hx9).elim) (by decide) (by decide) (by decide) (by decide) hlocks (fun t ha_ hs_ hq_ => ⟨(), trivial, ⟨(⟨rfl, rw_f (Or.inr (Int32.not_le.mp c_8))⟩), xP hP hq_, va_K.moved ha_ hK, hD⟩, xF hS hs_ hq_⟩) hS.2.2 (by decide) (by decide)
set_option maxHeartbeats 4000000 in
set_option maxRecDepth 100000 in
theorem kX5_requireSteps (l : Launch) (dC : Nat → ClassId) (dI : Nat → Nat → Nat) (cI cV cW : ClassId) (wa sw : Nat) (ad aK aV : Nat → Nat) (sa : Nat → Nat) (hlt : l.stackTraces = false) (sz : Nat) (y : Int32)  : vx_Met l yX5_requireSteps wsX5_requireSteps ({ frames := 6, cells := 1, slots := 6, locals := 100 }) (pWx sa wa sw ad aK aV (dC, dI) (tyS cI cV cW) sz [.int y] []) (va_Qv (fun (_ : Unit) => sIn y 1 20 = true) (fun (_ : Unit) t => qB (dC, dI) (tyS cI cV cW) (va_A [] sz) [] t) (va_A [] sz)) (vx_X (fun (_ : Unit) => True) (fun (E9 : String) _ t => (E9 = eA ∧ sIn y 1 20 = false) ∧ qB (dC, dI) (tyS cI cV cW) (va_A [] sz) [] t) (va_A [] sz)) 1 6 (va_A [] sz) := by
  refine vx_ofW (cc := cX5_requireSteps) (maxL := 1) (ret := none) (by decide) rfl ?_
  intro p e s m args below meth c s₁ B hml hno hv
  obtain ⟨rfl, hsz, hP, hK, hD0, hIm, hNw, hXm⟩ := hv
  have hx := B.exec
  have hb := B.bytes
  have hr := B.returns
  have hts := atoms_spec (ws := wsX5_requireSteps) B.pre
  have hown : s.vm.findClass RX5 = some m.cls := findClass_of_methodNamed B.named
  have hlocks := B.notSynchronized
  subst hsz
  have hD := hD0.self (sz := s.heap.size)
  generalize hAe : va_A [] s.heap.size = A at hD hIm hXm ⊢
  have hA : ∀ q : Nat, s.heap.size ≤ q → A q := fun q h => by rw [← hAe]; exact Or.inr h
  have hS : va_S A s.heap s.heap [] := va_S.rf
  refine w_gen hP hS (fun H locs hP hS => ?_)
  have hl := lv_entry ([.int y]) (n := 1) (Nat.le_of_ble_eq_true rfl)
  rw [lg_entry_eq]
  generalize (lg_sl ([.int y]) ++ List.replicate (1 - (lg_sl ([.int y])).length) Slot.unset).toArray = ls at hl ⊢
  replace hl : lv_has ls 1 [(0, .int y)] := hl
  refine lv_iload_n hx hb dX5_requireSteps_0 rfl (lv_at hl 0 rfl) ?_
  refine lv_iconst (v := (nI 1)) hx hb dX5_requireSteps_1 (by decide) ?_
  refine lv_icmp_lt (tgt := 11) hx hb dX5_requireSteps_2 (by decide) (fun c_2 => ?_) (fun c_2 => ?_)
  · exact vx_throwS (cls := eA) (text := "the steps are not 1 to 20") (names := eNs) (ik := 41) (is := 233) (ic := 45) (sa := sa 233) hx hb hlt hown fitE.2.1 fitE.2.2.2 (hts (.classLink RX5 41 eA) (by decide +kernel)) (hts (.initialized eA) (by decide +kernel)) (hXm.2.2 (233, "the steps are not 1 to 20") (by decide +kernel)) (vx_hat (fun w hw => hts w ((by decide +kernel : ∀ w ∈ (vx_atS RX5 45 eA eNs).filter goodWord, w ∈ wsX5_requireSteps) w hw)) nwE_A hXm.1.use) (otE_A 41) hXm.2.1.1 hXm.2.1.2 hS (hl.1.trans hml.symm) dX5_requireSteps_11 dX5_requireSteps_14 dX5_requireSteps_15 dX5_requireSteps_17 dX5_requireSteps_20 (fun x hx9 => (hno x hx9).elim) (by decide) (by decide) (by decide) (by decide) hlocks (fun t ha_ hs_ hq_ => ⟨(), trivial, ⟨(⟨rfl, rw_f (Or.inl c_2)⟩), xP hP hq_, va_K.moved ha_ hK, hD⟩, xF hS hs_ hq_⟩) hS.2.2 (by decide) (by decide)
  · refine lv_iload_n hx hb dX5_requireSteps_5 rfl (lv_at hl 0 rfl) ?_
    refine lv_bipush (v := (nI 20)) hx hb dX5_requireSteps_6 (by decide) ?_
    refine lv_icmp_le (tgt := 21) hx hb dX5_requireSteps_8 (by decide) (fun c_8 => ?_) (fun c_8 => ?_)
    · have hP9 := hP
      have hD9 := hD
      refine W.widen (k := 1) (n := 6) (by decide) (by decide) ?_
      refine vx_ret ?_
      exact W.vret hx hb hr (fun t ht hW => ⟨⟨(), rfl, (by exact rw_t c_2 c_8), by rw [ht]; exact hP9, va_K.moved hW.alike hK, hD9⟩, hS.F ht⟩) hS.2.2 dX5_requireSteps_21
    · exact vx_throwS (cls := eA) (text := "the steps are not 1 to 20") (names := eNs) (ik := 41) (is := 233) (ic := 45) (sa := sa 233) hx hb hlt hown fitE.2.1 fitE.2.2.2 (hts (.classLink RX5 41 eA) (by decide +kernel)) (hts (.initialized eA) (by decide +kernel)) (hXm.2.2 (233, "the steps are not 1 to 20") (by decide +kernel)) (vx_hat (fun w hw => hts w ((by decide +kernel : ∀ w ∈ (vx_atS RX5 45 eA eNs).filter goodWord, w ∈ wsX5_requireSteps) w hw)) nwE_A hXm.1.use) (otE_A 41) hXm.2.1.1 hXm.2.1.2 hS (hl.1.trans hml.symm) dX5_requireSteps_11 dX5_requireSteps_14 dX5_requireSteps_15 dX5_requireSteps_17 dX5_requireSteps_20 (fun x hx9 => (hno x hx9).elim) (by decide) (by decide) (by decide) (by decide) hlocks (fun t ha_ hs_ hq_ => ⟨(), trivial, ⟨(⟨rfl, rw_f (Or.inr (Int32.not_le.mp c_8))⟩), xP hP hq_, va_K.moved ha_ hK, hD⟩, xF hS hs_ hq_⟩) hS.2.2 (by decide) (by decide)
